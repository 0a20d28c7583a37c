theorem tl_end {fT g : Nat → Int64} {lo hi b cnt : Nat} {tk : Bool} (h1 : hi < b) (h3 : b ≤ hi + 1 ∨ b = lo) (h : ∀ x k, k < 448 → lb g (448 * x + k) = if k = cnt ∧ lo ≤ x ∧ x < b then tk else lb fT (448 * x + k)) : ∀ x k, k < 448 → lb g (448 * x + k) = if k = cnt ∧ lo ≤ x ∧ x ≤ hi then tk else lb fT (448 * x + k) := by
  intro x k hk
  rw [h x k hk]
  by_cases z : k = cnt ∧ lo ≤ x ∧ x ≤ hi
  · rw [if_pos z, if_pos ⟨z.1, z.2.1, by omega⟩]
  · rw [if_neg z, if_neg (fun q => z ⟨q.1, q.2.1, by omega⟩)]
