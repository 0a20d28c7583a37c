theorem BR_i0 {a : Nat → Nat} {L cnt i : Nat} {fT : Nat → Int64} (h : ∀ x, x < 256 → lb fT (448 * x + cnt) = false) : BR a L cnt fT fT false i 0 i := by
  refine ⟨rfl, fun x hx => ?_, fun _ _ _ _ => rfl⟩
  rw [h x hx]
  simp
theorem BR_i1 {a : Nat → Nat} {L cnt i : Nat} {fT g : Nat → Int64} (hc : cnt < 448) (h : ∀ x, x < 256 → lb fT (448 * x + cnt) = false) (hg : ∀ x k, k < 448 → lb g (448 * x + k) = if k = cnt ∧ 0 ≤ x ∧ x ≤ 255 then decide (1 ≠ 0) else lb fT (448 * x + k)) : BR a L cnt fT g true (i + 1) 0 (i + 1) := by
  refine ⟨rfl, fun x hx => ?_, fun x k hk hne => ?_⟩
  · rw [hg x cnt hc, if_pos ⟨rfl, Nat.zero_le _, by omega⟩]
    simp
  · rw [hg x k hk, if_neg (fun q => hne q.1)]
theorem brn_1 {a : Nat → Nat} {L i : Nat} (h : brg a L i = true) : brn a L i = bre a L L (i + 1) + 1 := by
  unfold brn
  rw [if_pos h]
theorem brn_0 {a : Nat → Nat} {L i : Nat} (h : ¬ brg a L i = true) : brn a L i = bre a L L i + 1 := by
  unfold brn
  rw [if_neg h]
theorem ti_any {fT g : Nat → Int64} {cnt : Nat} (h : ∀ x k, k < 448 → lb g (448 * x + k) = if k = cnt ∧ 0 ≤ x ∧ x ≤ 255 then decide (1 ≠ 0) else lb fT (448 * x + k)) : ∀ x k, x < 256 → k < 448 → lb g (448 * x + k) = if k = cnt then (fun _ : Nat => true) x else lb fT (448 * x + k) := by
  intro x k hx hk
  rw [h x k hk]
  by_cases z : k = cnt
  · rw [if_pos ⟨z, Nat.zero_le _, by omega⟩, if_pos z]; rfl
  · rw [if_neg (fun q => z q.1), if_neg z]
theorem ti_lit {fT g : Nat → Int64} {cnt v : Nat} (h : ∀ x k, k < 448 → lb g (448 * x + k) = if k = cnt ∧ v ≤ x ∧ x ≤ v then decide (1 ≠ 0) else lb fT (448 * x + k)) (hn : ∀ x, x < 256 → lb fT (448 * x + cnt) = false) : ∀ x k, x < 256 → k < 448 → lb g (448 * x + k) = if k = cnt then (fun x => decide (x = v)) x else lb fT (448 * x + k) := by
  intro x k hx hk
  rw [h x k hk]
  by_cases z : k = cnt
  · rw [if_pos z]
    by_cases y : x = v
    · rw [if_pos ⟨z, by omega, by omega⟩]; simp [y]
    · rw [if_neg (fun q => y (by omega)), z, hn x hx]; simp [y]
  · rw [if_neg (fun q => z q.1), if_neg z]
theorem ths_s {a : Nat → Nat} {L r i : Nat} {ts us : List (Option (Nat → Bool))} (hr : r < L) (hi : i < L) (h : us = ts ++ ths a L (L - r) i) : us = (ts ++ [thv a L i]) ++ ths a L (L - (r + 1)) (thn a L i) := by
  rw [h, show L - r = (L - (r + 1)) + 1 by omega]
  simp only [ths, if_pos hi, List.append_assoc, List.singleton_append]
theorem ths_e {a : Nat → Nat} {L r i : Nat} {ts us : List (Option (Nat → Bool))} (h : us = ts ++ ths a L (L - r) i) (hr : L ≤ r ∨ L ≤ i) : us = ts := by
  rw [h]
  rcases hr with q | q
  · rw [show L - r = 0 by omega]; simp [ths]
  · cases L - r with
    | zero => simp [ths]
    | succ n => simp [ths, Nat.not_lt.mpr q]
theorem tC_s {ts : List (Option (Nat → Bool))} {t : Option (Nat → Bool)} {r : Nat} (h : tC ts ≤ r) : tC (ts ++ [t]) ≤ r + 1 := by
  rw [tC_app]
  cases t with
  | none => simp only [tC]; omega
  | some S => simp only [tC]; omega
