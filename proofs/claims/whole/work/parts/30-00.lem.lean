section WLC
variable {p : Program} {l : Launch} {e : Env} {R : Room} {s : State} {m : MethodId} {args : Array Value} {below : List Frame} {meth : Method} {c : Code} {H : Heap} {locs : List Loc} {Q : State → Prop} {pc : Nat} {ls : Array Slot}
/-- a loop that may make cells -/
theorem wl_loopC {σ : Type} (μ cs ss : σ → Nat) (I : σ → Heap → List Loc → Array Slot → Prop)
    (hs : ∀ (x : σ) (H : Heap) (locs : List Loc) (ls : Array Slot), I x H locs ls → (∀ (y : σ) (H : Heap) (locs : List Loc) (ls : Array Slot), I y H locs ls → μ y < μ x → W p l e R s m args below meth c H locs (cs y) (ss y) Q (F0 m pc ls [])) → W p l e R s m args below meth c H locs (cs x) (ss x) Q (F0 m pc ls []))
    (x : σ) (h : I x H locs ls) : W p l e R s m args below meth c H locs (cs x) (ss x) Q (F0 m pc ls []) := by
  have key : ∀ (n : Nat) (x : σ) (H : Heap) (locs : List Loc) (ls : Array Slot), μ x < n → I x H locs ls → W p l e R s m args below meth c H locs (cs x) (ss x) Q (F0 m pc ls []) := by
    intro n
    induction n with
    | zero => intro x H locs ls hm _; exact absurd hm (Nat.not_lt_zero _)
    | succ n ih =>
      intro x H locs ls hm hI
      exact hs x H locs ls hI (fun y H locs ls hy hlt => ih y H locs ls (by omega) hy)
  exact key (μ x + 1) x H locs ls (Nat.lt_succ_self _) h
end WLC
theorem wl_arr {ty : FieldType} {args : Array Value} {s : State} (h : (Cond.arrayClass ty).before args s = true) (hp : ∀ (C : String), ty ≠ .object C := by intro C; exact fun z => by cases z) : ∃ cA, ArrOfT s cA ty ∧ va_RA s cA ty := by
  obtain ⟨cA, kA, comp, h1, h2, h3⟩ := Cond.arrayClass_spec h
  refine ⟨cA, fun n z => ⟨fun k h => (by cases h), kA, h2, comp, h3⟩, ?_⟩
  cases ty with
  | object C => exact absurd rfl (hp C)
  | _ => exact h1
theorem lw_in {L k : Nat} (hL : L ≤ 3072) (hk : 6 * k ≤ L) (h : ¬ nI L - nI 6 < nI (6 * k)) : 6 * k + 6 ≤ L := by
  have h1 : ¬ (nI L - nI 6).toInt < (nI (6 * k)).toInt := fun z => h (Int32.lt_iff_toInt_lt.mpr z)
  rw [pk_sub_toInt (by omega) (by omega), nI_toInt (by omega)] at h1
  omega
theorem ap4_lt {tp : Nat → Nat} (h : ∀ j, tp j < 256) (n : Nat) (v : Int32) : ∀ j, ap4 tp n v j < 256 := by
  intro j
  unfold ap4 va_up
  split
  · exact by4_lt _ _
  · split
    · exact by4_lt _ _
    · split
      · exact by4_lt _ _
      · split
        · exact by4_lt _ _
        · exact h j
theorem fd_lt {tp : Nat → Nat} {tl : Nat} {v1 v2 v3 v4 v5 : Int32} (h : ∀ j, tp j < 256) : ∀ j, (if tl ≤ 380 then fd5 tp tl v1 v2 v3 v4 v5 else tp) j < 256 := by
  by_cases z : tl ≤ 380
  · rw [if_pos z]
    exact ap4_lt (ap4_lt (ap4_lt (ap4_lt (ap4_lt h _ _) _ _) _ _) _ _) _ _
  · rw [if_neg z]; exact h
theorem fd_le {tl : Nat} (h : tl ≤ 400) : (if tl ≤ 380 then tl + 20 else tl) ≤ 400 := by
  by_cases z : tl ≤ 380
  · rw [if_pos z]; omega
  · rw [if_neg z]; exact h
theorem en_same {tl t1 t2 : Nat} {n r1 r2 : Int32} (htl : tl ≤ 400) (h1 : (∃ k0, k0 ≤ tl ∧ n = nI k0 ∧ t1 = k0 ∧ r1 = 1) ∨ ((n < 0 ∨ ¬ n ≤ nI tl) ∧ t1 = tl ∧ r1 = 0)) (h2 : (∃ k0, k0 ≤ tl ∧ n = nI k0 ∧ t2 = k0 ∧ r2 = 1) ∨ ((n < 0 ∨ ¬ n ≤ nI tl) ∧ t2 = tl ∧ r2 = 0)) : r1 = r2 ∧ t1 = t2 ∧ t1 ≤ tl := by
  have no : ∀ k0, k0 ≤ tl → n = nI k0 → ¬ (n < 0 ∨ ¬ n ≤ nI tl) := by
    intro k0 hk e z
    subst e
    rcases z with z | z
    · exact nI_pos (by omega) z
    · exact z (nI_le hk (by omega))
  rcases h1 with ⟨k, hk, e, et, er⟩ | ⟨hn, et, er⟩
  · rcases h2 with ⟨k', hk', e', et', er'⟩ | ⟨hn', et', er'⟩
    · have : k = k' := (nI_eq (show k < 2 ^ 31 by omega) (show k' < 2 ^ 31 by omega)).mp (e.symm.trans e')
      exact ⟨er.trans er'.symm, by omega, by omega⟩
    · exact absurd hn' (no k hk e)
  · rcases h2 with ⟨k', hk', e', et', er'⟩ | ⟨hn', et', er'⟩
    · exact absurd hn (no k' hk' e')
    · exact ⟨er.trans er'.symm, by omega, by omega⟩
theorem cp_lt {f g : Nat → Nat} {n : Nat} (hf : ∀ j, f j < 256) (hg : ∀ j, g j < 256) : ∀ j, va_cpy f g 0 0 n j < 256 := by
  intro j
  unfold va_cpy
  split
  · exact hf _
  · exact hg _
theorem cp_eq (f g : Nat → Nat) (n : Nat) : ∀ j, j < n → f j = va_cpy f g 0 0 n j := by
  intro j hj
  unfold va_cpy
  rw [if_pos (by omega), Nat.zero_add, Nat.sub_zero]
theorem ltz (lt : Nat → Nat) : (fun j => lt (0 + j)) = lt := by
  funext j
  rw [Nat.zero_add]
-- a pattern's things look at its own bytes alone
theorem rbv_c {a b : Nat → Nat} {L : Nat} (h : ∀ j, j < L → a j = b j) {i : Nat} (hi : i < L) : rbv a L i = rbv b L i ∧ rbn a L i = rbn b L i := by
  unfold rbv rbn
  rw [h i hi]
  by_cases z : b i = 92 ∧ i + 1 < L
  · rw [if_pos z, if_pos z, if_pos z]
    exact ⟨h _ z.2, rfl⟩
  · rw [if_neg z, if_neg z, if_neg z]
    exact ⟨rfl, rfl⟩
theorem bnd_c {a b : Nat → Nat} {L : Nat} (h : ∀ j, j < L → a j = b j) (i : Nat) : bnd a L i = bnd b L i := by
  unfold bnd
  rcases Nat.lt_or_ge i L with z | z
  · rw [h i z]
  · rw [show decide (L ≤ i) = true from decide_eq_true z, Bool.true_or, Bool.true_or]
theorem rng_cc {a b : Nat → Nat} {L : Nat} (h : ∀ j, j < L → a j = b j) (i : Nat) : rng a L i = rng b L i := by
  unfold rng
  rw [bnd_c h]
  rcases Nat.lt_or_ge i L with z | z
  · rw [h i z]
  · rw [show decide (i < L) = false from decide_eq_false (by omega)]
    simp
theorem tnx_c {a b : Nat → Nat} {L : Nat} (h : ∀ j, j < L → a j = b j) {i : Nat} (hi : i < L) : thi a L i = thi b L i ∧ tnx a L i = tnx b L i := by
  have e := rbv_c h hi
  unfold thi tnx
  rw [e.1, e.2, rng_cc h]
  by_cases z : rng b L (rbn b L i) = true
  · have z2 := z
    unfold rng at z2
    simp only [Bool.and_eq_true, decide_eq_true_eq, Bool.not_eq_true'] at z2
    have z3 : rbn b L i + 1 < L := (bnd_f (by rw [z2.2]; decide)).1
    rw [if_pos z, if_pos z, if_pos z, if_pos z, (rbv_c h z3).1, (rbv_c h z3).2]
    exact ⟨rfl, rfl⟩
  · rw [if_neg z, if_neg z, if_neg z, if_neg z]
    exact ⟨rfl, rfl⟩
theorem brm_c {a b : Nat → Nat} {L : Nat} (h : ∀ j, j < L → a j = b j) : ∀ (n i : Nat), (∀ x, brm a L n i x = brm b L n i x) ∧ bre a L n i = bre b L n i := by
  intro n
  induction n with
  | zero => intro i; exact ⟨fun _ => rfl, rfl⟩
  | succ n ih =>
    intro i
    simp only [brm, bre]
    rw [bnd_c h]
    by_cases z : bnd b L i = true
    · refine ⟨fun x => ?_, ?_⟩
      · rw [if_pos z, if_pos z]
      · rw [if_pos z, if_pos z]
    · have hi := (bnd_f z).1
      have e1 := rbv_c h hi
      have e2 := tnx_c h hi
      refine ⟨fun x => ?_, ?_⟩
      · rw [if_neg z, if_neg z, e1.1, e2.1, e2.2, (ih _).1 x]
      · rw [if_neg z, if_neg z, e2.2, (ih _).2]
theorem brg_c {a b : Nat → Nat} {L : Nat} (h : ∀ j, j < L → a j = b j) (i : Nat) : brg a L i = brg b L i := by
  unfold brg
  rcases Nat.lt_or_ge i L with z | z
  · rw [h i z]
  · rw [show decide (i < L) = false from decide_eq_false (by omega), Bool.false_and, Bool.false_and]
theorem brs_c {a b : Nat → Nat} {L : Nat} (h : ∀ j, j < L → a j = b j) (i : Nat) : brs a L i = brs b L i ∧ brn a L i = brn b L i := by
  refine ⟨?_, ?_⟩
  · funext x
    unfold brs
    rw [brg_c h, (brm_c h L (i + 1)).1 x, (brm_c h L i).1 x]
  · unfold brn
    rw [brg_c h, (brm_c h L (i + 1)).2, (brm_c h L i).2]
theorem thv_c {a b : Nat → Nat} {L : Nat} (h : ∀ j, j < L → a j = b j) {i : Nat} (hi : i < L) : thv a L i = thv b L i ∧ thn a L i = thn b L i := by
  unfold thv thn
  rw [h i hi, (brs_c h (i + 1)).1, (brs_c h (i + 1)).2, (rbv_c h hi).1, (rbv_c h hi).2]
  exact ⟨rfl, rfl⟩
theorem ths_c {a b : Nat → Nat} {L : Nat} (h : ∀ j, j < L → a j = b j) : ∀ (n i : Nat), ths a L n i = ths b L n i := by
  intro n
  induction n with
  | zero => intro i; rfl
  | succ n ih =>
    intro i
    simp only [ths]
    by_cases z : i < L
    · rw [if_pos z, if_pos z, (thv_c h z).1, (thv_c h z).2, ih]
    · rw [if_neg z, if_neg z]
