theorem nI_m1 {n : Nat} (h : n < 2 ^ 31) : ¬ nI n = -1 := by
  intro z
  have : (nI n).toInt = (-1 : Int32).toInt := by rw [z]
  rw [nI_toInt h] at this
  have e : (-1 : Int32).toInt = -1 := by decide
  rw [e] at this
  omega
theorem rb_a {a : Nat → Nat} {L i : Nat} (h : a i ≠ 92) : i + 1 = rbn a L i ∧ nI (a i) = nI (rbv a L i) := by
  unfold rbn rbv
  rw [if_neg (fun z => h z.1), if_neg (fun z => h z.1)]
  exact ⟨rfl, rfl⟩
theorem rb_b {a : Nat → Nat} {L i : Nat} (h : L ≤ i + 1) : i + 1 = rbn a L i ∧ nI (a i) = nI (rbv a L i) := by
  unfold rbn rbv
  rw [if_neg (fun z => by omega), if_neg (fun z => by omega)]
  exact ⟨rfl, rfl⟩
theorem rb_c {a : Nat → Nat} {L i : Nat} (h : a i = 92) (h2 : i + 1 < L) : i + 1 + 1 = rbn a L i ∧ nI (a (i + 1)) = nI (rbv a L i) := by
  unfold rbn rbv
  rw [if_pos ⟨h, h2⟩, if_pos ⟨h, h2⟩]
  exact ⟨rfl, rfl⟩
theorem rbn_le (a : Nat → Nat) {L i : Nat} (h : i < L) : rbn a L i ≤ L ∧ i < rbn a L i := by
  unfold rbn
  by_cases z : a i = 92 ∧ i + 1 < L
  · rw [if_pos z]; omega
  · rw [if_neg z]; omega
theorem rbv_lt {a : Nat → Nat} {L i : Nat} (ha : ∀ j, j < L → a j < 256) (h : i < L) : rbv a L i < 256 := by
  unfold rbv
  by_cases z : a i = 92 ∧ i + 1 < L
  · rw [if_pos z]; exact ha _ z.2
  · rw [if_neg z]; exact ha _ h
theorem bn_1 {a : Nat → Nat} {L i : Nat} (h : L ≤ i ∨ a i = 93) : nI 1 = if bnd a L i = true then (1 : Int32) else 0 := by
  have : bnd a L i = true := by
    unfold bnd
    rcases h with h | h
    · simp [h]
    · simp [h]
  rw [if_pos this]; rfl
theorem bn_0 {a : Nat → Nat} {L i : Nat} (h : i < L) (h2 : a i ≠ 93) : nI 0 = if bnd a L i = true then (1 : Int32) else 0 := by
  have : bnd a L i = false := by
    unfold bnd
    simp [h2, Nat.not_le.mpr h]
  rw [if_neg (by rw [this]; decide)]; rfl
theorem bnd_f {a : Nat → Nat} {L i : Nat} (h : ¬ bnd a L i = true) : i < L ∧ a i ≠ 93 := by
  unfold bnd at h
  simp only [Bool.or_eq_true, decide_eq_true_eq, not_or] at h
  exact ⟨by omega, h.2⟩
theorem rng_1 {a : Nat → Nat} {L i : Nat} (h : i < L) (h2 : a i = 45) (h3 : ¬ bnd a L (i + 1) = true) : rng a L i = true := by
  unfold rng
  simp [h, h2, h3]
theorem rng_a {a : Nat → Nat} {L i : Nat} (h : ¬ i < L) : ¬ rng a L i = true := by
  unfold rng
  simp [h]
theorem rng_b {a : Nat → Nat} {L i : Nat} (h : a i ≠ 45) : ¬ rng a L i = true := by
  unfold rng
  simp [h]
theorem rng_c {a : Nat → Nat} {L i : Nat} (h : bnd a L (i + 1) = true) : ¬ rng a L i = true := by
  unfold rng
  simp [h]
theorem tn_1 {a : Nat → Nat} {L i : Nat} (h : rng a L (rbn a L i) = true) : rbn a L (rbn a L i + 1) = tnx a L i ∧ thi a L i = rbv a L (rbn a L i + 1) := by
  unfold tnx thi
  rw [if_pos h, if_pos h]
  exact ⟨rfl, rfl⟩
theorem tn_0 {a : Nat → Nat} {L i : Nat} (h : ¬ rng a L (rbn a L i) = true) : rbn a L i = tnx a L i ∧ thi a L i = rbv a L i := by
  unfold tnx thi
  rw [if_neg h, if_neg h]
  exact ⟨rfl, rfl⟩
theorem tnx_le (a : Nat → Nat) {L i : Nat} (h : i < L) : tnx a L i ≤ L ∧ i < tnx a L i := by
  have h1 := rbn_le a h
  by_cases z : rng a L (rbn a L i) = true
  · have e := (tn_1 z).1
    have z2 := z
    unfold rng at z2
    simp only [Bool.and_eq_true, decide_eq_true_eq, Bool.not_eq_true'] at z2
    have z3 : rbn a L i + 1 < L := (bnd_f (by rw [z2.2]; decide)).1
    have h2 := rbn_le a z3
    rw [← e]
    omega
  · rw [← (tn_0 z).1]
    exact h1
theorem bre_le (a : Nat → Nat) (L : Nat) : ∀ (n i : Nat), i ≤ L → bre a L n i ≤ L ∧ i ≤ bre a L n i := by
  intro n
  induction n with
  | zero => intro i h; exact ⟨h, Nat.le_refl _⟩
  | succ n ih =>
    intro i h
    simp only [bre]
    by_cases z : bnd a L i = true
    · rw [if_pos z]; exact ⟨h, Nat.le_refl _⟩
    · rw [if_neg z]
      have h1 := tnx_le a (bnd_f z).1
      have h2 := ih _ h1.1
      omega
theorem brg_1 {a : Nat → Nat} {L i : Nat} (h : i < L) (h2 : a i = 94) : brg a L i = true := by
  unfold brg
  simp [h, h2]
theorem brg_a {a : Nat → Nat} {L i : Nat} (h : ¬ i < L) : ¬ brg a L i = true := by
  unfold brg
  simp [h]
theorem brg_b {a : Nat → Nat} {L i : Nat} (h : a i ≠ 94) : ¬ brg a L i = true := by
  unfold brg
  simp [h]
/-- the row of the thing that brackets tell, so far -/
def BR (a : Nat → Nat) (L cnt : Nat) (fT g : Nat → Int64) (neg : Bool) (i0 r i : Nat) : Prop :=
  bre a L (L - r) i = bre a L L i0 ∧ (∀ x, x < 256 → brm a L L i0 x = ((neg ^^ lb g (448 * x + cnt)) || brm a L (L - r) i x)) ∧ (∀ x k, k < 448 → k ≠ cnt → lb g (448 * x + k) = lb fT (448 * x + k))
theorem BR_s {a : Nat → Nat} {L cnt : Nat} {fT g g2 : Nat → Int64} {neg : Bool} {i0 r i : Nat} (hc : cnt < 448) (h : BR a L cnt fT g neg i0 r i) (hr : r < L) (hb : ¬ bnd a L i = true) (hg : ∀ x k, k < 448 → lb g2 (448 * x + k) = if k = cnt ∧ rbv a L i ≤ x ∧ x ≤ thi a L i then !neg else lb g (448 * x + k)) : BR a L cnt fT g2 neg i0 (r + 1) (tnx a L i) := by
  obtain ⟨h1, h2, h3⟩ := h
  have e : L - r = (L - (r + 1)) + 1 := by omega
  rw [e] at h1 h2
  simp only [bre, brm, if_neg hb] at h1 h2
  refine ⟨h1, fun x hx => ?_, fun x k hk hne => ?_⟩
  · rw [h2 x hx, hg x cnt hc]
    by_cases z : rbv a L i ≤ x ∧ x ≤ thi a L i
    · rw [if_pos ⟨rfl, z⟩, show decide (rbv a L i ≤ x ∧ x ≤ thi a L i) = true from decide_eq_true z]
      cases neg <;> simp
    · rw [if_neg (fun q => z q.2), show decide (rbv a L i ≤ x ∧ x ≤ thi a L i) = false from decide_eq_false z, Bool.false_or]
  · rw [hg x k hk, if_neg (fun q => hne q.1)]
    exact h3 x k hk hne
theorem BR_e {a : Nat → Nat} {L cnt : Nat} {fT g : Nat → Int64} {neg : Bool} {i0 r i : Nat} (h : BR a L cnt fT g neg i0 r i) (hr : L ≤ r ∨ bnd a L i = true) : i = bre a L L i0 ∧ (∀ x, x < 256 → brm a L L i0 x = (neg ^^ lb g (448 * x + cnt))) ∧ (∀ x k, k < 448 → k ≠ cnt → lb g (448 * x + k) = lb fT (448 * x + k)) := by
  obtain ⟨h1, h2, h3⟩ := h
  have e1 : bre a L (L - r) i = i := by
    rcases hr with q | q
    · rw [show L - r = 0 by omega]; rfl
    · cases L - r with
      | zero => rfl
      | succ n => simp only [bre, if_pos q]
  have e2 : ∀ x, brm a L (L - r) i x = false := by
    intro x
    rcases hr with q | q
    · rw [show L - r = 0 by omega]; rfl
    · cases L - r with
      | zero => rfl
      | succ n => simp only [brm, if_pos q]
  refine ⟨by rw [← h1, e1], fun x hx => ?_, h3⟩
  rw [h2 x hx, e2, Bool.or_false]
theorem br_1 {a : Nat → Nat} {L cnt i : Nat} {fT g : Nat → Int64} (h : brg a L i = true) (hb : ∀ x, x < 256 → brm a L L (i + 1) x = (true ^^ lb g (448 * x + cnt))) (hk : ∀ x k, k < 448 → k ≠ cnt → lb g (448 * x + k) = lb fT (448 * x + k)) : ∀ x k, x < 256 → k < 448 → lb g (448 * x + k) = if k = cnt then brs a L i x else lb fT (448 * x + k) := by
  intro x k hx hk2
  by_cases z : k = cnt
  · rw [if_pos z, z]
    unfold brs
    rw [if_pos h, hb x hx]
    cases lb g (448 * x + cnt) <;> rfl
  · rw [if_neg z]; exact hk x k hk2 z
theorem br_0 {a : Nat → Nat} {L cnt i : Nat} {fT g : Nat → Int64} (h : ¬ brg a L i = true) (hb : ∀ x, x < 256 → brm a L L i x = (false ^^ lb g (448 * x + cnt))) (hk : ∀ x k, k < 448 → k ≠ cnt → lb g (448 * x + k) = lb fT (448 * x + k)) : ∀ x k, x < 256 → k < 448 → lb g (448 * x + k) = if k = cnt then brs a L i x else lb fT (448 * x + k) := by
  intro x k hx hk2
  by_cases z : k = cnt
  · rw [if_pos z, z]
    unfold brs
    rw [if_neg h, hb x hx]
    cases lb g (448 * x + cnt) <;> rfl
  · rw [if_neg z]; exact hk x k hk2 z
/-- the rows hold the things ts -/
def TR (ts : List (Option (Nat → Bool))) (fT fL : Nat → Int64) (cnt : Nat) : Prop := cnt = tC ts ∧ (∀ x k, x < 256 → k < 448 → lb fT (448 * x + k) = tT ts x k) ∧ (∀ k, k < 448 → lb fL k = tL ts k)
theorem TR_nil {fT fL : Nat → Int64} (h1 : ∀ j, j < 1792 → fT j = 0) (h2 : ∀ j, j < 7 → fL j = 0) : TR [] fT fL 0 :=
  ⟨rfl, fun x k hx hk => lb_zero h1 (by omega), fun k hk => lb_zero h2 (by omega)⟩
theorem TR_star {ts : List (Option (Nat → Bool))} {fT fL fL2 : Nat → Int64} {cnt : Nat} (h : TR ts fT fL cnt) (hl : ∀ k, lb fL2 k = (lb fL k || decide (k = cnt))) : TR (ts ++ [none]) fT fL2 cnt := by
  obtain ⟨h1, h2, h3⟩ := h
  refine ⟨by rw [tC_app]; exact h1, fun x k hx hk => by rw [tT_star]; exact h2 x k hx hk, fun k hk => ?_⟩
  rw [hl, tL_star, h3 k hk, h1]
theorem TR_one {ts : List (Option (Nat → Bool))} {fT fT2 fL : Nat → Int64} {cnt : Nat} {S : Nat → Bool} (h : TR ts fT fL cnt) (ht : ∀ x k, x < 256 → k < 448 → lb fT2 (448 * x + k) = if k = cnt then S x else lb fT (448 * x + k)) : TR (ts ++ [some S]) fT2 fL (cnt + 1) := by
  obtain ⟨h1, h2, h3⟩ := h
  refine ⟨by rw [tC_app, ← h1]; rfl, fun x k hx hk => ?_, fun k hk => by rw [tL_one]; exact h3 k hk⟩
  rw [ht x k hx hk, tT_one, ← h1, h2 x k hx hk]
theorem TR_new {ts : List (Option (Nat → Bool))} {fT fL : Nat → Int64} {cnt : Nat} (h : TR ts fT fL cnt) (hc : cnt < 448) : ∀ x, x < 256 → lb fT (448 * x + cnt) = false := by
  intro x hx
  rw [h.2.1 x cnt hx hc]
  exact tT_out ts x cnt (Nat.le_of_eq h.1.symm)
theorem th_star {a : Nat → Nat} {L i : Nat} (h : a i = 42) : thv a L i = none ∧ i + 1 = thn a L i := by
  unfold thv thn
  rw [if_pos h, if_pos h]
  exact ⟨rfl, rfl⟩
theorem th_any {a : Nat → Nat} {L i : Nat} (h : a i ≠ 42) (h2 : a i = 63) : thv a L i = some (fun _ => true) ∧ i + 1 = thn a L i := by
  unfold thv thn
  rw [if_neg h, if_neg h, if_pos h2, if_pos h2]
  exact ⟨rfl, rfl⟩
theorem th_br {a : Nat → Nat} {L i : Nat} (h : a i ≠ 42) (h2 : a i ≠ 63) (h3 : a i = 91) : thv a L i = some (brs a L (i + 1)) ∧ brn a L (i + 1) = thn a L i := by
  unfold thv thn
  rw [if_neg h, if_neg h, if_neg h2, if_neg h2, if_pos h3, if_pos h3]
  exact ⟨rfl, rfl⟩
theorem th_lit {a : Nat → Nat} {L i : Nat} (h : a i ≠ 42) (h2 : a i ≠ 63) (h3 : a i ≠ 91) : thv a L i = some (fun x => decide (x = rbv a L i)) ∧ rbn a L i = thn a L i := by
  unfold thv thn
  rw [if_neg h, if_neg h, if_neg h2, if_neg h2, if_neg h3, if_neg h3]
  exact ⟨rfl, rfl⟩
theorem thn_le (a : Nat → Nat) {L i : Nat} (h : i < L) : thn a L i ≤ L + 1 ∧ i < thn a L i := by
  unfold thn
  have h1 := rbn_le a h
  split
  · omega
  · split
    · omega
    · split
      · unfold brn
        by_cases z : brg a L (i + 1) = true
        · rw [if_pos z]
          have z2 := z
          unfold brg at z2
          simp only [Bool.and_eq_true, decide_eq_true_eq] at z2
          have h2 := bre_le a L L (i + 1 + 1) (by omega)
          omega
        · rw [if_neg z]
          have h2 := bre_le a L L (i + 1) (by omega)
          omega
      · omega
