theorem lb_set {f : Nat → Int64} {i q : Nat} {v : Int64} (hi : i = q / 64) (hv : v = bitL q) (k : Nat) : lb (vp_updL f i (f i ||| v)) k = (lb f k || decide (k = q)) := by
  unfold lb vp_updL
  by_cases h : k / 64 = i
  · rw [if_pos h, Int64.toBitVec_or, BitVec.getLsbD_or, hv, bitL_get _ (Nat.mod_lt _ (by decide)), h]
    congr 1
    rw [decide_eq_decide]
    omega
  · rw [if_neg h, show decide (k = q) = false from decide_eq_false (fun z => h (by rw [z, hi])), Bool.or_false]
theorem lb_clr {f : Nat → Int64} {i q : Nat} {v : Int64} (hi : i = q / 64) (hv : v = bitL q) (k : Nat) : lb (vp_updL f i (f i &&& (v ^^^ (-1)))) k = (lb f k && !decide (k = q)) := by
  have ha : (-1 : Int64).toBitVec = BitVec.allOnes 64 := by decide
  unfold lb vp_updL
  by_cases h : k / 64 = i
  · rw [if_pos h, Int64.toBitVec_and, Int64.toBitVec_xor, ha, BitVec.getLsbD_and, BitVec.getLsbD_xor, hv, bitL_get _ (Nat.mod_lt _ (by decide)), BitVec.getLsbD_allOnes, h]
    congr 1
    rw [show decide (k % 64 < 64) = true from decide_eq_true (Nat.mod_lt _ (by decide)), Bool.xor_true]
    congr 1
    rw [decide_eq_decide]
    omega
  · rw [if_neg h, show decide (k = q) = false from decide_eq_false (fun z => h (by rw [z, hi]))]
    simp
theorem bitL_mod (q r : Nat) (h : q % 64 = r % 64) : bitL q = bitL r := by
  unfold bitL
  rw [h]
theorem lb_zero {f : Nat → Int64} {n : Nat} (h : ∀ j, j < n → f j = 0) {k : Nat} (hk : k < 64 * n) : lb f k = false := by
  unfold lb
  rw [h (k / 64) (by omega)]
  exact BitVec.getLsbD_zero
theorem lb_and0 {f : Nat → Int64} {q : Nat} {v : Int64} (hv : v = bitL q) : (f (q / 64) &&& v = 0) ↔ lb f q = false := by
  rw [← Int64.toBitVec_inj, Int64.toBitVec_and, hv]
  unfold lb
  constructor
  · intro h
    have t := congrArg (fun x => x.getLsbD (q % 64)) h
    simp only [BitVec.getLsbD_and] at t
    rw [bitL_get q (Nat.mod_lt _ (by decide))] at t
    simpa using t
  · intro h
    apply BitVec.eq_of_getLsbD_eq
    intro j hj
    rw [BitVec.getLsbD_and, bitL_get q hj]
    by_cases e : j = q % 64
    · rw [e, h]; simp
    · simp [e]
-- one step over a row of 7 longs: the bits
theorem st_shl (x : Int64) {j : Nat} (hj : j < 64) : (x <<< ((nI 1).toInt64 &&& 63)).toBitVec.getLsbD j = (decide (0 < j) && x.toBitVec.getLsbD (j - 1)) := by
  have h : (((nI 1).toInt64 &&& 63).toBitVec.smod 64).toNat = 1 := by decide
  rw [Int64.toBitVec_shiftLeft]
  show (x.toBitVec <<< (((nI 1).toInt64 &&& 63).toBitVec.smod 64).toNat).getLsbD j = _
  rw [h, BitVec.getLsbD_shiftLeft]
  rcases Nat.lt_or_ge j 1 with g | g
  · have : j = 0 := by omega
    subst this
    simp
  · simp [hj, Nat.not_lt.mpr g, show 0 < j by omega]
theorem st_ushr (x : Int64) (j : Nat) : ((x.toUInt64 >>> ((nI 63).toInt64.toUInt64 &&& Int64.toUInt64 63)).toInt64).toBitVec.getLsbD j = (decide (j = 0) && x.toBitVec.getLsbD 63) := by
  have hs : ((nI 63).toInt64.toUInt64 &&& Int64.toUInt64 63).toNat = 63 := by decide
  have e : (x.toUInt64 >>> ((nI 63).toInt64.toUInt64 &&& Int64.toUInt64 63)).toInt64.toBitVec = x.toBitVec >>> 63 := by
    apply BitVec.eq_of_toNat_eq
    show (x.toUInt64 >>> ((nI 63).toInt64.toUInt64 &&& Int64.toUInt64 63)).toNat = _
    rw [UInt64.toNat_shiftRight, hs, BitVec.toNat_ushiftRight]
    rfl
  rw [e, BitVec.getLsbD_ushiftRight]
  by_cases h : j = 0
  · subst h; simp
  · rw [show decide (j = 0) = false from decide_eq_false h, Bool.false_and]
    exact BitVec.getLsbD_of_ge _ _ (by omega)
def stp (fR fT fL : Nat → Int64) (x k : Nat) : Bool := (decide (0 < k) && lb fR (k - 1) && lb fT (448 * x + (k - 1))) || (lb fR k && lb fL k)
def crb (fR fT : Nat → Int64) (x i : Nat) : Bool := decide (0 < i) && lb fR (64 * i - 1) && lb fT (448 * x + (64 * i - 1))
theorem st_mov (fR fT : Nat → Int64) (x i : Nat) {j : Nat} (hj : j < 64) : (fR i &&& fT (x * 7 + i)).toBitVec.getLsbD j = (lb fR (64 * i + j) && lb fT (448 * x + (64 * i + j))) := by
  rw [Int64.toBitVec_and, BitVec.getLsbD_and, lb_at fR i hj, show 448 * x + (64 * i + j) = 64 * (x * 7 + i) + j by omega, lb_at fT _ hj]
/-- the new long at i -/
theorem st_new {fR fT fL g : Nat → Int64} {x i : Nat} {mv cr sy : Int64} (hg : g i = fR i) (hm : mv = g i &&& fT (x * 7 + i)) (hs : sy = g i &&& fL i) (hc : ∀ j, j < 64 → cr.toBitVec.getLsbD j = (decide (j = 0) && crb fR fT x i)) {j : Nat} (hj : j < 64) :
    (((mv <<< ((nI 1).toInt64 &&& 63)) ||| cr) ||| sy).toBitVec.getLsbD j = stp fR fT fL x (64 * i + j) := by
  rw [Int64.toBitVec_or, Int64.toBitVec_or, BitVec.getLsbD_or, BitVec.getLsbD_or, st_shl _ hj, hc j hj, hm, hs, hg, Int64.toBitVec_and (fR i) (fL i), BitVec.getLsbD_and]
  unfold stp
  rw [lb_at fR i hj, lb_at fL i hj]
  congr 1
  by_cases h : j = 0
  · subst h
    unfold crb
    by_cases hi : 0 < i
    · rw [show decide (0 < i) = true from decide_eq_true hi, show decide (0 < 64 * i + 0) = true from decide_eq_true (by omega)]
      simp
    · have : i = 0 := by omega
      subst this
      simp
  · rw [st_mov fR fT x i (show j - 1 < 64 by omega), show decide (j = 0) = false from decide_eq_false h, Bool.false_and, Bool.or_false, show 64 * i + j - 1 = 64 * i + (j - 1) by omega, show decide (0 < j) = true from decide_eq_true (by omega), show decide (0 < 64 * i + j) = true from decide_eq_true (by omega), Bool.true_and, Bool.true_and]
theorem st_cr {fR fT g : Nat → Int64} {x i : Nat} {mv : Int64} (hg : g i = fR i) (hm : mv = g i &&& fT (x * 7 + i)) : ∀ j, j < 64 → ((mv.toUInt64 >>> ((nI 63).toInt64.toUInt64 &&& Int64.toUInt64 63)).toInt64).toBitVec.getLsbD j = (decide (j = 0) && crb fR fT x (i + 1)) := by
  intro j _
  rw [st_ushr, hm, hg, st_mov fR fT x i (show 63 < 64 by decide)]
  unfold crb
  rw [show 64 * (i + 1) - 1 = 64 * i + 63 by omega, show decide (0 < i + 1) = true from decide_eq_true (by omega), Bool.true_and]
theorem st_in {fR fT fL g : Nat → Int64} {x i : Nat} {v : Int64} (h1 : ∀ k, k < 64 * i → lb g k = stp fR fT fL x k) (hv : ∀ j, j < 64 → v.toBitVec.getLsbD j = stp fR fT fL x (64 * i + j)) : ∀ k, k < 64 * (i + 1) → lb (vp_updL g i v) k = stp fR fT fL x k := by
  intro k hk
  by_cases h : k / 64 = i
  · show (vp_updL g i v (k / 64)).toBitVec.getLsbD (k % 64) = _
    rw [h, pk_uLs, hv _ (Nat.mod_lt _ (by decide)), show 64 * i + k % 64 = k by omega]
  · show (vp_updL g i v (k / 64)).toBitVec.getLsbD (k % 64) = _
    rw [pk_uLn h]
    exact h1 k (by omega)
theorem tl_q (b k : Nat) (hk : k < 448) : b * 7 + k / 64 = (448 * b + k) / 64 := by omega
theorem tl_in {fT g : Nat → Int64} {lo b cnt : Nat} {tk : Bool} {v : Int64} (hc : cnt < 448) (hlo : lo ≤ b) (h : ∀ x k, k < 448 → lb g (448 * x + k) = if k = cnt ∧ lo ≤ x ∧ x < b then tk else lb fT (448 * x + k)) (hv : ∀ k, lb (vp_updL g (b * 7 + cnt / 64) v) k = if k = 448 * b + cnt then tk else lb g k) : ∀ x k, k < 448 → lb (vp_updL g (b * 7 + cnt / 64) v) (448 * x + k) = if k = cnt ∧ lo ≤ x ∧ x < b + 1 then tk else lb fT (448 * x + k) := by
  intro x k hk
  rw [hv]
  by_cases e : 448 * x + k = 448 * b + cnt
  · have e1 : x = b := by omega
    have e2 : k = cnt := by omega
    rw [if_pos e, if_pos ⟨e2, by omega, by omega⟩]
  · rw [if_neg e, h x k hk]
    by_cases z : k = cnt ∧ lo ≤ x ∧ x < b
    · rw [if_pos z, if_pos ⟨z.1, z.2.1, by omega⟩]
    · rw [if_neg z, if_neg (fun q => z ⟨q.1, q.2.1, by
        rcases Nat.lt_or_ge x b with y | y
        · exact y
        · exact absurd (by have := q.1; omega) e⟩)]
theorem tl_set {f : Nat → Int64} {i q : Nat} {v : Int64} {tk : Bool} (hi : i = q / 64) (hv : v = bitL q) (ht : tk = true) (k : Nat) : lb (vp_updL f i (f i ||| v)) k = if k = q then tk else lb f k := by
  rw [lb_set hi hv, ht]
  by_cases h : k = q
  · rw [if_pos h]; simp [h]
  · rw [if_neg h]; simp [h]
theorem tl_clr {f : Nat → Int64} {i q : Nat} {v : Int64} {tk : Bool} (hi : i = q / 64) (hv : v = bitL q) (ht : tk = false) (k : Nat) : lb (vp_updL f i (f i &&& (v ^^^ (-1)))) k = if k = q then tk else lb f k := by
  rw [lb_clr hi hv, ht]
  by_cases h : k = q
  · rw [if_pos h]; simp [h]
  · rw [if_neg h]; simp [h]
theorem fl_s {g : Nat → Int64} {i : Nat} {v : Int64} (h : ∀ j, j < i → g j = v) : ∀ j, j < i + 1 → vp_updL g i v j = v := by
  intro j hj
  by_cases e : j = i
  · rw [e, pk_uLs]
  · rw [pk_uLn e]; exact h j (by omega)
theorem sr_in {f : Nat → Int64} (h : ∀ j, j < 7 → f j = 0) : ∀ k, k < 448 → lb (vp_updL f 0 1) k = decide (k = 0) := by
  intro k hk
  unfold lb
  by_cases e : k / 64 = 0
  · rw [e, pk_uLs, show (1 : Int64).toBitVec = BitVec.twoPow 64 0 from by decide, BitVec.getLsbD_twoPow]
    by_cases z : k = 0
    · subst z; simp
    · simp [z, show ¬ 0 = k % 64 by omega]
  · rw [pk_uLn e, h _ (by omega), show decide (k = 0) = false from decide_eq_false (by omega)]
    exact BitVec.getLsbD_zero
theorem er_1 {f : Nat → Int64} {q : Nat} {v : Int64} (hv : v = bitL q) (h : ¬ lg_cmp (f (q / 64) &&& v) 0 = 0) : nI 1 = if lb f q = true then (1 : Int32) else 0 := by
  have : lb f q = true := by
    cases e : lb f q with
    | true => rfl
    | false => exact absurd ((lg_cmp_eq _ _).mpr ((lb_and0 hv).mpr e)) h
  rw [if_pos this]; rfl
theorem er_0 {f : Nat → Int64} {q : Nat} {v : Int64} (hv : v = bitL q) (h : lg_cmp (f (q / 64) &&& v) 0 = 0) : nI 0 = if lb f q = true then (1 : Int32) else 0 := by
  have : lb f q = false := (lb_and0 hv).mp ((lg_cmp_eq _ _).mp h)
  rw [if_neg (by rw [this]; decide)]; rfl
theorem st_keep {g fR : Nat → Int64} {i : Nat} {v : Int64} (h2 : ∀ j, i ≤ j → j < 7 → g j = fR j) : ∀ j, i + 1 ≤ j → j < 7 → vp_updL g i v j = fR j := by
  intro j h1 h3
  rw [pk_uLn (by omega)]
  exact h2 j (by omega) h3
