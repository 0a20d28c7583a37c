def by4 (v : Int32) (k : Nat) : Nat := v.toBitVec.toNat / 2 ^ k % 256
theorem by4_lt (v : Int32) (k : Nat) : by4 v k < 256 := Nat.mod_lt _ (by decide)
theorem by4_ok (v : Int32) (k : Nat) (hs : (((nI k).toUInt32 &&& Int32.toUInt32 31).toBitVec % 32).toNat = k) : (v.toUInt32 >>> ((nI k).toUInt32 &&& Int32.toUInt32 31)).toInt32 &&& nI 255 = nI (by4 v k) := by
  rw [pk_and _ 8 (by decide), pk_ushr v _ k hs]
  rfl
def ap4 (tp : Nat → Nat) (n : Nat) (v : Int32) : Nat → Nat := va_up (va_up (va_up (va_up tp n (by4 v 24)) (n + 1) (by4 v 16)) (n + 2) (by4 v 8)) (n + 3) (by4 v 0)
def fd5 (tp : Nat → Nat) (n : Nat) (v1 v2 v3 v4 v5 : Int32) : Nat → Nat := ap4 (ap4 (ap4 (ap4 (ap4 tp n v1) (n + 4) v2) (n + 8) v3) (n + 12) v4) (n + 16) v5
theorem RC_s {ts : List (Option (Nat → Bool))} {fT fL g g2 : Nat → Int64} {cnt n x : Nat} {w : Nat → Nat} (hTR : TR ts fT fL cnt) (hg : ∀ k, k < 448 → lb g k = rch (tT ts) (tL ts) w n k) (hxw : x = w n) (hx8 : x < 256) (h2 : ∀ k, k < 448 → lb g2 k = stp g fT fL x k) : ∀ k, k < 448 → lb g2 k = rch (tT ts) (tL ts) w (n + 1) k := by
  intro k hk
  rw [h2 k hk]
  show ((decide (0 < k) && lb g (k - 1) && lb fT (448 * x + (k - 1))) || (lb g k && lb fL k)) = ((decide (0 < k) && rch (tT ts) (tL ts) w n (k - 1) && tT ts (w n) (k - 1)) || (rch (tT ts) (tL ts) w n k && tL ts k))
  rw [hg k hk, hg (k - 1) (by omega), hTR.2.1 x (k - 1) hx8 (by omega), hTR.2.2 k hk, hxw]
theorem RC_e {ts : List (Option (Nat → Bool))} {fT fL g : Nat → Int64} {cnt n : Nat} {w : Nat → Nat} (hTR : TR ts fT fL cnt) (hc : cnt ≤ 400) (hg : ∀ k, k < 448 → lb g k = rch (tT ts) (tL ts) w n k) : lb g cnt = fz ts w n := by
  rw [hg cnt (by omega), hTR.1]
  rfl
def okp (f n : Int32) (w : Nat) : Bool := decide (0 ≤ f.toInt) && decide (0 ≤ n.toInt) && decide (f.toInt + n.toInt ≤ (w : Int))
theorem lt0 {f : Int32} : f < 0 ↔ f.toInt < 0 := by
  rw [Int32.lt_iff_toInt_lt]; rfl
theorem okp_f {f n : Int32} {w : Nat} {b : Bool} (h : okp f n w = false) : nI 0 = if (okp f n w && b) = true then (1 : Int32) else 0 := by
  rw [h, Bool.false_and, if_neg (by decide)]; rfl
theorem okp_a {f n : Int32} {w : Nat} {b : Bool} (h : f < 0) : nI 0 = if (okp f n w && b) = true then (1 : Int32) else 0 := by
  apply okp_f
  have := lt0.mp h
  unfold okp
  rw [show decide (0 ≤ f.toInt) = false from decide_eq_false (by omega)]
  simp
theorem okp_b {f n : Int32} {w : Nat} {b : Bool} (h : n < 0) : nI 0 = if (okp f n w && b) = true then (1 : Int32) else 0 := by
  apply okp_f
  have := lt0.mp h
  unfold okp
  rw [show decide (0 ≤ n.toInt) = false from decide_eq_false (by omega)]
  simp
theorem okp_sub {f : Int32} {w : Nat} (hw : w ≤ 400) (h1 : ¬ f < 0) : (nI w - f).toInt = (w : Int) - f.toInt := by
  obtain ⟨j, hj, rfl⟩ := nI_of h1
  have e1 : (nI j).toInt = (j : Int) := nI_toInt hj
  rw [Int32.toInt_sub, nI_toInt (show w < 2 ^ 31 by omega), e1]
  apply Int.bmod_eq_of_le <;> omega
theorem okp_c {f n : Int32} {w : Nat} {b : Bool} (hw : w ≤ 400) (h1 : ¬ f < 0) (h2 : ¬ n < 0) (h3 : ¬ n ≤ nI w - f) : nI 0 = if (okp f n w && b) = true then (1 : Int32) else 0 := by
  apply okp_f
  have h4 : ¬ n.toInt ≤ (nI w - f).toInt := fun z => h3 (Int32.le_iff_toInt_le.mpr z)
  rw [okp_sub hw h1] at h4
  unfold okp
  rw [show decide (f.toInt + n.toInt ≤ (w : Int)) = false from decide_eq_false (by omega)]
  simp
theorem okp_d {f n : Int32} {w : Nat} (hw : w ≤ 400) (h1 : ¬ f < 0) (h2 : ¬ n < 0) (h3 : n ≤ nI w - f) : ∃ i k : Nat, f = nI i ∧ n = nI k ∧ i + k ≤ w := by
  have h4 := Int32.le_iff_toInt_le.mp h3
  rw [okp_sub hw h1] at h4
  obtain ⟨i, hi, rfl⟩ := nI_of h1
  obtain ⟨k, hk, rfl⟩ := nI_of h2
  rw [nI_toInt hi, nI_toInt hk] at h4
  exact ⟨i, k, rfl, rfl, by omega⟩
theorem okp_1 {f n r : Int32} {w i k : Nat} {lt : Nat → Nat} {ts : List (Option (Nat → Bool))} (ef : f = nI i) (ek : n = nI k) (hik : i + k ≤ w) (hw : w ≤ 400) (h : r = if fz ts (fun j => lt (i + j)) (i + k - i) = true then 1 else 0) : r = if (okp f n w && fz ts (fun j => lt (f.toNatClampNeg + j)) n.toNatClampNeg) = true then 1 else 0 := by
  subst ef
  subst ek
  have o : okp (nI i) (nI k) w = true := by
    unfold okp
    rw [nI_toInt (show i < 2 ^ 31 by omega), nI_toInt (show k < 2 ^ 31 by omega)]
    simp only [Bool.and_eq_true, decide_eq_true_eq]
    omega
  rw [o, Bool.true_and, nI_clamp (show i < 2 ^ 31 by omega), nI_clamp (show k < 2 ^ 31 by omega), h, show i + k - i = k by omega]
def bg (ts : List (Option (Nat → Bool))) (w : Nat → Nat) : Nat → Nat
  | 0 => if fz ts w 0 = true then 1 else 0
  | n + 1 => bg ts w n + if fz ts w (n + 1) = true then 1 else 0
theorem bg_01 {ts : List (Option (Nat → Bool))} {fT fL g : Nat → Int64} {cnt : Nat} {w : Nat → Nat} (hTR : TR ts fT fL cnt) (hc : cnt ≤ 400) (hg : ∀ k, k < 448 → lb g k = decide (k = 0)) (hz : lb g cnt = true) : 1 = bg ts w 0 := by
  have e := RC_e (w := w) (n := 0) hTR hc (fun k hk => by rw [hg k hk]; rfl)
  rw [hz] at e
  simp only [bg, ← e]
  rfl
theorem bg_00 {ts : List (Option (Nat → Bool))} {fT fL g : Nat → Int64} {cnt : Nat} {w : Nat → Nat} (hTR : TR ts fT fL cnt) (hc : cnt ≤ 400) (hg : ∀ k, k < 448 → lb g k = decide (k = 0)) (hz : ¬ lb g cnt = true) : 0 = bg ts w 0 := by
  have e := RC_e (w := w) (n := 0) hTR hc (fun k hk => by rw [hg k hk]; rfl)
  rw [e] at hz
  simp only [bg, if_neg hz]
theorem bg_s1 {ts : List (Option (Nat → Bool))} {fT fL g : Nat → Int64} {cnt n o : Nat} {w : Nat → Nat} (hTR : TR ts fT fL cnt) (hc : cnt ≤ 400) (hg : ∀ k, k < 448 → lb g k = rch (tT ts) (tL ts) w (n + 1) k) (hz : lb g cnt = true) (ho : o = bg ts w n) : o + 1 = bg ts w (n + 1) := by
  have e := RC_e hTR hc hg
  rw [hz] at e
  simp only [bg, ← e, ho]
  rfl
theorem bg_s0 {ts : List (Option (Nat → Bool))} {fT fL g : Nat → Int64} {cnt n o : Nat} {w : Nat → Nat} (hTR : TR ts fT fL cnt) (hc : cnt ≤ 400) (hg : ∀ k, k < 448 → lb g k = rch (tT ts) (tL ts) w (n + 1) k) (hz : ¬ lb g cnt = true) (ho : o = bg ts w n) : o = bg ts w (n + 1) := by
  have e := RC_e hTR hc hg
  rw [e] at hz
  simp only [bg, if_neg hz, ho, Nat.add_zero]
