def bt (x : Int32) (i : Nat) : Bool := x.toBitVec.getLsbD i
theorem b_ext {x y : Int32} (h : ∀ i, i < 32 → bt x i = bt y i) : x = y := Int32.toBitVec_inj.mp (BitVec.eq_of_getLsbD_eq (fun i hi => h i hi))
theorem b_and (x y : Int32) (i : Nat) : bt (x &&& y) i = (bt x i && bt y i) := by unfold bt; rw [Int32.toBitVec_and, BitVec.getLsbD_and]
theorem b_big {x : Int32} {i : Nat} (h : 32 ≤ i) : bt x i = false := BitVec.getLsbD_of_ge _ _ h
theorem b_255 (i : Nat) : bt 255 i = decide (i < 8) := by
  rcases Nat.lt_or_ge i 32 with h | h
  · exact (by decide +kernel : ∀ i, i < 32 → bt 255 i = decide (i < 8)) i h
  · rw [b_big h, decide_eq_false (by omega)]
theorem s_l : ∀ n, n < 32 → ((nI n &&& 31).toBitVec.smod 32).toNat = n := by decide +kernel
theorem s_u : ∀ n, n < 32 → (((nI n).toUInt32 &&& Int32.toUInt32 31).toBitVec % 32).toNat = n := by decide +kernel
theorem b_ushr (n : Nat) (hn : n < 32) (x : Int32) (i : Nat) : bt ((x.toUInt32 >>> ((nI n).toUInt32 &&& Int32.toUInt32 31)).toInt32) i = bt x (n + i) := by
  show (x.toUInt32 >>> ((nI n).toUInt32 &&& Int32.toUInt32 31)).toBitVec.getLsbD i = x.toUInt32.toBitVec.getLsbD (n + i)
  rw [UInt32.toBitVec_shiftRight]
  show (x.toUInt32.toBitVec >>> (((nI n).toUInt32 &&& Int32.toUInt32 31).toBitVec % 32).toNat).getLsbD i = _
  rw [s_u n hn, BitVec.getLsbD_ushiftRight]
theorem b_sshr (n : Nat) (hn : n < 32) (x : Int32) {i : Nat} (hi : i < 32) : bt (x >>> (nI n &&& 31)) i = if n + i < 32 then bt x (n + i) else bt x 31 := by
  unfold bt
  rw [Int32.toBitVec_shiftRight]
  show (x.toBitVec.sshiftRight ((nI n &&& 31).toBitVec.smod 32).toNat).getLsbD i = _
  rw [s_l n hn, BitVec.getLsbD_sshiftRight, BitVec.msb_eq_getLsbD_last]
  simp [hi]
theorem by4_ok2 (v : Int32) (k : Nat) (hs : (((nI k).toUInt32 &&& Int32.toUInt32 31).toBitVec % 32).toNat = k) (hk : k ≤ 24) : v >>> (nI k &&& 31) &&& nI 255 = nI (by4 v k) := by
  rw [← by4_ok v k hs]
  apply b_ext
  intro i hi
  rw [b_and, b_and, b_sshr k (by omega) v hi, b_ushr k (by omega) v i]
  have e : bt (nI 255) i = decide (i < 8) := b_255 i
  rw [e]
  by_cases h : i < 8
  · rw [if_pos (by omega)]
  · rw [show decide (i < 8) = false from decide_eq_false h, Bool.and_false, Bool.and_false]
theorem cpy_0 (f g : Nat → Nat) : va_cpy f g 0 0 0 = g := by
  funext j
  unfold va_cpy
  rw [if_neg (by omega)]
theorem cpy_s (f g : Nat → Nat) (k : Nat) : va_up (va_cpy f g 0 0 k) k (f k) = va_cpy f g 0 0 (k + 1) := by
  funext j
  unfold va_up va_cpy
  by_cases h : j = k
  · rw [if_pos h, if_pos (by omega), h, Nat.zero_add, Nat.sub_zero]
  · rw [if_neg h]
    by_cases h2 : 0 ≤ j ∧ j < 0 + k
    · rw [if_pos h2, if_pos (by omega)]
    · rw [if_neg h2, if_neg (by omega)]
theorem tl_a {a : Nat → Nat} {L i : Nat} (h : a i ≠ 92) : a i = rbv a L i ∧ nI (i + 1) = nI (rbn a L i) := by
  unfold rbn rbv
  rw [if_neg (fun z => h z.1), if_neg (fun z => h z.1)]
  exact ⟨rfl, rfl⟩
theorem tl_b {a : Nat → Nat} {L i : Nat} (h : L ≤ i + 1) : a i = rbv a L i ∧ nI (i + 1) = nI (rbn a L i) := by
  unfold rbn rbv
  rw [if_neg (fun z => by omega), if_neg (fun z => by omega)]
  exact ⟨rfl, rfl⟩
theorem tl_c {a : Nat → Nat} {L i : Nat} (h : a i = 92) (h2 : i + 1 < L) : a (i + 1) = rbv a L i ∧ nI (i + 2) = nI (rbn a L i) := by
  unfold rbn rbv
  rw [if_pos ⟨h, h2⟩, if_pos ⟨h, h2⟩]
  exact ⟨rfl, rfl⟩
theorem bnd_1 {a : Nat → Nat} {L i : Nat} (h : L ≤ i) : bnd a L i = true := by
  unfold bnd
  simp [h]
theorem bnd_3 {a : Nat → Nat} {L i : Nat} (h : a i = 93) : bnd a L i = true := by
  unfold bnd
  simp [h]
theorem bnd_2 {a : Nat → Nat} {L i : Nat} (h : i < L) (h2 : a i ≠ 93) : bnd a L i = false := by
  unfold bnd
  simp [h2, Nat.not_le.mpr h]
/-- the byte x among what is told, so far -/
def MI (a : Nat → Nat) (L x i0 r i : Nat) (q : Bool) : Prop := bre a L (L - r) i = bre a L L i0 ∧ brm a L L i0 x = (q || brm a L (L - r) i x)
theorem MI_0 (a : Nat → Nat) (L x i0 : Nat) : MI a L x i0 0 i0 false := ⟨rfl, rfl⟩
theorem MI_s {a : Nat → Nat} {L x i0 r i : Nat} {q q2 : Bool} (h : MI a L x i0 r i q) (h1 : i < L) (h2 : a i ≠ 93) (hr : r ≤ i) (hq : q2 = (q || decide (rbv a L i ≤ x ∧ x ≤ thi a L i))) : MI a L x i0 (r + 1) (tnx a L i) q2 := by
  obtain ⟨e1, e2⟩ := h
  have hb : ¬ bnd a L i = true := by rw [bnd_2 h1 h2]; decide
  rw [show L - r = (L - (r + 1)) + 1 by omega] at e1 e2
  simp only [bre, brm, if_neg hb] at e1 e2
  exact ⟨e1, by rw [e2, hq, Bool.or_assoc]⟩
theorem MI_e {a : Nat → Nat} {L x i0 r i : Nat} {q : Bool} (h : MI a L x i0 r i q) (hb : bnd a L i = true) : i = bre a L L i0 ∧ brm a L L i0 x = q := by
  obtain ⟨e1, e2⟩ := h
  have f1 : bre a L (L - r) i = i := by
    cases L - r with
    | zero => rfl
    | succ n => simp only [bre, if_pos hb]
  have f2 : brm a L (L - r) i x = false := by
    cases L - r with
    | zero => rfl
    | succ n => simp only [brm, if_pos hb]
  rw [f1] at e1
  rw [f2, Bool.or_false] at e2
  exact ⟨e1, e2⟩
theorem mi_t {q b : Bool} (h : q = true) : true = (q || b) := by rw [h]; rfl
theorem mi_l {q : Bool} {lo hi x : Nat} (h : q = false) (h2 : x < lo) : false = (q || decide (lo ≤ x ∧ x ≤ hi)) := by
  rw [h, show decide (lo ≤ x ∧ x ≤ hi) = false from decide_eq_false (by omega)]
  rfl
theorem mi_h {q : Bool} {lo hi x : Nat} (h : q = false) (h2 : hi < x) : false = (q || decide (lo ≤ x ∧ x ≤ hi)) := by
  rw [h, show decide (lo ≤ x ∧ x ≤ hi) = false from decide_eq_false (by omega)]
  rfl
theorem mi_i {q : Bool} {lo hi x : Nat} (h1 : lo ≤ x) (h2 : x ≤ hi) : true = (q || decide (lo ≤ x ∧ x ≤ hi)) := by
  rw [show decide (lo ≤ x ∧ x ≤ hi) = true from decide_eq_true ⟨h1, h2⟩, Bool.or_true]
theorem br_n1a {a : Nat → Nat} {L i k : Nat} (h : brg a L i = true) (hk : k = bre a L L (i + 1)) (h2 : k < L) : k + 1 = min (brn a L i) L := by
  rw [brn_1 h, ← hk]; omega
theorem br_n1b {a : Nat → Nat} {L i k : Nat} (h : brg a L i = true) (hk : k = bre a L L (i + 1)) (h2 : L ≤ k) : k = min (brn a L i) L := by
  have z := h
  unfold brg at z
  simp only [Bool.and_eq_true, decide_eq_true_eq] at z
  have := bre_le a L L (i + 1) (by omega)
  rw [brn_1 h, ← hk]; omega
theorem br_n0a {a : Nat → Nat} {L i k : Nat} (h : ¬ brg a L i = true) (hk : k = bre a L L i) (h2 : k < L) : k + 1 = min (brn a L i) L := by
  rw [brn_0 h, ← hk]; omega
theorem br_n0b {a : Nat → Nat} {L i k : Nat} (hkL : k ≤ L) (h : ¬ brg a L i = true) (hk : k = bre a L L i) (h2 : L ≤ k) : k = min (brn a L i) L := by
  rw [brn_0 h, ← hk]; omega
theorem br_r1s {a : Nat → Nat} {L i x : Nat} {q : Bool} (h : brg a L i = true) (hb : brm a L L (i + 1) x = q) (hc : bN q = 1) : nI 0 = if brs a L i x = true then (1 : Int32) else 0 := by
  have : q = true := bN_nz (by omega)
  unfold brs
  rw [if_pos h, hb, this]; rfl
theorem br_r1d {a : Nat → Nat} {L i x : Nat} {q : Bool} (h : brg a L i = true) (hb : brm a L L (i + 1) x = q) (hc : bN q ≠ 1) : nI 1 = if brs a L i x = true then (1 : Int32) else 0 := by
  have : q = false := by
    cases q with
    | false => rfl
    | true => exact absurd rfl hc
  unfold brs
  rw [if_pos h, hb, this]; rfl
theorem br_r0s {a : Nat → Nat} {L i x : Nat} {q : Bool} (h : ¬ brg a L i = true) (hb : brm a L L i x = q) (hc : bN q = 0) : nI 0 = if brs a L i x = true then (1 : Int32) else 0 := by
  have : q = false := bN_z hc
  unfold brs
  rw [if_neg h, hb, this]; rfl
theorem br_r0d {a : Nat → Nat} {L i x : Nat} {q : Bool} (h : ¬ brg a L i = true) (hb : brm a L L i x = q) (hc : bN q ≠ 0) : nI 1 = if brs a L i x = true then (1 : Int32) else 0 := by
  have : q = true := bN_nz hc
  unfold brs
  rw [if_neg h, hb, this]; rfl
/-- whether the thing at i takes x -/
def sut (a : Nat → Nat) (L i x : Nat) : Bool := match thv a L i with
  | some S => S x
  | none => false
theorem sut_some {a : Nat → Nat} {L i : Nat} (h : a i ≠ 42) : thv a L i = some (sut a L i) := by
  cases e : thv a L i with
  | none =>
    unfold thv at e
    rw [if_neg h] at e
    split at e
    · cases e
    · split at e
      · cases e
      · cases e
  | some S =>
    have : sut a L i = S := by
      funext x
      unfold sut
      rw [e]
    rw [this]
theorem sut_of {a : Nat → Nat} {L i : Nat} {S : Nat → Bool} (h : thv a L i = some S) (x : Nat) : sut a L i x = S x := by
  unfold sut
  rw [h]
theorem su_b {a : Nat → Nat} {L i x e : Nat} {v : Int32} (h : a i ≠ 42) (h2 : a i = 91) (hw : e = min (brn a L (i + 1)) L ∧ v = if brs a L (i + 1) x = true then 1 else 0) : e = min (thn a L i) L ∧ v = if sut a L i x = true then 1 else 0 := by
  have t := th_br (a := a) (L := L) (i := i) h (by omega) h2
  rw [sut_of t.1, ← t.2]
  exact hw
theorem su_a {a : Nat → Nat} {L i x : Nat} (hi : i < L) (h : a i ≠ 42) (h2 : a i = 63) : i + 1 = min (thn a L i) L ∧ nI 1 = if sut a L i x = true then (1 : Int32) else 0 := by
  have t := th_any (a := a) (L := L) (i := i) h h2
  rw [sut_of t.1, ← t.2]
  exact ⟨by omega, rfl⟩
theorem su_1 {a : Nat → Nat} {L i x : Nat} (hi : i < L) (h : a i ≠ 42) (h2 : a i ≠ 63) (h3 : a i ≠ 91) (hx : rbv a L i = x) : rbn a L i = min (thn a L i) L ∧ nI 1 = if sut a L i x = true then (1 : Int32) else 0 := by
  have t := th_lit (a := a) (L := L) (i := i) h h2 h3
  have := rbn_le a hi
  rw [sut_of t.1, ← t.2]
  refine ⟨by omega, ?_⟩
  rw [show decide (x = rbv a L i) = true from decide_eq_true hx.symm]
  rfl
theorem su_0 {a : Nat → Nat} {L i x : Nat} (hi : i < L) (h : a i ≠ 42) (h2 : a i ≠ 63) (h3 : a i ≠ 91) (hx : rbv a L i ≠ x) : rbn a L i = min (thn a L i) L ∧ nI 0 = if sut a L i x = true then (1 : Int32) else 0 := by
  have t := th_lit (a := a) (L := L) (i := i) h h2 h3
  have := rbn_le a hi
  rw [sut_of t.1, ← t.2]
  refine ⟨by omega, ?_⟩
  rw [show decide (x = rbv a L i) = false from decide_eq_false (fun z => hx z.symm)]
  rfl
theorem wl_dec {j : Nat} (h : 0 < j) : nI j + Int32.ofInt (-1) = nI (j - 1) := by
  obtain ⟨k, rfl⟩ : ∃ k, j = k + 1 := ⟨j - 1, by omega⟩
  exact pk_m1 k
theorem rk_i (F : Nat → Bool) : ∀ i, i < 1 → va_up F 0 true i = decide (i = 0) := by
  intro i hi
  have : i = 0 := by omega
  subst this
  rfl
theorem rk_z {g : Nat → Bool} {j : Nat} (hj : 1 ≤ j) (h : ∀ i, i < j → g i = decide (i = 0)) : ∀ i, i < j + 1 → va_up g j false i = decide (i = 0) := by
  intro i hi
  by_cases e : i = j
  · rw [e, va_up_self, show decide (j = 0) = false from decide_eq_false (by omega)]
  · rw [va_up_ne _ _ e]; exact h i (by omega)
theorem ths_out {a : Nat → Nat} {L n i : Nat} (h : L ≤ i) : ths a L n i = [] := by
  cases n with
  | zero => rfl
  | succ n => simp only [ths, if_neg (Nat.not_lt.mpr h)]
theorem ths_min {a : Nat → Nat} {L n i : Nat} : ths a L n (min i L) = ths a L n i := by
  rcases Nat.lt_or_ge i L with h | h
  · rw [Nat.min_eq_left (by omega)]
  · rw [ths_out h, ths_out (by omega)]
theorem rk_ts {a : Nat → Nat} {L r i : Nat} {ts us : List (Option (Nat → Bool))} (hr : r ≤ i) (h : us = ts ++ ths a L (L - r) i) (hi : i < L) (hs : a i = 42) : us = (ts ++ [none]) ++ ths a L (L - (r + 1)) (i + 1) := by
  have e := ths_s (show r < L by omega) hi h
  rw [(th_star hs).1, ← (th_star hs).2] at e
  exact e
theorem rk_to {a : Nat → Nat} {L r i : Nat} {ts us : List (Option (Nat → Bool))} (hr : r ≤ i) (h : us = ts ++ ths a L (L - r) i) (hi : i < L) : us = (ts ++ [thv a L i]) ++ ths a L (L - (r + 1)) (min (thn a L i) L) := by
  rw [ths_min]
  exact ths_s (show r < L by omega) hi h
theorem rk_en {a : Nat → Nat} {L r i : Nat} (hr : r ≤ i) (hi : i < L) : r + 1 ≤ min (thn a L i) L := by
  have := thn_le a hi
  omega
theorem rk_s0 {ts : List (Option (Nat → Bool))} {w : Nat → Nat} {G : Nat → Bool} {n : Nat} (h : ∀ i, i ≤ n → G i = fz ts w i) : ∀ i, i < 1 → i ≤ n → G i = fz (ts ++ [none]) w i := by
  intro i hi hn
  have : i = 0 := by omega
  subst this
  rw [fz_star_0]
  exact h 0 hn
theorem rk_s1 {ts : List (Option (Nat → Bool))} {w : Nat → Nat} {g : Nat → Bool} {n j : Nat} (hj : 1 ≤ j) (hn : j ≤ n) (h1 : ∀ i, i < j → i ≤ n → g i = fz (ts ++ [none]) w i) (h2 : ∀ i, j ≤ i → i ≤ n → g i = fz ts w i) (hc : g j = true ∨ g (j - 1) = true) : ∀ i, i < j + 1 → i ≤ n → va_up g j true i = fz (ts ++ [none]) w i := by
  intro i hi hin
  by_cases e : i = j
  · subst e
    rw [va_up_self]
    obtain ⟨k, rfl⟩ : ∃ k, i = k + 1 := ⟨i - 1, by omega⟩
    rw [fz_star_s, ← h2 (k + 1) (Nat.le_refl _) hin, ← h1 k (by omega) (by omega)]
    rcases hc with z | z
    · rw [z]; rfl
    · rw [Nat.add_sub_cancel] at z
      rw [z, Bool.or_true]
  · rw [va_up_ne _ _ e]; exact h1 i (by omega) hin
theorem rk_s2 {ts : List (Option (Nat → Bool))} {w : Nat → Nat} {g : Nat → Bool} {n j : Nat} (hj : 1 ≤ j) (hn : j ≤ n) (h1 : ∀ i, i < j → i ≤ n → g i = fz (ts ++ [none]) w i) (h2 : ∀ i, j ≤ i → i ≤ n → g i = fz ts w i) (hc : g j = false) (hc2 : g (j - 1) = false) : ∀ i, i < j + 1 → i ≤ n → va_up g j false i = fz (ts ++ [none]) w i := by
  intro i hi hin
  by_cases e : i = j
  · subst e
    rw [va_up_self]
    obtain ⟨k, rfl⟩ : ∃ k, i = k + 1 := ⟨i - 1, by omega⟩
    rw [Nat.add_sub_cancel] at hc2
    rw [fz_star_s, ← h2 (k + 1) (Nat.le_refl _) hin, ← h1 k (by omega) (by omega), hc, hc2]
    rfl
  · rw [va_up_ne _ _ e]; exact h1 i (by omega) hin
theorem rk_dd {a : Nat → Nat} {L at_ fr n j : Nat} {ts : List (Option (Nat → Bool))} {lt : Nat → Nat} {g : Nat → Bool} {v : Bool} (hj : 0 < j) (hst : a at_ ≠ 42) (hd1 : ∀ i, i ≤ j → g i = fz ts (fun j => lt (fr + j)) i) (hd2 : ∀ i, j < i → i ≤ n → g i = fz (ts ++ [thv a L at_]) (fun j => lt (fr + j)) i) (hv : v = (g (j - 1) && sut a L at_ (lt (fr + j - 1)))) : ∀ i, j - 1 < i → i ≤ n → va_up g j v i = fz (ts ++ [thv a L at_]) (fun j => lt (fr + j)) i := by
  intro i hi hin
  by_cases e : i = j
  · subst e
    rw [va_up_self, hv]
    obtain ⟨k, rfl⟩ : ∃ k, i = k + 1 := ⟨i - 1, by omega⟩
    rw [sut_some hst, fz_one_s, ← hd1 k (by omega), Nat.add_sub_cancel, show fr + (k + 1) - 1 = fr + k by omega]
  · rw [va_up_ne _ _ e]; exact hd2 i (by omega) hin
theorem rk_d0 {a : Nat → Nat} {L at_ fr n j : Nat} {ts : List (Option (Nat → Bool))} {lt : Nat → Nat} {g : Nat → Bool} (hj : 0 < j) (hst : a at_ ≠ 42) (hd1 : ∀ i, i ≤ j → g i = fz ts (fun j => lt (fr + j)) i) (hd2 : ∀ i, j < i → i ≤ n → g i = fz (ts ++ [thv a L at_]) (fun j => lt (fr + j)) i) (h : g (j - 1) = false) : ∀ i, j - 1 < i → i ≤ n → va_up g j false i = fz (ts ++ [thv a L at_]) (fun j => lt (fr + j)) i :=
  rk_dd hj hst hd1 hd2 (by rw [h]; rfl)
theorem rk_d1 {a : Nat → Nat} {L at_ fr n j : Nat} {ts : List (Option (Nat → Bool))} {lt : Nat → Nat} {g : Nat → Bool} (hj : 0 < j) (hst : a at_ ≠ 42) (hd1 : ∀ i, i ≤ j → g i = fz ts (fun j => lt (fr + j)) i) (hd2 : ∀ i, j < i → i ≤ n → g i = fz (ts ++ [thv a L at_]) (fun j => lt (fr + j)) i) (h : g (j - 1) = true) (hs : sut a L at_ (lt (fr + j - 1)) = true) : ∀ i, j - 1 < i → i ≤ n → va_up g j true i = fz (ts ++ [thv a L at_]) (fun j => lt (fr + j)) i :=
  rk_dd hj hst hd1 hd2 (by rw [h, hs]; rfl)
theorem rk_d2 {a : Nat → Nat} {L at_ fr n j : Nat} {ts : List (Option (Nat → Bool))} {lt : Nat → Nat} {g : Nat → Bool} (hj : 0 < j) (hst : a at_ ≠ 42) (hd1 : ∀ i, i ≤ j → g i = fz ts (fun j => lt (fr + j)) i) (hd2 : ∀ i, j < i → i ≤ n → g i = fz (ts ++ [thv a L at_]) (fun j => lt (fr + j)) i) (hs : ¬ sut a L at_ (lt (fr + j - 1)) = true) : ∀ i, j - 1 < i → i ≤ n → va_up g j false i = fz (ts ++ [thv a L at_]) (fun j => lt (fr + j)) i :=
  rk_dd hj hst hd1 hd2 (by
    have : sut a L at_ (lt (fr + j - 1)) = false := by
      cases e : sut a L at_ (lt (fr + j - 1)) with
      | false => rfl
      | true => exact absurd e hs
    rw [this, Bool.and_false])
theorem rk_f {a : Nat → Nat} {L at_ n : Nat} {ts : List (Option (Nat → Bool))} {w : Nat → Nat} {g : Nat → Bool} (hst : a at_ ≠ 42) (hd2 : ∀ i, 0 < i → i ≤ n → g i = fz (ts ++ [thv a L at_]) w i) : ∀ i, i ≤ n → va_up g 0 false i = fz (ts ++ [thv a L at_]) w i := by
  intro i hi
  by_cases e : i = 0
  · rw [e, va_up_self, sut_some hst, fz_one_0]
  · rw [va_up_ne _ _ e]; exact hd2 i (by omega) hi
theorem okp_g {f n : Int32} {w : Nat} {b : Bool} (hw : w ≤ 400) (h2 : ¬ n < 0) (h3 : nI w < f) : nI 0 = if (okp f n w && b) = true then (1 : Int32) else 0 := by
  apply okp_f
  have h4 := Int32.lt_iff_toInt_lt.mp h3
  rw [nI_toInt (show w < 2 ^ 31 by omega)] at h4
  have h5 : ¬ n.toInt < 0 := fun z => h2 (lt0.mpr z)
  unfold okp
  rw [show decide (f.toInt + n.toInt ≤ (w : Int)) = false from decide_eq_false (by omega)]
  simp
/-- beginnings counted so far: those of fewer than j bytes -/
def bc (ts : List (Option (Nat → Bool))) (w : Nat → Nat) (j o : Nat) : Prop := match j with
  | 0 => o = 0
  | j + 1 => o = bg ts w j
theorem bc_1 {ts : List (Option (Nat → Bool))} {w : Nat → Nat} {j o : Nat} {b : Bool} (h : bc ts w j o) (hf : b = fz ts w j) (hb : b = true) : bc ts w (j + 1) (o + 1) := by
  rw [hb] at hf
  cases j with
  | zero =>
    have h : o = 0 := h
    show o + 1 = if fz ts w 0 = true then 1 else 0
    rw [← hf, h]; rfl
  | succ j =>
    have h : o = bg ts w j := h
    show o + 1 = bg ts w j + if fz ts w (j + 1) = true then 1 else 0
    rw [← hf, h]; rfl
theorem bc_0 {ts : List (Option (Nat → Bool))} {w : Nat → Nat} {j o : Nat} {b : Bool} (h : bc ts w j o) (hf : b = fz ts w j) (hb : b = false) : bc ts w (j + 1) (o + 0) := by
  rw [hb] at hf
  cases j with
  | zero =>
    have h : o = 0 := h
    show o + 0 = if fz ts w 0 = true then 1 else 0
    rw [← hf, h]; rfl
  | succ j =>
    have h : o = bg ts w j := h
    show o + 0 = bg ts w j + if fz ts w (j + 1) = true then 1 else 0
    rw [← hf, h]; rfl
theorem bc_e {ts : List (Option (Nat → Bool))} {w : Nat → Nat} {j o n : Nat} (h : bc ts w j o) (hj : j = n + 1) : nI o = nI (bg ts w n) := by
  subst hj
  have h : o = bg ts w n := h
  rw [h]
