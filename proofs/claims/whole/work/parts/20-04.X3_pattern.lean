set_option maxHeartbeats 4000000 in
set_option maxRecDepth 100000 in
theorem c_X3_pattern (l : Launch) (dC : Nat → ClassId) (dI : Nat → Nat → Nat) (cI cJ cZ : ClassId) (m0 kt kp kw kf : Nat) (sz : Nat) (tl : Nat) (L : Nat) (wn : Nat) (en : Nat) (td : Nat) (tp : Nat → Nat) (a : Nat → Nat) (htl : tl ≤ 400) : Met l yX3_pattern wsX3_pattern ({ frames := 0, cells := 0, slots := 0, locals := 0 }) (va_Pc [.ref m0] (fun U => U.heap.size = sz ∧ va_P (dC, dI) vwCl [(m0, .inr (3, [.ref kt, .ref kp, .ref kw, .int (nI tl), .int (nI L), .int (nI wn), .int (nI en), .int (nI td), .ref kf])), (kt, .inl (cI, 400, .inl (fun j => nI (tp j)))), (kp, .inl (cI, 400, .inl (fun j => nI (a j))))] U.heap ∧ va_K (dC, dI) vwCl [(cI, .int), (cJ, .long), (cZ, .boolean)] U ∧ va_D (fun _ => True) [(m0, .inr (3, [.ref kt, .ref kp, .ref kw, .int (nI tl), .int (nI L), .int (nI wn), .int (nI en), .int (nI td), .ref kf])), (kt, .inl (cI, 400, .inl (fun j => nI (tp j)))), (kp, .inl (cI, 400, .inl (fun j => nI (a j))))])) (va_Qi (fun (r : Int32) (u : Unit) => r = nI tl) (fun (u : Unit) (t : State) => va_P (dC, dI) vwCl [(m0, .inr (3, [.ref kt, .ref kp, .ref kw, .int (nI 0), .int (nI tl), .int (nI wn), .int (nI en), .int (nI td), .ref kf])), (kt, .inl (cI, 400, .inl (fun j => nI (tp j)))), (kp, .inl (cI, 400, .inl (fun j => nI ((va_cpy tp a 0 0 tl) j))))] t.heap ∧ va_K (dC, dI) vwCl [(cI, .int), (cJ, .long), (cZ, .boolean)] t ∧ va_D (va_A [(m0, .inr (3, [.ref kt, .ref kp, .ref kw, .int (nI tl), .int (nI L), .int (nI wn), .int (nI en), .int (nI td), .ref kf])), (kt, .inl (cI, 400, .inl (fun j => nI (tp j)))), (kp, .inl (cI, 400, .inl (fun j => nI (a j))))] sz) [(m0, .inr (3, [.ref kt, .ref kp, .ref kw, .int (nI 0), .int (nI tl), .int (nI wn), .int (nI en), .int (nI td), .ref kf])), (kt, .inl (cI, 400, .inl (fun j => nI (tp j)))), (kp, .inl (cI, 400, .inl (fun j => nI ((va_cpy tp a 0 0 tl) j))))]) (va_A [(m0, .inr (3, [.ref kt, .ref kp, .ref kw, .int (nI tl), .int (nI L), .int (nI wn), .int (nI en), .int (nI td), .ref kf])), (kt, .inl (cI, 400, .inl (fun j => nI (tp j)))), (kp, .inl (cI, 400, .inl (fun j => nI (a j))))] sz)) 0 0 (va_A [(m0, .inr (3, [.ref kt, .ref kp, .ref kw, .int (nI tl), .int (nI L), .int (nI wn), .int (nI en), .int (nI td), .ref kf])), (kt, .inl (cI, 400, .inl (fun j => nI (tp j)))), (kp, .inl (cI, 400, .inl (fun j => nI (a j))))] sz) := by
  refine Met.ofW (cc := cX3_pattern) (maxL := 2) (ret := (some .int)) (by decide) rfl ?_
  intro p e s m args below meth c s₁ B hml hv
  obtain ⟨rfl, hsz, hP, hK, hD0⟩ := hv
  have hx := B.exec
  have hb := B.bytes
  have hr := B.returns
  have hts := atoms_spec (ws := wsX3_pattern) B.pre
  have hown : s.vm.findClass RX3 = some m.cls := findClass_of_methodNamed B.named
  have hlocks := B.notSynchronized
  subst hsz
  have hD := hD0.self (sz := s.heap.size)
  generalize hAe : va_A [(m0, .inr (3, [.ref kt, .ref kp, .ref kw, .int (nI tl), .int (nI L), .int (nI wn), .int (nI en), .int (nI td), .ref kf])), (kt, .inl (cI, 400, .inl (fun j => nI (tp j)))), (kp, .inl (cI, 400, .inl (fun j => nI (a j))))] s.heap.size = A at hD ⊢
  have hA : ∀ q : Nat, s.heap.size ≤ q → A q := fun q h => by rw [← hAe]; exact Or.inr h
  have hS : va_S A s.heap s.heap [] := va_S.rf
  have hP : va_P (dC, dI) vwCl [(m0, .inr (3, [.ref kt, .ref kp, .ref kw, .int (nI tl), .int (nI L), .int (nI wn), .int (nI en), .int (nI td), .ref kf])), (kt, .inl (cI, 400, .inl (fun j => nI (tp j)))), (kp, .inl (cI, 400, .inl (fun j => nI (a j))))] s.heap := hP
  have hl := lv_entry ([.ref m0]) (n := 2) (Nat.le_of_ble_eq_true rfl)
  rw [lg_entry_eq]
  generalize (lg_sl ([.ref m0]) ++ List.replicate (2 - (lg_sl ([.ref m0])).length) Slot.unset).toArray = ls at hl ⊢
  have hl : lv_has ls 2 [(0, .ref m0)] := hl
  skip
  refine lv_aload_n hx hb dX3_pattern_0 rfl (lv_at hl 0 rfl) ?_
  refine lv_aload_n hx hb dX3_pattern_1 rfl (lv_at hl 0 rfl) ?_
  refine va_get (D := (dC, dI)) (ci := 3) (v := .int (nI tl)) (C := RX3) (T := TX3) (N := 9) hx hb hts (by decide +kernel) hown hK hP 0 rfl rfl 3 (by decide) (hts (.fieldLink RX3 23 "WildCardsModel" "typed" "I") (by decide +kernel)) (fun _ h9 => h9) rfl dX3_pattern_2 ?_
  refine va_put (D := (dC, dI)) (ci := 3) (v := .int (nI tl)) (ty := .int) (C := RX3) (T := TX3) (N := 9) hx hb hts (by decide +kernel) tyX3 tyX3_ok nmX3 hown hK hP hD hS 0 rfl rfl 4 (by decide) (hts (.fieldLink RX3 31 "WildCardsModel" "size" "I") (by decide +kernel)) (fun _ h9 => h9) rfl (by decide +kernel) rfl rfl (Nat.le_of_ble_eq_true rfl) dX3_pattern_5 (fun H locs hP hD hS => ?_)
  have hP : va_P (dC, dI) vwCl [(m0, .inr (3, [.ref kt, .ref kp, .ref kw, .int (nI tl), .int (nI tl), .int (nI wn), .int (nI en), .int (nI td), .ref kf])), (kt, .inl (cI, 400, .inl (fun j => nI (tp j)))), (kp, .inl (cI, 400, .inl (fun j => nI (a j))))] H := hP
  have hD : va_D A [(m0, .inr (3, [.ref kt, .ref kp, .ref kw, .int (nI tl), .int (nI tl), .int (nI wn), .int (nI en), .int (nI td), .ref kf])), (kt, .inl (cI, 400, .inl (fun j => nI (tp j)))), (kp, .inl (cI, 400, .inl (fun j => nI (a j))))] := hD
  refine lv_iconst (v := nI 0) hx hb dX3_pattern_8 (by decide) ?_
  refine lv_istore_n (lv' := [(1, .int (nI 0)), (0, .ref m0)]) hx hb dX3_pattern_9 rfl hl (by decide) rfl (fun ls hl => ?_)
  have hP : va_P (dC, dI) vwCl [(m0, .inr (3, [.ref kt, .ref kp, .ref kw, .int (nI tl), .int (nI tl), .int (nI wn), .int (nI en), .int (nI td), .ref kf])), (kt, .inl (cI, 400, .inl (fun j => nI (tp j)))), (kp, .inl (cI, 400, .inl (fun j => nI ((va_cpy tp a 0 0 0) j))))] H := by rw [cpy_0]; exact hP
  have hD : va_D A [(m0, .inr (3, [.ref kt, .ref kp, .ref kw, .int (nI tl), .int (nI tl), .int (nI wn), .int (nI en), .int (nI td), .ref kf])), (kt, .inl (cI, 400, .inl (fun j => nI (tp j)))), (kp, .inl (cI, 400, .inl (fun j => nI ((va_cpy tp a 0 0 0) j))))] := by rw [cpy_0]; exact hD
  refine wl_loop (σ := Nat) (fun z9 => tl - z9) (fun z9 H locs ls => (z9 ≤ tl) ∧ va_P (dC, dI) vwCl [(m0, .inr (3, [.ref kt, .ref kp, .ref kw, .int (nI tl), .int (nI tl), .int (nI wn), .int (nI en), .int (nI td), .ref kf])), (kt, .inl (cI, 400, .inl (fun j => nI (tp j)))), (kp, .inl (cI, 400, .inl (fun j => nI ((va_cpy tp a 0 0 z9) j))))] H ∧ va_D A [(m0, .inr (3, [.ref kt, .ref kp, .ref kw, .int (nI tl), .int (nI tl), .int (nI wn), .int (nI en), .int (nI td), .ref kf])), (kt, .inl (cI, 400, .inl (fun j => nI (tp j)))), (kp, .inl (cI, 400, .inl (fun j => nI ((va_cpy tp a 0 0 z9) j))))] ∧ va_S A s.heap H locs ∧ lv_has ls 2 [(0, .ref m0), (1, .int (nI z9))]) ?_ (0) ⟨(show (0) ≤ tl from Nat.zero_le _), hP.sub [0, 1, 2] rfl, hD.sub [0, 1, 2] (by decide) rfl, hS, lv_sub hl [1, 0] rfl⟩
  intro z9 H locs ls hI ih10
  obtain ⟨k, rfl⟩ : ∃ z, z = z9 := ⟨_, rfl⟩
  obtain ⟨hk, hP, hD, hS, hl⟩ := hI
  try dsimp only at hk hP hD hl
  have hP : va_P (dC, dI) vwCl [(m0, .inr (3, [.ref kt, .ref kp, .ref kw, .int (nI tl), .int (nI tl), .int (nI wn), .int (nI en), .int (nI td), .ref kf])), (kt, .inl (cI, 400, .inl (fun j => nI (tp j)))), (kp, .inl (cI, 400, .inl (fun j => nI ((va_cpy tp a 0 0 k) j))))] H := hP
  have hD : va_D A [(m0, .inr (3, [.ref kt, .ref kp, .ref kw, .int (nI tl), .int (nI tl), .int (nI wn), .int (nI en), .int (nI td), .ref kf])), (kt, .inl (cI, 400, .inl (fun j => nI (tp j)))), (kp, .inl (cI, 400, .inl (fun j => nI ((va_cpy tp a 0 0 k) j))))] := hD
  have hl : lv_has ls 2 [(0, .ref m0), (1, .int (nI k))] := hl
  refine lv_iload_n hx hb dX3_pattern_10 rfl (lv_at hl 1 rfl) ?_
  refine lv_aload_n hx hb dX3_pattern_11 rfl (lv_at hl 0 rfl) ?_
  refine va_get (D := (dC, dI)) (ci := 3) (v := .int (nI tl)) (C := RX3) (T := TX3) (N := 9) hx hb hts (by decide +kernel) hown hK hP 0 rfl rfl 4 (by decide) (hts (.fieldLink RX3 31 "WildCardsModel" "size" "I") (by decide +kernel)) (fun _ h9 => h9) rfl dX3_pattern_12 ?_
  refine wl_icmp_ge (tgt := 36) hx hb dX3_pattern_15 (by decide) (by omega) (by omega) (fun c15 => ?_) (fun c15 => ?_)
  · skip
    have ek : k = tl := by omega
    rw [ek] at hP hD
    have hP : va_P (dC, dI) vwCl [(m0, .inr (3, [.ref kt, .ref kp, .ref kw, .int (nI tl), .int (nI tl), .int (nI wn), .int (nI en), .int (nI td), .ref kf])), (kt, .inl (cI, 400, .inl (fun j => nI (tp j)))), (kp, .inl (cI, 400, .inl (fun j => nI ((va_cpy tp a 0 0 tl) j))))] H := hP
    have hD : va_D A [(m0, .inr (3, [.ref kt, .ref kp, .ref kw, .int (nI tl), .int (nI tl), .int (nI wn), .int (nI en), .int (nI td), .ref kf])), (kt, .inl (cI, 400, .inl (fun j => nI (tp j)))), (kp, .inl (cI, 400, .inl (fun j => nI ((va_cpy tp a 0 0 tl) j))))] := hD
    refine lv_aload_n hx hb dX3_pattern_36 rfl (lv_at hl 0 rfl) ?_
    refine lv_iconst (v := nI 0) hx hb dX3_pattern_37 (by decide) ?_
    refine va_put (D := (dC, dI)) (ci := 3) (v := .int (nI 0)) (ty := .int) (C := RX3) (T := TX3) (N := 9) hx hb hts (by decide +kernel) tyX3 tyX3_ok nmX3 hown hK hP hD hS 0 rfl rfl 3 (by decide) (hts (.fieldLink RX3 23 "WildCardsModel" "typed" "I") (by decide +kernel)) (fun _ h9 => h9) rfl (by decide +kernel) rfl rfl (Nat.le_of_ble_eq_true rfl) dX3_pattern_38 (fun H locs hP hD hS => ?_)
    have hP : va_P (dC, dI) vwCl [(m0, .inr (3, [.ref kt, .ref kp, .ref kw, .int (nI 0), .int (nI tl), .int (nI wn), .int (nI en), .int (nI td), .ref kf])), (kt, .inl (cI, 400, .inl (fun j => nI (tp j)))), (kp, .inl (cI, 400, .inl (fun j => nI ((va_cpy tp a 0 0 tl) j))))] H := hP
    have hD : va_D A [(m0, .inr (3, [.ref kt, .ref kp, .ref kw, .int (nI 0), .int (nI tl), .int (nI wn), .int (nI en), .int (nI td), .ref kf])), (kt, .inl (cI, 400, .inl (fun j => nI (tp j)))), (kp, .inl (cI, 400, .inl (fun j => nI ((va_cpy tp a 0 0 tl) j))))] := hD
    refine lv_aload_n hx hb dX3_pattern_41 rfl (lv_at hl 0 rfl) ?_
    refine va_get (D := (dC, dI)) (ci := 3) (v := .int (nI tl)) (C := RX3) (T := TX3) (N := 9) hx hb hts (by decide +kernel) hown hK hP 0 rfl rfl 4 (by decide) (hts (.fieldLink RX3 31 "WildCardsModel" "size" "I") (by decide +kernel)) (fun _ h9 => h9) rfl dX3_pattern_42 ?_
    have hP9 := hP.sub (ws' := [(m0, .inr (3, [.ref kt, .ref kp, .ref kw, .int (nI 0), .int (nI tl), .int (nI wn), .int (nI en), .int (nI td), .ref kf])), (kt, .inl (cI, 400, .inl (fun j => nI (tp j)))), (kp, .inl (cI, 400, .inl (fun j => nI ((va_cpy tp a 0 0 tl) j))))]) [0, 1, 2] rfl
    have hD9 := hD.sub (ws' := [(m0, .inr (3, [.ref kt, .ref kp, .ref kw, .int (nI 0), .int (nI tl), .int (nI wn), .int (nI en), .int (nI td), .ref kf])), (kt, .inl (cI, 400, .inl (fun j => nI (tp j)))), (kp, .inl (cI, 400, .inl (fun j => nI ((va_cpy tp a 0 0 tl) j))))]) [0, 1, 2] (by decide) rfl
    exact W.iret (v := nI tl) hx hb hr  (fun t ht hW => ⟨⟨nI tl, (), rfl, (show (nI tl) = nI tl from rfl), by rw [ht]; exact hP9, va_K.moved hW.alike hK, hD9⟩, hS.F ht⟩) hS.2.2 dX3_pattern_45
  · skip
    refine lv_aload_n hx hb dX3_pattern_18 rfl (lv_at hl 0 rfl) ?_
    refine va_get (D := (dC, dI)) (ci := 3) (v := .ref kp) (C := RX3) (T := TX3) (N := 9) hx hb hts (by decide +kernel) hown hK hP 0 rfl rfl 1 (by decide) (hts (.fieldLink RX3 13 "WildCardsModel" "pattern" "[I") (by decide +kernel)) (fun _ h9 => h9) rfl dX3_pattern_19 ?_
    refine lv_iload_n hx hb dX3_pattern_22 rfl (lv_at hl 1 rfl) ?_
    refine lv_aload_n hx hb dX3_pattern_23 rfl (lv_at hl 0 rfl) ?_
    refine va_get (D := (dC, dI)) (ci := 3) (v := .ref kt) (C := RX3) (T := TX3) (N := 9) hx hb hts (by decide +kernel) hown hK hP 0 rfl rfl 0 (by decide) (hts (.fieldLink RX3 7 "WildCardsModel" "tape" "[I") (by decide +kernel)) (fun _ h9 => h9) rfl dX3_pattern_24 ?_
    refine lv_iload_n hx hb dX3_pattern_27 rfl (lv_at hl 1 rfl) ?_
    refine va_iald hx hb hK hP 1 0 rfl rfl (vp_in_nI (by omega) (by omega)) dX3_pattern_28 ?_
    refine wl_asi (y := nI (tp k)) (by rw [nI_clamp (by omega)]) ?_
    refine va_iast hx hb hK hP hD hS 2 0 rfl rfl (vp_in_nI (by omega) (by omega)) dX3_pattern_29 (fun H locs hP hD hS => ?_)
    rw [nI_clamp (by omega)] at hP hD
    rw [wl_updN] at hP hD
    have hP : va_P (dC, dI) vwCl [(m0, .inr (3, [.ref kt, .ref kp, .ref kw, .int (nI tl), .int (nI tl), .int (nI wn), .int (nI en), .int (nI td), .ref kf])), (kt, .inl (cI, 400, .inl (fun j => nI (tp j)))), (kp, .inl (cI, 400, .inl (fun j => nI ((va_up (va_cpy tp a 0 0 k) k (tp k)) j))))] H := hP
    have hD : va_D A [(m0, .inr (3, [.ref kt, .ref kp, .ref kw, .int (nI tl), .int (nI tl), .int (nI wn), .int (nI en), .int (nI td), .ref kf])), (kt, .inl (cI, 400, .inl (fun j => nI (tp j)))), (kp, .inl (cI, 400, .inl (fun j => nI ((va_up (va_cpy tp a 0 0 k) k (tp k)) j))))] := hD
    refine lv_iinc (v := nI (k + 1)) (lv' := [(1, .int (nI (k + 1))), (0, .ref m0)]) hx hb dX3_pattern_30 hl (k := 1) rfl (wl_inc _ _ (by decide)) (by decide) rfl (fun ls hl => ?_)
    refine lv_goto (tgt := 10) hx hb dX3_pattern_33 (by decide) ?_
    rw [cpy_s] at hP hD
    have hP : va_P (dC, dI) vwCl [(m0, .inr (3, [.ref kt, .ref kp, .ref kw, .int (nI tl), .int (nI tl), .int (nI wn), .int (nI en), .int (nI td), .ref kf])), (kt, .inl (cI, 400, .inl (fun j => nI (tp j)))), (kp, .inl (cI, 400, .inl (fun j => nI ((va_cpy tp a 0 0 (k + 1)) j))))] H := hP
    have hD : va_D A [(m0, .inr (3, [.ref kt, .ref kp, .ref kw, .int (nI tl), .int (nI tl), .int (nI wn), .int (nI en), .int (nI td), .ref kf])), (kt, .inl (cI, 400, .inl (fun j => nI (tp j)))), (kp, .inl (cI, 400, .inl (fun j => nI ((va_cpy tp a 0 0 (k + 1)) j))))] := hD
    exact ih10 (k + 1) H locs ls ⟨(show (k + 1) ≤ tl from by omega), hP.sub [0, 1, 2] rfl, hD.sub [0, 1, 2] (by decide) rfl, hS, lv_sub hl [1, 0] rfl⟩ (by (try dsimp only); omega)
