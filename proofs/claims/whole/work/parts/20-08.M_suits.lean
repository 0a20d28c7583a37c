set_option maxHeartbeats 4000000 in
set_option maxRecDepth 100000 in
theorem c_M_suits (l : Launch) (dC : Nat → ClassId) (dI : Nat → Nat → Nat) (cI cJ cZ : ClassId) (m0 kt kp kw kf : Nat) (sz : Nat) (tl : Nat) (L : Nat) (wn : Nat) (en : Nat) (td : Nat) (a : Nat → Nat) (ix : Nat) (x : Nat) (hL : L ≤ 400) (ha : ∀ j, j < L → a j < 256) (hat : ix < L) (hx8 : x < 256) (hst : a ix ≠ 42) : Met l yM_suits wsM_suits ({ frames := 2, cells := 0, slots := 0, locals := 48 }) (va_Pc [.ref m0, .int (nI ix), .int (nI x)] (fun U => U.heap.size = sz ∧ va_P (dC, dI) vwCl [(m0, .inr (3, [.ref kt, .ref kp, .ref kw, .int (nI tl), .int (nI L), .int (nI wn), .int (nI en), .int (nI td), .ref kf])), (kp, .inl (cI, 400, .inl (fun j => nI (a j))))] U.heap ∧ va_K (dC, dI) vwCl [(cI, .int), (cJ, .long), (cZ, .boolean)] U ∧ va_D (fun _ => True) [(m0, .inr (3, [.ref kt, .ref kp, .ref kw, .int (nI tl), .int (nI L), .int (nI wn), .int (nI en), .int (nI td), .ref kf])), (kp, .inl (cI, 400, .inl (fun j => nI (a j))))])) (va_Qi (fun (r : Int32) (u : Nat × Nat) => u.1 = min (thn a L ix) L ∧ r = if sut a L ix x = true then 1 else 0) (fun (u : Nat × Nat) (t : State) => va_P (dC, dI) vwCl [(m0, .inr (3, [.ref kt, .ref kp, .ref kw, .int (nI tl), .int (nI L), .int (nI wn), .int (nI u.1), .int (nI u.2), .ref kf])), (kp, .inl (cI, 400, .inl (fun j => nI (a j))))] t.heap ∧ va_K (dC, dI) vwCl [(cI, .int), (cJ, .long), (cZ, .boolean)] t ∧ va_D (va_A [(m0, .inr (3, [.ref kt, .ref kp, .ref kw, .int (nI tl), .int (nI L), .int (nI wn), .int (nI en), .int (nI td), .ref kf])), (kp, .inl (cI, 400, .inl (fun j => nI (a j))))] sz) [(m0, .inr (3, [.ref kt, .ref kp, .ref kw, .int (nI tl), .int (nI L), .int (nI wn), .int (nI u.1), .int (nI u.2), .ref kf])), (kp, .inl (cI, 400, .inl (fun j => nI (a j))))]) (va_A [(m0, .inr (3, [.ref kt, .ref kp, .ref kw, .int (nI tl), .int (nI L), .int (nI wn), .int (nI en), .int (nI td), .ref kf])), (kp, .inl (cI, 400, .inl (fun j => nI (a j))))] sz)) 0 0 (va_A [(m0, .inr (3, [.ref kt, .ref kp, .ref kw, .int (nI tl), .int (nI L), .int (nI wn), .int (nI en), .int (nI td), .ref kf])), (kp, .inl (cI, 400, .inl (fun j => nI (a j))))] sz) := by
  refine Met.ofW (cc := cM_suits) (maxL := 3) (ret := (some .boolean)) (by decide) rfl ?_
  intro p e s m args below meth c s₁ B hml hv
  obtain ⟨rfl, hsz, hP, hK, hD0⟩ := hv
  have hx := B.exec
  have hb := B.bytes
  have hr := B.returns
  have hts := atoms_spec (ws := wsM_suits) B.pre
  have hown : s.vm.findClass RX3 = some m.cls := findClass_of_methodNamed B.named
  have hlocks := B.notSynchronized
  subst hsz
  have hD := hD0.self (sz := s.heap.size)
  generalize hAe : va_A [(m0, .inr (3, [.ref kt, .ref kp, .ref kw, .int (nI tl), .int (nI L), .int (nI wn), .int (nI en), .int (nI td), .ref kf])), (kp, .inl (cI, 400, .inl (fun j => nI (a j))))] s.heap.size = A at hD ⊢
  have hA : ∀ q : Nat, s.heap.size ≤ q → A q := fun q h => by rw [← hAe]; exact Or.inr h
  have hS : va_S A s.heap s.heap [] := va_S.rf
  have hP : va_P (dC, dI) vwCl [(m0, .inr (3, [.ref kt, .ref kp, .ref kw, .int (nI tl), .int (nI L), .int (nI wn), .int (nI en), .int (nI td), .ref kf])), (kp, .inl (cI, 400, .inl (fun j => nI (a j))))] s.heap := hP
  have hl := lv_entry ([.ref m0, .int (nI ix), .int (nI x)]) (n := 3) (Nat.le_of_ble_eq_true rfl)
  rw [lg_entry_eq]
  generalize (lg_sl ([.ref m0, .int (nI ix), .int (nI x)]) ++ List.replicate (3 - (lg_sl ([.ref m0, .int (nI ix), .int (nI x)])).length) Slot.unset).toArray = ls at hl ⊢
  have hl : lv_has ls 3 [(0, .ref m0), (1, .int (nI ix)), (2, .int (nI x))] := hl
  skip
  have h8 := ha ix hat
  refine lv_aload_n hx hb dM_suits_0 rfl (lv_at hl 0 rfl) ?_
  refine va_get (D := (dC, dI)) (ci := 3) (v := .ref kp) (C := RX3) (T := TX3) (N := 9) hx hb hts (by decide +kernel) hown hK hP 0 rfl rfl 1 (by decide) (hts (.fieldLink RX3 13 "WildCardsModel" "pattern" "[I") (by decide +kernel)) (fun _ h9 => h9) rfl dM_suits_1 ?_
  refine lv_iload_n hx hb dM_suits_4 rfl (lv_at hl 1 rfl) ?_
  refine va_iald hx hb hK hP 1 0 rfl rfl (vp_in_nI (by omega) (by omega)) dM_suits_5 ?_
  refine wl_asi (y := nI (a ix)) (by rw [nI_clamp (by omega)]) ?_
  refine lv_bipush (v := nI 91) hx hb dM_suits_6 (by decide) ?_
  refine wl_icmp_ne (tgt := 18) hx hb dM_suits_8 (by decide) (by omega) (by omega) (fun c8 => ?_) (fun c8 => ?_)
  · skip
    refine lv_aload_n hx hb dM_suits_18 rfl (lv_at hl 0 rfl) ?_
    refine va_get (D := (dC, dI)) (ci := 3) (v := .ref kp) (C := RX3) (T := TX3) (N := 9) hx hb hts (by decide +kernel) hown hK hP 0 rfl rfl 1 (by decide) (hts (.fieldLink RX3 13 "WildCardsModel" "pattern" "[I") (by decide +kernel)) (fun _ h9 => h9) rfl dM_suits_19 ?_
    refine lv_iload_n hx hb dM_suits_22 rfl (lv_at hl 1 rfl) ?_
    refine va_iald hx hb hK hP 1 0 rfl rfl (vp_in_nI (by omega) (by omega)) dM_suits_23 ?_
    refine wl_asi (y := nI (a ix)) (by rw [nI_clamp (by omega)]) ?_
    refine lv_bipush (v := nI 63) hx hb dM_suits_24 (by decide) ?_
    refine wl_icmp_ne (tgt := 38) hx hb dM_suits_26 (by decide) (by omega) (by omega) (fun c26 => ?_) (fun c26 => ?_)
    · skip
      refine lv_aload_n hx hb dM_suits_38 rfl (lv_at hl 0 rfl) ?_
      refine lv_aload_n hx hb dM_suits_39 rfl (lv_at hl 0 rfl) ?_
      refine lv_iload_n hx hb dM_suits_40 rfl (lv_at hl 1 rfl) ?_
      have hPc := hP.sub (ws' := [(m0, .inr (3, [.ref kt, .ref kp, .ref kw, .int (nI tl), .int (nI L), .int (nI wn), .int (nI en), .int (nI td), .ref kf])), (kp, .inl (cI, 400, .inl (fun j => nI (a j))))]) [0, 1] rfl
      have hDc := hD.sub (ws' := [(m0, .inr (3, [.ref kt, .ref kp, .ref kw, .int (nI tl), .int (nI L), .int (nI wn), .int (nI en), .int (nI td), .ref kf])), (kp, .inl (cI, 400, .inl (fun j => nI (a j))))]) [0, 1] (by decide) rfl
      have hFc := va_free (wc := [(m0, .inr (3, [.ref kt, .ref kp, .ref kw, .int (nI tl), .int (nI L), .int (nI wn), .int (nI en), .int (nI td), .ref kf])), (kp, .inl (cI, 400, .inl (fun j => nI (a j))))]) hD hS hA [0, 1] rfl
      refine va_calli (va_runV (As := [.int (nI ix)]) (rest := [.ref m0]) ⟨hx, hb, hml, hown, hts⟩ (c_M_tells l dC dI cI cJ cZ m0 kt kp kw kf s.heap.size tl L wn en td a ix hL ha hat) (cwV 1 hts gM_suits_M_tells rfl rfl rfl (by decide +kernel) ⟨Nat.le_of_ble_eq_true rfl, Nat.le_of_ble_eq_true rfl⟩) ⟨fun a U g mk q => by obtain ⟨q0, q1, qP, qK, qD⟩ := q; exact ⟨q0, q1, qP, va_K.moved (u := U) (U := U.calling g mk a) (Vm.Alike.refl U.vm) qK, qD⟩, va_recv hK hPc (ci := 3) (q0 := 0) rfl rfl, fun U hU hW => ⟨rfl, by rw [hU], by rw [hU]; exact hPc, va_K.moved hW.alike hK, hDc.weaken (fun _ _ _ _ => trivial)⟩⟩ rfl rfl hl.1 rfl (lv_room (Nat.le_of_ble_eq_true rfl)) dM_suits_41 ⟨show 0 + 0 ≤ 0 from by decide, show 0 + 0 ≤ 0 from by decide⟩) hS (fun q _ h => hFc q h) hFc (fun r41 u t H1 locs ht hvm hw41 hB hz1 hk1 hS => ?_)
      obtain ⟨td241, rfl⟩ : ∃ z, z = u := ⟨_, rfl⟩
      obtain ⟨hP1, hK1, hD1⟩ := hB
      rw [ht] at hP1
      try dsimp only at hw41 hP1 hD1
      obtain ⟨hP, hD⟩ := va_join (wr := []) (w1 := [(m0, .inr (3, [.ref kt, .ref kp, .ref kw, .int (nI tl), .int (nI L), .int (nI wn), .int (nI en), .int (nI td241), .ref kf])), (kp, .inl (cI, 400, .inl (fun j => nI (a j))))]) hP hD [0, 1] [] rfl rfl (by decide) (by decide) hk1 hFc hP1 hD1
      generalize H1 = H at hP hS ⊢
      have hP : va_P (dC, dI) vwCl [(m0, .inr (3, [.ref kt, .ref kp, .ref kw, .int (nI tl), .int (nI L), .int (nI wn), .int (nI en), .int (nI td241), .ref kf])), (kp, .inl (cI, 400, .inl (fun j => nI (a j))))] H := hP
      have hD : va_D A [(m0, .inr (3, [.ref kt, .ref kp, .ref kw, .int (nI tl), .int (nI L), .int (nI wn), .int (nI en), .int (nI td241), .ref kf])), (kp, .inl (cI, 400, .inl (fun j => nI (a j))))] := hD
      obtain ⟨rfl, hr41⟩ := hw41
      refine wl_asi (y := nI (rbn a L ix)) (hr41) ?_
      have h6 := rbv_lt ha hat
      refine va_put (D := (dC, dI)) (ci := 3) (v := .int (nI (rbn a L ix))) (ty := .int) (C := RX3) (T := TX3) (N := 9) hx hb hts (by decide +kernel) tyX3 tyX3_ok nmX3 hown hK hP hD hS 0 rfl rfl 6 (by decide) (hts (.fieldLink RX3 44 "WildCardsModel" "end" "I") (by decide +kernel)) (fun _ h9 => h9) rfl (by decide +kernel) rfl rfl (Nat.le_of_ble_eq_true rfl) dM_suits_44 (fun H locs hP hD hS => ?_)
      have hP : va_P (dC, dI) vwCl [(m0, .inr (3, [.ref kt, .ref kp, .ref kw, .int (nI tl), .int (nI L), .int (nI wn), .int (nI (rbn a L ix)), .int (nI (rbv a L ix)), .ref kf])), (kp, .inl (cI, 400, .inl (fun j => nI (a j))))] H := hP
      have hD : va_D A [(m0, .inr (3, [.ref kt, .ref kp, .ref kw, .int (nI tl), .int (nI L), .int (nI wn), .int (nI (rbn a L ix)), .int (nI (rbv a L ix)), .ref kf])), (kp, .inl (cI, 400, .inl (fun j => nI (a j))))] := hD
      refine lv_aload_n hx hb dM_suits_47 rfl (lv_at hl 0 rfl) ?_
      refine va_get (D := (dC, dI)) (ci := 3) (v := .int (nI (rbv a L ix))) (C := RX3) (T := TX3) (N := 9) hx hb hts (by decide +kernel) hown hK hP 0 rfl rfl 7 (by decide) (hts (.fieldLink RX3 37 "WildCardsModel" "told" "I") (by decide +kernel)) (fun _ h9 => h9) rfl dM_suits_48 ?_
      refine lv_iload_n hx hb dM_suits_51 rfl (lv_at hl 2 rfl) ?_
      refine wl_icmp_ne (tgt := 59) hx hb dM_suits_52 (by decide) (by omega) (by omega) (fun c52 => ?_) (fun c52 => ?_)
      · skip
        refine lv_iconst (v := nI 0) hx hb dM_suits_59 (by decide) ?_
        have hP9 := hP.sub (ws' := [(m0, .inr (3, [.ref kt, .ref kp, .ref kw, .int (nI tl), .int (nI L), .int (nI wn), .int (nI (rbn a L ix)), .int (nI (rbv a L ix)), .ref kf])), (kp, .inl (cI, 400, .inl (fun j => nI (a j))))]) [0, 1] rfl
        have hD9 := hD.sub (ws' := [(m0, .inr (3, [.ref kt, .ref kp, .ref kw, .int (nI tl), .int (nI L), .int (nI wn), .int (nI (rbn a L ix)), .int (nI (rbv a L ix)), .ref kf])), (kp, .inl (cI, 400, .inl (fun j => nI (a j))))]) [0, 1] (by decide) rfl
        exact W.zret (v := nI 0) hx hb hr (by decide) (fun t ht hW => ⟨⟨nI 0, (rbn a L ix, rbv a L ix), rfl, (show (rbn a L ix) = min (thn a L ix) L ∧ (nI 0) = if sut a L ix x = true then 1 else 0 from su_0 hat hst c26 c8 c52), by rw [ht]; exact hP9, va_K.moved hW.alike hK, hD9⟩, hS.F ht⟩) hS.2.2 dM_suits_60
      · skip
        refine lv_iconst (v := nI 1) hx hb dM_suits_55 (by decide) ?_
        refine lv_goto (tgt := 60) hx hb dM_suits_56 (by decide) ?_
        have hP9 := hP.sub (ws' := [(m0, .inr (3, [.ref kt, .ref kp, .ref kw, .int (nI tl), .int (nI L), .int (nI wn), .int (nI (rbn a L ix)), .int (nI (rbv a L ix)), .ref kf])), (kp, .inl (cI, 400, .inl (fun j => nI (a j))))]) [0, 1] rfl
        have hD9 := hD.sub (ws' := [(m0, .inr (3, [.ref kt, .ref kp, .ref kw, .int (nI tl), .int (nI L), .int (nI wn), .int (nI (rbn a L ix)), .int (nI (rbv a L ix)), .ref kf])), (kp, .inl (cI, 400, .inl (fun j => nI (a j))))]) [0, 1] (by decide) rfl
        exact W.zret (v := nI 1) hx hb hr (by decide) (fun t ht hW => ⟨⟨nI 1, (rbn a L ix, rbv a L ix), rfl, (show (rbn a L ix) = min (thn a L ix) L ∧ (nI 1) = if sut a L ix x = true then 1 else 0 from su_1 hat hst c26 c8 c52), by rw [ht]; exact hP9, va_K.moved hW.alike hK, hD9⟩, hS.F ht⟩) hS.2.2 dM_suits_60
    · skip
      refine lv_aload_n hx hb dM_suits_29 rfl (lv_at hl 0 rfl) ?_
      refine lv_iload_n hx hb dM_suits_30 rfl (lv_at hl 1 rfl) ?_
      refine lv_iconst (v := nI 1) hx hb dM_suits_31 (by decide) ?_
      refine lv_iadd hx hb dM_suits_32 ?_
      refine wl_asi (y := nI (ix + 1)) (nI_add _ _) ?_
      refine va_put (D := (dC, dI)) (ci := 3) (v := .int (nI (ix + 1))) (ty := .int) (C := RX3) (T := TX3) (N := 9) hx hb hts (by decide +kernel) tyX3 tyX3_ok nmX3 hown hK hP hD hS 0 rfl rfl 6 (by decide) (hts (.fieldLink RX3 44 "WildCardsModel" "end" "I") (by decide +kernel)) (fun _ h9 => h9) rfl (by decide +kernel) rfl rfl (Nat.le_of_ble_eq_true rfl) dM_suits_33 (fun H locs hP hD hS => ?_)
      have hP : va_P (dC, dI) vwCl [(m0, .inr (3, [.ref kt, .ref kp, .ref kw, .int (nI tl), .int (nI L), .int (nI wn), .int (nI (ix + 1)), .int (nI td), .ref kf])), (kp, .inl (cI, 400, .inl (fun j => nI (a j))))] H := hP
      have hD : va_D A [(m0, .inr (3, [.ref kt, .ref kp, .ref kw, .int (nI tl), .int (nI L), .int (nI wn), .int (nI (ix + 1)), .int (nI td), .ref kf])), (kp, .inl (cI, 400, .inl (fun j => nI (a j))))] := hD
      refine lv_iconst (v := nI 1) hx hb dM_suits_36 (by decide) ?_
      have hP9 := hP.sub (ws' := [(m0, .inr (3, [.ref kt, .ref kp, .ref kw, .int (nI tl), .int (nI L), .int (nI wn), .int (nI (ix + 1)), .int (nI td), .ref kf])), (kp, .inl (cI, 400, .inl (fun j => nI (a j))))]) [0, 1] rfl
      have hD9 := hD.sub (ws' := [(m0, .inr (3, [.ref kt, .ref kp, .ref kw, .int (nI tl), .int (nI L), .int (nI wn), .int (nI (ix + 1)), .int (nI td), .ref kf])), (kp, .inl (cI, 400, .inl (fun j => nI (a j))))]) [0, 1] (by decide) rfl
      exact W.zret (v := nI 1) hx hb hr (by decide) (fun t ht hW => ⟨⟨nI 1, (ix + 1, td), rfl, (show (ix + 1) = min (thn a L ix) L ∧ (nI 1) = if sut a L ix x = true then 1 else 0 from su_a hat hst c26), by rw [ht]; exact hP9, va_K.moved hW.alike hK, hD9⟩, hS.F ht⟩) hS.2.2 dM_suits_37
  · skip
    refine lv_aload_n hx hb dM_suits_11 rfl (lv_at hl 0 rfl) ?_
    refine lv_iload_n hx hb dM_suits_12 rfl (lv_at hl 1 rfl) ?_
    refine lv_iload_n hx hb dM_suits_13 rfl (lv_at hl 2 rfl) ?_
    have hPc := hP.sub (ws' := [(m0, .inr (3, [.ref kt, .ref kp, .ref kw, .int (nI tl), .int (nI L), .int (nI wn), .int (nI en), .int (nI td), .ref kf])), (kp, .inl (cI, 400, .inl (fun j => nI (a j))))]) [0, 1] rfl
    have hDc := hD.sub (ws' := [(m0, .inr (3, [.ref kt, .ref kp, .ref kw, .int (nI tl), .int (nI L), .int (nI wn), .int (nI en), .int (nI td), .ref kf])), (kp, .inl (cI, 400, .inl (fun j => nI (a j))))]) [0, 1] (by decide) rfl
    have hFc := va_free (wc := [(m0, .inr (3, [.ref kt, .ref kp, .ref kw, .int (nI tl), .int (nI L), .int (nI wn), .int (nI en), .int (nI td), .ref kf])), (kp, .inl (cI, 400, .inl (fun j => nI (a j))))]) hD hS hA [0, 1] rfl
    refine va_calli (va_runV (As := [.int (nI ix), .int (nI x)]) (rest := []) ⟨hx, hb, hml, hown, hts⟩ (c_M_isOne l dC dI cI cJ cZ m0 kt kp kw kf s.heap.size tl L wn en td a ix x hL ha hat hx8) (cwV 2 hts gM_suits_M_isOne rfl rfl rfl (by decide +kernel) ⟨Nat.le_of_ble_eq_true rfl, Nat.le_of_ble_eq_true rfl⟩) ⟨fun a U g mk q => by obtain ⟨q0, q1, qP, qK, qD⟩ := q; exact ⟨q0, q1, qP, va_K.moved (u := U) (U := U.calling g mk a) (Vm.Alike.refl U.vm) qK, qD⟩, va_recv hK hPc (ci := 3) (q0 := 0) rfl rfl, fun U hU hW => ⟨rfl, by rw [hU], by rw [hU]; exact hPc, va_K.moved hW.alike hK, hDc.weaken (fun _ _ _ _ => trivial)⟩⟩ rfl rfl hl.1 rfl (lv_room (Nat.le_of_ble_eq_true rfl)) dM_suits_14 ⟨show 0 + 0 ≤ 0 from by decide, show 0 + 0 ≤ 0 from by decide⟩) hS (fun q _ h => hFc q h) hFc (fun r14 u t H1 locs ht hvm hw14 hB hz1 hk1 hS => ?_)
    obtain ⟨en214, td214⟩ := u
    obtain ⟨hP1, hK1, hD1⟩ := hB
    rw [ht] at hP1
    try dsimp only at hw14 hP1 hD1
    obtain ⟨hP, hD⟩ := va_join (wr := []) (w1 := [(m0, .inr (3, [.ref kt, .ref kp, .ref kw, .int (nI tl), .int (nI L), .int (nI wn), .int (nI en214), .int (nI td214), .ref kf])), (kp, .inl (cI, 400, .inl (fun j => nI (a j))))]) hP hD [0, 1] [] rfl rfl (by decide) (by decide) hk1 hFc hP1 hD1
    generalize H1 = H at hP hS ⊢
    have hP : va_P (dC, dI) vwCl [(m0, .inr (3, [.ref kt, .ref kp, .ref kw, .int (nI tl), .int (nI L), .int (nI wn), .int (nI en214), .int (nI td214), .ref kf])), (kp, .inl (cI, 400, .inl (fun j => nI (a j))))] H := hP
    have hD : va_D A [(m0, .inr (3, [.ref kt, .ref kp, .ref kw, .int (nI tl), .int (nI L), .int (nI wn), .int (nI en214), .int (nI td214), .ref kf])), (kp, .inl (cI, 400, .inl (fun j => nI (a j))))] := hD
    have hP9 := hP.sub (ws' := [(m0, .inr (3, [.ref kt, .ref kp, .ref kw, .int (nI tl), .int (nI L), .int (nI wn), .int (nI en214), .int (nI td214), .ref kf])), (kp, .inl (cI, 400, .inl (fun j => nI (a j))))]) [0, 1] rfl
    have hD9 := hD.sub (ws' := [(m0, .inr (3, [.ref kt, .ref kp, .ref kw, .int (nI tl), .int (nI L), .int (nI wn), .int (nI en214), .int (nI td214), .ref kf])), (kp, .inl (cI, 400, .inl (fun j => nI (a j))))]) [0, 1] (by decide) rfl
    exact W.zret (v := r14) hx hb hr (wl_bool hw14.2) (fun t ht hW => ⟨⟨r14, (en214, td214), rfl, (show en214 = min (thn a L ix) L ∧ r14 = if sut a L ix x = true then 1 else 0 from su_b hst c8 hw14), by rw [ht]; exact hP9, va_K.moved hW.alike hK, hD9⟩, hS.F ht⟩) hS.2.2 dM_suits_17
