set_option maxHeartbeats 4000000 in
set_option maxRecDepth 100000 in
theorem c_M_tells (l : Launch) (dC : Nat → ClassId) (dI : Nat → Nat → Nat) (cI cJ cZ : ClassId) (m0 kt kp kw kf : Nat) (sz : Nat) (tl : Nat) (L : Nat) (wn : Nat) (en : Nat) (td : Nat) (a : Nat → Nat) (ix : Nat) (hL : L ≤ 400) (ha : ∀ j, j < L → a j < 256) (hat : ix < L) : Met l yM_tells wsM_tells ({ frames := 0, cells := 0, slots := 0, locals := 0 }) (va_Pc [.ref m0, .int (nI ix)] (fun U => U.heap.size = sz ∧ va_P (dC, dI) vwCl [(m0, .inr (3, [.ref kt, .ref kp, .ref kw, .int (nI tl), .int (nI L), .int (nI wn), .int (nI en), .int (nI td), .ref kf])), (kp, .inl (cI, 400, .inl (fun j => nI (a j))))] U.heap ∧ va_K (dC, dI) vwCl [(cI, .int), (cJ, .long), (cZ, .boolean)] U ∧ va_D (fun _ => True) [(m0, .inr (3, [.ref kt, .ref kp, .ref kw, .int (nI tl), .int (nI L), .int (nI wn), .int (nI en), .int (nI td), .ref kf])), (kp, .inl (cI, 400, .inl (fun j => nI (a j))))])) (va_Qi (fun (r : Int32) (u : Nat) => u = rbv a L ix ∧ r = nI (rbn a L ix)) (fun (u : Nat) (t : State) => va_P (dC, dI) vwCl [(m0, .inr (3, [.ref kt, .ref kp, .ref kw, .int (nI tl), .int (nI L), .int (nI wn), .int (nI en), .int (nI u), .ref kf])), (kp, .inl (cI, 400, .inl (fun j => nI (a j))))] t.heap ∧ va_K (dC, dI) vwCl [(cI, .int), (cJ, .long), (cZ, .boolean)] t ∧ va_D (va_A [(m0, .inr (3, [.ref kt, .ref kp, .ref kw, .int (nI tl), .int (nI L), .int (nI wn), .int (nI en), .int (nI td), .ref kf])), (kp, .inl (cI, 400, .inl (fun j => nI (a j))))] sz) [(m0, .inr (3, [.ref kt, .ref kp, .ref kw, .int (nI tl), .int (nI L), .int (nI wn), .int (nI en), .int (nI u), .ref kf])), (kp, .inl (cI, 400, .inl (fun j => nI (a j))))]) (va_A [(m0, .inr (3, [.ref kt, .ref kp, .ref kw, .int (nI tl), .int (nI L), .int (nI wn), .int (nI en), .int (nI td), .ref kf])), (kp, .inl (cI, 400, .inl (fun j => nI (a j))))] sz)) 0 0 (va_A [(m0, .inr (3, [.ref kt, .ref kp, .ref kw, .int (nI tl), .int (nI L), .int (nI wn), .int (nI en), .int (nI td), .ref kf])), (kp, .inl (cI, 400, .inl (fun j => nI (a j))))] sz) := by
  refine Met.ofW (cc := cM_tells) (maxL := 2) (ret := (some .int)) (by decide) rfl ?_
  intro p e s m args below meth c s₁ B hml hv
  obtain ⟨rfl, hsz, hP, hK, hD0⟩ := hv
  have hx := B.exec
  have hb := B.bytes
  have hr := B.returns
  have hts := atoms_spec (ws := wsM_tells) B.pre
  have hown : s.vm.findClass RX3 = some m.cls := findClass_of_methodNamed B.named
  have hlocks := B.notSynchronized
  subst hsz
  have hD := hD0.self (sz := s.heap.size)
  generalize hAe : va_A [(m0, .inr (3, [.ref kt, .ref kp, .ref kw, .int (nI tl), .int (nI L), .int (nI wn), .int (nI en), .int (nI td), .ref kf])), (kp, .inl (cI, 400, .inl (fun j => nI (a j))))] s.heap.size = A at hD ⊢
  have hA : ∀ q : Nat, s.heap.size ≤ q → A q := fun q h => by rw [← hAe]; exact Or.inr h
  have hS : va_S A s.heap s.heap [] := va_S.rf
  have hP : va_P (dC, dI) vwCl [(m0, .inr (3, [.ref kt, .ref kp, .ref kw, .int (nI tl), .int (nI L), .int (nI wn), .int (nI en), .int (nI td), .ref kf])), (kp, .inl (cI, 400, .inl (fun j => nI (a j))))] s.heap := hP
  have hl := lv_entry ([.ref m0, .int (nI ix)]) (n := 2) (Nat.le_of_ble_eq_true rfl)
  rw [lg_entry_eq]
  generalize (lg_sl ([.ref m0, .int (nI ix)]) ++ List.replicate (2 - (lg_sl ([.ref m0, .int (nI ix)])).length) Slot.unset).toArray = ls at hl ⊢
  have hl : lv_has ls 2 [(0, .ref m0), (1, .int (nI ix))] := hl
  skip
  have h8 := ha ix hat
  refine lv_aload_n hx hb dM_tells_0 rfl (lv_at hl 0 rfl) ?_
  refine va_get (D := (dC, dI)) (ci := 3) (v := .ref kp) (C := RX3) (T := TX3) (N := 9) hx hb hts (by decide +kernel) hown hK hP 0 rfl rfl 1 (by decide) (hts (.fieldLink RX3 13 "WildCardsModel" "pattern" "[I") (by decide +kernel)) (fun _ h9 => h9) rfl dM_tells_1 ?_
  refine lv_iload_n hx hb dM_tells_4 rfl (lv_at hl 1 rfl) ?_
  refine va_iald hx hb hK hP 1 0 rfl rfl (vp_in_nI (by omega) (by omega)) dM_tells_5 ?_
  refine wl_asi (y := nI (a ix)) (by rw [nI_clamp (by omega)]) ?_
  refine lv_bipush (v := nI 92) hx hb dM_tells_6 (by decide) ?_
  refine wl_icmp_ne (tgt := 37) hx hb dM_tells_8 (by decide) (by omega) (by omega) (fun c8 => ?_) (fun c8 => ?_)
  · skip
    refine lv_aload_n hx hb dM_tells_37 rfl (lv_at hl 0 rfl) ?_
    refine lv_aload_n hx hb dM_tells_38 rfl (lv_at hl 0 rfl) ?_
    refine va_get (D := (dC, dI)) (ci := 3) (v := .ref kp) (C := RX3) (T := TX3) (N := 9) hx hb hts (by decide +kernel) hown hK hP 0 rfl rfl 1 (by decide) (hts (.fieldLink RX3 13 "WildCardsModel" "pattern" "[I") (by decide +kernel)) (fun _ h9 => h9) rfl dM_tells_39 ?_
    refine lv_iload_n hx hb dM_tells_42 rfl (lv_at hl 1 rfl) ?_
    refine va_iald hx hb hK hP 1 0 rfl rfl (vp_in_nI (by omega) (by omega)) dM_tells_43 ?_
    refine wl_asi (y := nI (a ix)) (by rw [nI_clamp (by omega)]) ?_
    refine va_put (D := (dC, dI)) (ci := 3) (v := .int (nI (a ix))) (ty := .int) (C := RX3) (T := TX3) (N := 9) hx hb hts (by decide +kernel) tyX3 tyX3_ok nmX3 hown hK hP hD hS 0 rfl rfl 7 (by decide) (hts (.fieldLink RX3 37 "WildCardsModel" "told" "I") (by decide +kernel)) (fun _ h9 => h9) rfl (by decide +kernel) rfl rfl (Nat.le_of_ble_eq_true rfl) dM_tells_44 (fun H locs hP hD hS => ?_)
    have hP : va_P (dC, dI) vwCl [(m0, .inr (3, [.ref kt, .ref kp, .ref kw, .int (nI tl), .int (nI L), .int (nI wn), .int (nI en), .int (nI (a ix)), .ref kf])), (kp, .inl (cI, 400, .inl (fun j => nI (a j))))] H := hP
    have hD : va_D A [(m0, .inr (3, [.ref kt, .ref kp, .ref kw, .int (nI tl), .int (nI L), .int (nI wn), .int (nI en), .int (nI (a ix)), .ref kf])), (kp, .inl (cI, 400, .inl (fun j => nI (a j))))] := hD
    refine lv_iload_n hx hb dM_tells_47 rfl (lv_at hl 1 rfl) ?_
    refine lv_iconst (v := nI 1) hx hb dM_tells_48 (by decide) ?_
    refine lv_iadd hx hb dM_tells_49 ?_
    refine wl_asi (y := nI (ix + 1)) (nI_add _ _) ?_
    have hP9 := hP.sub (ws' := [(m0, .inr (3, [.ref kt, .ref kp, .ref kw, .int (nI tl), .int (nI L), .int (nI wn), .int (nI en), .int (nI (a ix)), .ref kf])), (kp, .inl (cI, 400, .inl (fun j => nI (a j))))]) [0, 1] rfl
    have hD9 := hD.sub (ws' := [(m0, .inr (3, [.ref kt, .ref kp, .ref kw, .int (nI tl), .int (nI L), .int (nI wn), .int (nI en), .int (nI (a ix)), .ref kf])), (kp, .inl (cI, 400, .inl (fun j => nI (a j))))]) [0, 1] (by decide) rfl
    exact W.iret (v := nI (ix + 1)) hx hb hr  (fun t ht hW => ⟨⟨nI (ix + 1), a ix, rfl, (show (a ix) = rbv a L ix ∧ (nI (ix + 1)) = nI (rbn a L ix) from tl_a c8), by rw [ht]; exact hP9, va_K.moved hW.alike hK, hD9⟩, hS.F ht⟩) hS.2.2 dM_tells_50
  · skip
    refine lv_iload_n hx hb dM_tells_11 rfl (lv_at hl 1 rfl) ?_
    refine lv_iconst (v := nI 1) hx hb dM_tells_12 (by decide) ?_
    refine lv_iadd hx hb dM_tells_13 ?_
    refine wl_asi (y := nI (ix + 1)) (nI_add _ _) ?_
    refine lv_aload_n hx hb dM_tells_14 rfl (lv_at hl 0 rfl) ?_
    refine va_get (D := (dC, dI)) (ci := 3) (v := .int (nI L)) (C := RX3) (T := TX3) (N := 9) hx hb hts (by decide +kernel) hown hK hP 0 rfl rfl 4 (by decide) (hts (.fieldLink RX3 31 "WildCardsModel" "size" "I") (by decide +kernel)) (fun _ h9 => h9) rfl dM_tells_15 ?_
    refine wl_icmp_ge (tgt := 37) hx hb dM_tells_18 (by decide) (by omega) (by omega) (fun c18 => ?_) (fun c18 => ?_)
    · skip
      refine lv_aload_n hx hb dM_tells_37 rfl (lv_at hl 0 rfl) ?_
      refine lv_aload_n hx hb dM_tells_38 rfl (lv_at hl 0 rfl) ?_
      refine va_get (D := (dC, dI)) (ci := 3) (v := .ref kp) (C := RX3) (T := TX3) (N := 9) hx hb hts (by decide +kernel) hown hK hP 0 rfl rfl 1 (by decide) (hts (.fieldLink RX3 13 "WildCardsModel" "pattern" "[I") (by decide +kernel)) (fun _ h9 => h9) rfl dM_tells_39 ?_
      refine lv_iload_n hx hb dM_tells_42 rfl (lv_at hl 1 rfl) ?_
      refine va_iald hx hb hK hP 1 0 rfl rfl (vp_in_nI (by omega) (by omega)) dM_tells_43 ?_
      refine wl_asi (y := nI (a ix)) (by rw [nI_clamp (by omega)]) ?_
      refine va_put (D := (dC, dI)) (ci := 3) (v := .int (nI (a ix))) (ty := .int) (C := RX3) (T := TX3) (N := 9) hx hb hts (by decide +kernel) tyX3 tyX3_ok nmX3 hown hK hP hD hS 0 rfl rfl 7 (by decide) (hts (.fieldLink RX3 37 "WildCardsModel" "told" "I") (by decide +kernel)) (fun _ h9 => h9) rfl (by decide +kernel) rfl rfl (Nat.le_of_ble_eq_true rfl) dM_tells_44 (fun H locs hP hD hS => ?_)
      have hP : va_P (dC, dI) vwCl [(m0, .inr (3, [.ref kt, .ref kp, .ref kw, .int (nI tl), .int (nI L), .int (nI wn), .int (nI en), .int (nI (a ix)), .ref kf])), (kp, .inl (cI, 400, .inl (fun j => nI (a j))))] H := hP
      have hD : va_D A [(m0, .inr (3, [.ref kt, .ref kp, .ref kw, .int (nI tl), .int (nI L), .int (nI wn), .int (nI en), .int (nI (a ix)), .ref kf])), (kp, .inl (cI, 400, .inl (fun j => nI (a j))))] := hD
      refine lv_iload_n hx hb dM_tells_47 rfl (lv_at hl 1 rfl) ?_
      refine lv_iconst (v := nI 1) hx hb dM_tells_48 (by decide) ?_
      refine lv_iadd hx hb dM_tells_49 ?_
      refine wl_asi (y := nI (ix + 1)) (nI_add _ _) ?_
      have hP9 := hP.sub (ws' := [(m0, .inr (3, [.ref kt, .ref kp, .ref kw, .int (nI tl), .int (nI L), .int (nI wn), .int (nI en), .int (nI (a ix)), .ref kf])), (kp, .inl (cI, 400, .inl (fun j => nI (a j))))]) [0, 1] rfl
      have hD9 := hD.sub (ws' := [(m0, .inr (3, [.ref kt, .ref kp, .ref kw, .int (nI tl), .int (nI L), .int (nI wn), .int (nI en), .int (nI (a ix)), .ref kf])), (kp, .inl (cI, 400, .inl (fun j => nI (a j))))]) [0, 1] (by decide) rfl
      exact W.iret (v := nI (ix + 1)) hx hb hr  (fun t ht hW => ⟨⟨nI (ix + 1), a ix, rfl, (show (a ix) = rbv a L ix ∧ (nI (ix + 1)) = nI (rbn a L ix) from tl_b c18), by rw [ht]; exact hP9, va_K.moved hW.alike hK, hD9⟩, hS.F ht⟩) hS.2.2 dM_tells_50
    · skip
      refine lv_aload_n hx hb dM_tells_21 rfl (lv_at hl 0 rfl) ?_
      refine lv_aload_n hx hb dM_tells_22 rfl (lv_at hl 0 rfl) ?_
      refine va_get (D := (dC, dI)) (ci := 3) (v := .ref kp) (C := RX3) (T := TX3) (N := 9) hx hb hts (by decide +kernel) hown hK hP 0 rfl rfl 1 (by decide) (hts (.fieldLink RX3 13 "WildCardsModel" "pattern" "[I") (by decide +kernel)) (fun _ h9 => h9) rfl dM_tells_23 ?_
      refine lv_iload_n hx hb dM_tells_26 rfl (lv_at hl 1 rfl) ?_
      refine lv_iconst (v := nI 1) hx hb dM_tells_27 (by decide) ?_
      refine lv_iadd hx hb dM_tells_28 ?_
      refine wl_asi (y := nI (ix + 1)) (nI_add _ _) ?_
      refine va_iald hx hb hK hP 1 0 rfl rfl (vp_in_nI (by omega) (by omega)) dM_tells_29 ?_
      refine wl_asi (y := nI (a (ix + 1))) (by rw [nI_clamp (by omega)]) ?_
      refine va_put (D := (dC, dI)) (ci := 3) (v := .int (nI (a (ix + 1)))) (ty := .int) (C := RX3) (T := TX3) (N := 9) hx hb hts (by decide +kernel) tyX3 tyX3_ok nmX3 hown hK hP hD hS 0 rfl rfl 7 (by decide) (hts (.fieldLink RX3 37 "WildCardsModel" "told" "I") (by decide +kernel)) (fun _ h9 => h9) rfl (by decide +kernel) rfl rfl (Nat.le_of_ble_eq_true rfl) dM_tells_30 (fun H locs hP hD hS => ?_)
      have hP : va_P (dC, dI) vwCl [(m0, .inr (3, [.ref kt, .ref kp, .ref kw, .int (nI tl), .int (nI L), .int (nI wn), .int (nI en), .int (nI (a (ix + 1))), .ref kf])), (kp, .inl (cI, 400, .inl (fun j => nI (a j))))] H := hP
      have hD : va_D A [(m0, .inr (3, [.ref kt, .ref kp, .ref kw, .int (nI tl), .int (nI L), .int (nI wn), .int (nI en), .int (nI (a (ix + 1))), .ref kf])), (kp, .inl (cI, 400, .inl (fun j => nI (a j))))] := hD
      refine lv_iload_n hx hb dM_tells_33 rfl (lv_at hl 1 rfl) ?_
      refine lv_iconst (v := nI 2) hx hb dM_tells_34 (by decide) ?_
      refine lv_iadd hx hb dM_tells_35 ?_
      refine wl_asi (y := nI (ix + 2)) (nI_add _ _) ?_
      have hP9 := hP.sub (ws' := [(m0, .inr (3, [.ref kt, .ref kp, .ref kw, .int (nI tl), .int (nI L), .int (nI wn), .int (nI en), .int (nI (a (ix + 1))), .ref kf])), (kp, .inl (cI, 400, .inl (fun j => nI (a j))))]) [0, 1] rfl
      have hD9 := hD.sub (ws' := [(m0, .inr (3, [.ref kt, .ref kp, .ref kw, .int (nI tl), .int (nI L), .int (nI wn), .int (nI en), .int (nI (a (ix + 1))), .ref kf])), (kp, .inl (cI, 400, .inl (fun j => nI (a j))))]) [0, 1] (by decide) rfl
      exact W.iret (v := nI (ix + 2)) hx hb hr  (fun t ht hW => ⟨⟨nI (ix + 2), a (ix + 1), rfl, (show (a (ix + 1)) = rbv a L ix ∧ (nI (ix + 2)) = nI (rbn a L ix) from tl_c c8 c18), by rw [ht]; exact hP9, va_K.moved hW.alike hK, hD9⟩, hS.F ht⟩) hS.2.2 dM_tells_36
