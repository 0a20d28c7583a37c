set_option maxHeartbeats 4000000 in
set_option maxRecDepth 100000 in
theorem c_X2_append (l : Launch) (dC : Nat → ClassId) (dI : Nat → Nat → Nat) (cI cJ cZ : ClassId) (h0 qP qW hT : Nat) (sz : Nat) (tl : Nat) (wn : Nat) (tp : Nat → Nat) (v : Int32) (htl : tl + 4 ≤ 400) : Met l yX2_append wsX2_append ({ frames := 0, cells := 0, slots := 0, locals := 0 }) (va_Pc [.ref h0, .int v] (fun U => U.heap.size = sz ∧ va_P (dC, dI) vwCl [(h0, .inr (2, [.ref qP, .int (nI tl), .ref qW, .int (nI wn), .ref hT])), (qP, .inl (cI, 400, .inl (fun j => nI (tp j))))] U.heap ∧ va_K (dC, dI) vwCl [(cI, .int), (cJ, .long), (cZ, .boolean)] U ∧ va_D (fun _ => True) [(h0, .inr (2, [.ref qP, .int (nI tl), .ref qW, .int (nI wn), .ref hT])), (qP, .inl (cI, 400, .inl (fun j => nI (tp j))))])) (va_Qv (fun (u : Unit) => True) (fun (u : Unit) (t : State) => va_P (dC, dI) vwCl [(h0, .inr (2, [.ref qP, .int (nI (tl + 4)), .ref qW, .int (nI wn), .ref hT])), (qP, .inl (cI, 400, .inl (fun j => nI ((ap4 tp tl v) j))))] t.heap ∧ va_K (dC, dI) vwCl [(cI, .int), (cJ, .long), (cZ, .boolean)] t ∧ va_D (va_A [(h0, .inr (2, [.ref qP, .int (nI tl), .ref qW, .int (nI wn), .ref hT])), (qP, .inl (cI, 400, .inl (fun j => nI (tp j))))] sz) [(h0, .inr (2, [.ref qP, .int (nI (tl + 4)), .ref qW, .int (nI wn), .ref hT])), (qP, .inl (cI, 400, .inl (fun j => nI ((ap4 tp tl v) j))))]) (va_A [(h0, .inr (2, [.ref qP, .int (nI tl), .ref qW, .int (nI wn), .ref hT])), (qP, .inl (cI, 400, .inl (fun j => nI (tp j))))] sz)) 0 0 (va_A [(h0, .inr (2, [.ref qP, .int (nI tl), .ref qW, .int (nI wn), .ref hT])), (qP, .inl (cI, 400, .inl (fun j => nI (tp j))))] sz) := by
  refine Met.ofW (cc := cX2_append) (maxL := 3) (ret := none) (by decide) rfl ?_
  intro p e s m args below meth c s₁ B hml hv
  obtain ⟨rfl, hsz, hP, hK, hD0⟩ := hv
  have hx := B.exec
  have hb := B.bytes
  have hr := B.returns
  have hts := atoms_spec (ws := wsX2_append) B.pre
  have hown : s.vm.findClass RX2 = some m.cls := findClass_of_methodNamed B.named
  have hlocks := B.notSynchronized
  subst hsz
  have hD := hD0.self (sz := s.heap.size)
  generalize hAe : va_A [(h0, .inr (2, [.ref qP, .int (nI tl), .ref qW, .int (nI wn), .ref hT])), (qP, .inl (cI, 400, .inl (fun j => nI (tp j))))] s.heap.size = A at hD ⊢
  have hA : ∀ q : Nat, s.heap.size ≤ q → A q := fun q h => by rw [← hAe]; exact Or.inr h
  have hS : va_S A s.heap s.heap [] := va_S.rf
  have hP : va_P (dC, dI) vwCl [(h0, .inr (2, [.ref qP, .int (nI tl), .ref qW, .int (nI wn), .ref hT])), (qP, .inl (cI, 400, .inl (fun j => nI (tp j))))] s.heap := hP
  have hl := lv_entry ([.ref h0, .int v]) (n := 3) (Nat.le_of_ble_eq_true rfl)
  rw [lg_entry_eq]
  generalize (lg_sl ([.ref h0, .int v]) ++ List.replicate (3 - (lg_sl ([.ref h0, .int v])).length) Slot.unset).toArray = ls at hl ⊢
  have hl : lv_has ls 3 [(0, .ref h0), (1, .int v)] := hl
  skip
  refine lv_bipush (v := nI 24) hx hb dX2_append_0 (by decide) ?_
  refine lv_istore_n (lv' := [(2, .int (nI 24)), (0, .ref h0), (1, .int v)]) hx hb dX2_append_2 rfl hl (by decide) rfl (fun ls hl => ?_)
  refine lv_iload_n hx hb dX2_append_3 rfl (lv_at hl 0 rfl) ?_
  refine lv_if_lt (tgt := 39) hx hb dX2_append_4 (by decide) (fun c4 => ?_) (fun c4 => ?_)
  · exact absurd c4 (nI_pos (by omega))
  · skip
    refine lv_aload_n hx hb dX2_append_7 rfl (lv_at hl 1 rfl) ?_
    refine va_get (D := (dC, dI)) (ci := 2) (v := .ref qP) (C := RX2) (T := TX2) (N := 5) hx hb hts (by decide +kernel) hown hK hP 0 rfl rfl 0 (by decide) (hts (.fieldLink RX2 9 "WildCards" "tape" "[I") (by decide +kernel)) (fun _ h9 => h9) rfl dX2_append_8 ?_
    refine lv_aload_n hx hb dX2_append_11 rfl (lv_at hl 1 rfl) ?_
    refine va_get (D := (dC, dI)) (ci := 2) (v := .int (nI tl)) (C := RX2) (T := TX2) (N := 5) hx hb hts (by decide +kernel) hown hK hP 0 rfl rfl 1 (by decide) (hts (.fieldLink RX2 23 "WildCards" "tapeLength" "I") (by decide +kernel)) (fun _ h9 => h9) rfl dX2_append_12 ?_
    refine lv_iload_n hx hb dX2_append_15 rfl (lv_at hl 2 rfl) ?_
    refine lv_iload_n hx hb dX2_append_16 rfl (lv_at hl 0 rfl) ?_
    refine lv_iushr (v := (v.toUInt32 >>> ((nI 24).toUInt32 &&& Int32.toUInt32 31)).toInt32) hx hb dX2_append_17 rfl ?_
    refine lv_sipush (v := nI 255) hx hb dX2_append_18 (by decide) ?_
    refine lv_iand hx hb dX2_append_21 ?_
    refine wl_asi (y := nI (by4 v 24)) (by4_ok v 24 (by decide)) ?_
    refine va_iast hx hb hK hP hD hS 1 0 rfl rfl (vp_in_nI (by omega) (by omega)) dX2_append_22 (fun H locs hP hD hS => ?_)
    rw [nI_clamp (by omega)] at hP hD
    rw [wl_updN] at hP hD
    have hP : va_P (dC, dI) vwCl [(h0, .inr (2, [.ref qP, .int (nI tl), .ref qW, .int (nI wn), .ref hT])), (qP, .inl (cI, 400, .inl (fun j => nI ((va_up tp tl (by4 v 24)) j))))] H := hP
    have hD : va_D A [(h0, .inr (2, [.ref qP, .int (nI tl), .ref qW, .int (nI wn), .ref hT])), (qP, .inl (cI, 400, .inl (fun j => nI ((va_up tp tl (by4 v 24)) j))))] := hD
    refine lv_aload_n hx hb dX2_append_23 rfl (lv_at hl 1 rfl) ?_
    refine lv_dup hx hb dX2_append_24 rfl ?_
    refine va_get (D := (dC, dI)) (ci := 2) (v := .int (nI tl)) (C := RX2) (T := TX2) (N := 5) hx hb hts (by decide +kernel) hown hK hP 0 rfl rfl 1 (by decide) (hts (.fieldLink RX2 23 "WildCards" "tapeLength" "I") (by decide +kernel)) (fun _ h9 => h9) rfl dX2_append_25 ?_
    refine lv_iconst (v := nI 1) hx hb dX2_append_28 (by decide) ?_
    refine lv_iadd hx hb dX2_append_29 ?_
    refine wl_asi (y := nI (tl + 1)) (nI_add _ _) ?_
    refine va_put (D := (dC, dI)) (ci := 2) (v := .int (nI (tl + 1))) (ty := .int) (C := RX2) (T := TX2) (N := 5) hx hb hts (by decide +kernel) tyX2 tyX2_ok nmX2 hown hK hP hD hS 0 rfl rfl 1 (by decide) (hts (.fieldLink RX2 23 "WildCards" "tapeLength" "I") (by decide +kernel)) (fun _ h9 => h9) rfl (by decide +kernel) rfl rfl (Nat.le_of_ble_eq_true rfl) dX2_append_30 (fun H locs hP hD hS => ?_)
    have hP : va_P (dC, dI) vwCl [(h0, .inr (2, [.ref qP, .int (nI (tl + 1)), .ref qW, .int (nI wn), .ref hT])), (qP, .inl (cI, 400, .inl (fun j => nI ((va_up tp tl (by4 v 24)) j))))] H := hP
    have hD : va_D A [(h0, .inr (2, [.ref qP, .int (nI (tl + 1)), .ref qW, .int (nI wn), .ref hT])), (qP, .inl (cI, 400, .inl (fun j => nI ((va_up tp tl (by4 v 24)) j))))] := hD
    refine lv_iinc (v := nI 16) (lv' := [(2, .int (nI 16)), (0, .ref h0), (1, .int v)]) hx hb dX2_append_33 hl (k := 0) rfl (by decide) (by decide) rfl (fun ls hl => ?_)
    refine lv_goto (tgt := 3) hx hb dX2_append_36 (by decide) ?_
    refine lv_iload_n hx hb dX2_append_3 rfl (lv_at hl 0 rfl) ?_
    refine lv_if_lt (tgt := 39) hx hb dX2_append_4 (by decide) (fun c4 => ?_) (fun c4 => ?_)
    · exact absurd c4 (nI_pos (by omega))
    · skip
      refine lv_aload_n hx hb dX2_append_7 rfl (lv_at hl 1 rfl) ?_
      refine va_get (D := (dC, dI)) (ci := 2) (v := .ref qP) (C := RX2) (T := TX2) (N := 5) hx hb hts (by decide +kernel) hown hK hP 0 rfl rfl 0 (by decide) (hts (.fieldLink RX2 9 "WildCards" "tape" "[I") (by decide +kernel)) (fun _ h9 => h9) rfl dX2_append_8 ?_
      refine lv_aload_n hx hb dX2_append_11 rfl (lv_at hl 1 rfl) ?_
      refine va_get (D := (dC, dI)) (ci := 2) (v := .int (nI (tl + 1))) (C := RX2) (T := TX2) (N := 5) hx hb hts (by decide +kernel) hown hK hP 0 rfl rfl 1 (by decide) (hts (.fieldLink RX2 23 "WildCards" "tapeLength" "I") (by decide +kernel)) (fun _ h9 => h9) rfl dX2_append_12 ?_
      refine lv_iload_n hx hb dX2_append_15 rfl (lv_at hl 2 rfl) ?_
      refine lv_iload_n hx hb dX2_append_16 rfl (lv_at hl 0 rfl) ?_
      refine lv_iushr (v := (v.toUInt32 >>> ((nI 16).toUInt32 &&& Int32.toUInt32 31)).toInt32) hx hb dX2_append_17 rfl ?_
      refine lv_sipush (v := nI 255) hx hb dX2_append_18 (by decide) ?_
      refine lv_iand hx hb dX2_append_21 ?_
      refine wl_asi (y := nI (by4 v 16)) (by4_ok v 16 (by decide)) ?_
      refine va_iast hx hb hK hP hD hS 1 0 rfl rfl (vp_in_nI (by omega) (by omega)) dX2_append_22 (fun H locs hP hD hS => ?_)
      rw [nI_clamp (by omega)] at hP hD
      rw [wl_updN] at hP hD
      have hP : va_P (dC, dI) vwCl [(h0, .inr (2, [.ref qP, .int (nI (tl + 1)), .ref qW, .int (nI wn), .ref hT])), (qP, .inl (cI, 400, .inl (fun j => nI ((va_up (va_up tp tl (by4 v 24)) (tl + 1) (by4 v 16)) j))))] H := hP
      have hD : va_D A [(h0, .inr (2, [.ref qP, .int (nI (tl + 1)), .ref qW, .int (nI wn), .ref hT])), (qP, .inl (cI, 400, .inl (fun j => nI ((va_up (va_up tp tl (by4 v 24)) (tl + 1) (by4 v 16)) j))))] := hD
      refine lv_aload_n hx hb dX2_append_23 rfl (lv_at hl 1 rfl) ?_
      refine lv_dup hx hb dX2_append_24 rfl ?_
      refine va_get (D := (dC, dI)) (ci := 2) (v := .int (nI (tl + 1))) (C := RX2) (T := TX2) (N := 5) hx hb hts (by decide +kernel) hown hK hP 0 rfl rfl 1 (by decide) (hts (.fieldLink RX2 23 "WildCards" "tapeLength" "I") (by decide +kernel)) (fun _ h9 => h9) rfl dX2_append_25 ?_
      refine lv_iconst (v := nI 1) hx hb dX2_append_28 (by decide) ?_
      refine lv_iadd hx hb dX2_append_29 ?_
      refine wl_asi (y := nI ((tl + 1) + 1)) (nI_add _ _) ?_
      refine va_put (D := (dC, dI)) (ci := 2) (v := .int (nI ((tl + 1) + 1))) (ty := .int) (C := RX2) (T := TX2) (N := 5) hx hb hts (by decide +kernel) tyX2 tyX2_ok nmX2 hown hK hP hD hS 0 rfl rfl 1 (by decide) (hts (.fieldLink RX2 23 "WildCards" "tapeLength" "I") (by decide +kernel)) (fun _ h9 => h9) rfl (by decide +kernel) rfl rfl (Nat.le_of_ble_eq_true rfl) dX2_append_30 (fun H locs hP hD hS => ?_)
      have hP : va_P (dC, dI) vwCl [(h0, .inr (2, [.ref qP, .int (nI ((tl + 1) + 1)), .ref qW, .int (nI wn), .ref hT])), (qP, .inl (cI, 400, .inl (fun j => nI ((va_up (va_up tp tl (by4 v 24)) (tl + 1) (by4 v 16)) j))))] H := hP
      have hD : va_D A [(h0, .inr (2, [.ref qP, .int (nI ((tl + 1) + 1)), .ref qW, .int (nI wn), .ref hT])), (qP, .inl (cI, 400, .inl (fun j => nI ((va_up (va_up tp tl (by4 v 24)) (tl + 1) (by4 v 16)) j))))] := hD
      refine lv_iinc (v := nI 8) (lv' := [(2, .int (nI 8)), (0, .ref h0), (1, .int v)]) hx hb dX2_append_33 hl (k := 0) rfl (by decide) (by decide) rfl (fun ls hl => ?_)
      refine lv_goto (tgt := 3) hx hb dX2_append_36 (by decide) ?_
      refine lv_iload_n hx hb dX2_append_3 rfl (lv_at hl 0 rfl) ?_
      refine lv_if_lt (tgt := 39) hx hb dX2_append_4 (by decide) (fun c4 => ?_) (fun c4 => ?_)
      · exact absurd c4 (nI_pos (by omega))
      · skip
        refine lv_aload_n hx hb dX2_append_7 rfl (lv_at hl 1 rfl) ?_
        refine va_get (D := (dC, dI)) (ci := 2) (v := .ref qP) (C := RX2) (T := TX2) (N := 5) hx hb hts (by decide +kernel) hown hK hP 0 rfl rfl 0 (by decide) (hts (.fieldLink RX2 9 "WildCards" "tape" "[I") (by decide +kernel)) (fun _ h9 => h9) rfl dX2_append_8 ?_
        refine lv_aload_n hx hb dX2_append_11 rfl (lv_at hl 1 rfl) ?_
        refine va_get (D := (dC, dI)) (ci := 2) (v := .int (nI ((tl + 1) + 1))) (C := RX2) (T := TX2) (N := 5) hx hb hts (by decide +kernel) hown hK hP 0 rfl rfl 1 (by decide) (hts (.fieldLink RX2 23 "WildCards" "tapeLength" "I") (by decide +kernel)) (fun _ h9 => h9) rfl dX2_append_12 ?_
        refine lv_iload_n hx hb dX2_append_15 rfl (lv_at hl 2 rfl) ?_
        refine lv_iload_n hx hb dX2_append_16 rfl (lv_at hl 0 rfl) ?_
        refine lv_iushr (v := (v.toUInt32 >>> ((nI 8).toUInt32 &&& Int32.toUInt32 31)).toInt32) hx hb dX2_append_17 rfl ?_
        refine lv_sipush (v := nI 255) hx hb dX2_append_18 (by decide) ?_
        refine lv_iand hx hb dX2_append_21 ?_
        refine wl_asi (y := nI (by4 v 8)) (by4_ok v 8 (by decide)) ?_
        refine va_iast hx hb hK hP hD hS 1 0 rfl rfl (vp_in_nI (by omega) (by omega)) dX2_append_22 (fun H locs hP hD hS => ?_)
        rw [nI_clamp (by omega)] at hP hD
        rw [wl_updN] at hP hD
        have hP : va_P (dC, dI) vwCl [(h0, .inr (2, [.ref qP, .int (nI ((tl + 1) + 1)), .ref qW, .int (nI wn), .ref hT])), (qP, .inl (cI, 400, .inl (fun j => nI ((va_up (va_up (va_up tp tl (by4 v 24)) (tl + 1) (by4 v 16)) ((tl + 1) + 1) (by4 v 8)) j))))] H := hP
        have hD : va_D A [(h0, .inr (2, [.ref qP, .int (nI ((tl + 1) + 1)), .ref qW, .int (nI wn), .ref hT])), (qP, .inl (cI, 400, .inl (fun j => nI ((va_up (va_up (va_up tp tl (by4 v 24)) (tl + 1) (by4 v 16)) ((tl + 1) + 1) (by4 v 8)) j))))] := hD
        refine lv_aload_n hx hb dX2_append_23 rfl (lv_at hl 1 rfl) ?_
        refine lv_dup hx hb dX2_append_24 rfl ?_
        refine va_get (D := (dC, dI)) (ci := 2) (v := .int (nI ((tl + 1) + 1))) (C := RX2) (T := TX2) (N := 5) hx hb hts (by decide +kernel) hown hK hP 0 rfl rfl 1 (by decide) (hts (.fieldLink RX2 23 "WildCards" "tapeLength" "I") (by decide +kernel)) (fun _ h9 => h9) rfl dX2_append_25 ?_
        refine lv_iconst (v := nI 1) hx hb dX2_append_28 (by decide) ?_
        refine lv_iadd hx hb dX2_append_29 ?_
        refine wl_asi (y := nI (((tl + 1) + 1) + 1)) (nI_add _ _) ?_
        refine va_put (D := (dC, dI)) (ci := 2) (v := .int (nI (((tl + 1) + 1) + 1))) (ty := .int) (C := RX2) (T := TX2) (N := 5) hx hb hts (by decide +kernel) tyX2 tyX2_ok nmX2 hown hK hP hD hS 0 rfl rfl 1 (by decide) (hts (.fieldLink RX2 23 "WildCards" "tapeLength" "I") (by decide +kernel)) (fun _ h9 => h9) rfl (by decide +kernel) rfl rfl (Nat.le_of_ble_eq_true rfl) dX2_append_30 (fun H locs hP hD hS => ?_)
        have hP : va_P (dC, dI) vwCl [(h0, .inr (2, [.ref qP, .int (nI (((tl + 1) + 1) + 1)), .ref qW, .int (nI wn), .ref hT])), (qP, .inl (cI, 400, .inl (fun j => nI ((va_up (va_up (va_up tp tl (by4 v 24)) (tl + 1) (by4 v 16)) ((tl + 1) + 1) (by4 v 8)) j))))] H := hP
        have hD : va_D A [(h0, .inr (2, [.ref qP, .int (nI (((tl + 1) + 1) + 1)), .ref qW, .int (nI wn), .ref hT])), (qP, .inl (cI, 400, .inl (fun j => nI ((va_up (va_up (va_up tp tl (by4 v 24)) (tl + 1) (by4 v 16)) ((tl + 1) + 1) (by4 v 8)) j))))] := hD
        refine lv_iinc (v := nI 0) (lv' := [(2, .int (nI 0)), (0, .ref h0), (1, .int v)]) hx hb dX2_append_33 hl (k := 0) rfl (by decide) (by decide) rfl (fun ls hl => ?_)
        refine lv_goto (tgt := 3) hx hb dX2_append_36 (by decide) ?_
        refine lv_iload_n hx hb dX2_append_3 rfl (lv_at hl 0 rfl) ?_
        refine lv_if_lt (tgt := 39) hx hb dX2_append_4 (by decide) (fun c4 => ?_) (fun c4 => ?_)
        · exact absurd c4 (nI_pos (by omega))
        · skip
          refine lv_aload_n hx hb dX2_append_7 rfl (lv_at hl 1 rfl) ?_
          refine va_get (D := (dC, dI)) (ci := 2) (v := .ref qP) (C := RX2) (T := TX2) (N := 5) hx hb hts (by decide +kernel) hown hK hP 0 rfl rfl 0 (by decide) (hts (.fieldLink RX2 9 "WildCards" "tape" "[I") (by decide +kernel)) (fun _ h9 => h9) rfl dX2_append_8 ?_
          refine lv_aload_n hx hb dX2_append_11 rfl (lv_at hl 1 rfl) ?_
          refine va_get (D := (dC, dI)) (ci := 2) (v := .int (nI (((tl + 1) + 1) + 1))) (C := RX2) (T := TX2) (N := 5) hx hb hts (by decide +kernel) hown hK hP 0 rfl rfl 1 (by decide) (hts (.fieldLink RX2 23 "WildCards" "tapeLength" "I") (by decide +kernel)) (fun _ h9 => h9) rfl dX2_append_12 ?_
          refine lv_iload_n hx hb dX2_append_15 rfl (lv_at hl 2 rfl) ?_
          refine lv_iload_n hx hb dX2_append_16 rfl (lv_at hl 0 rfl) ?_
          refine lv_iushr (v := (v.toUInt32 >>> ((nI 0).toUInt32 &&& Int32.toUInt32 31)).toInt32) hx hb dX2_append_17 rfl ?_
          refine lv_sipush (v := nI 255) hx hb dX2_append_18 (by decide) ?_
          refine lv_iand hx hb dX2_append_21 ?_
          refine wl_asi (y := nI (by4 v 0)) (by4_ok v 0 (by decide)) ?_
          refine va_iast hx hb hK hP hD hS 1 0 rfl rfl (vp_in_nI (by omega) (by omega)) dX2_append_22 (fun H locs hP hD hS => ?_)
          rw [nI_clamp (by omega)] at hP hD
          rw [wl_updN] at hP hD
          have hP : va_P (dC, dI) vwCl [(h0, .inr (2, [.ref qP, .int (nI (((tl + 1) + 1) + 1)), .ref qW, .int (nI wn), .ref hT])), (qP, .inl (cI, 400, .inl (fun j => nI ((va_up (va_up (va_up (va_up tp tl (by4 v 24)) (tl + 1) (by4 v 16)) ((tl + 1) + 1) (by4 v 8)) (((tl + 1) + 1) + 1) (by4 v 0)) j))))] H := hP
          have hD : va_D A [(h0, .inr (2, [.ref qP, .int (nI (((tl + 1) + 1) + 1)), .ref qW, .int (nI wn), .ref hT])), (qP, .inl (cI, 400, .inl (fun j => nI ((va_up (va_up (va_up (va_up tp tl (by4 v 24)) (tl + 1) (by4 v 16)) ((tl + 1) + 1) (by4 v 8)) (((tl + 1) + 1) + 1) (by4 v 0)) j))))] := hD
          refine lv_aload_n hx hb dX2_append_23 rfl (lv_at hl 1 rfl) ?_
          refine lv_dup hx hb dX2_append_24 rfl ?_
          refine va_get (D := (dC, dI)) (ci := 2) (v := .int (nI (((tl + 1) + 1) + 1))) (C := RX2) (T := TX2) (N := 5) hx hb hts (by decide +kernel) hown hK hP 0 rfl rfl 1 (by decide) (hts (.fieldLink RX2 23 "WildCards" "tapeLength" "I") (by decide +kernel)) (fun _ h9 => h9) rfl dX2_append_25 ?_
          refine lv_iconst (v := nI 1) hx hb dX2_append_28 (by decide) ?_
          refine lv_iadd hx hb dX2_append_29 ?_
          refine wl_asi (y := nI ((((tl + 1) + 1) + 1) + 1)) (nI_add _ _) ?_
          refine va_put (D := (dC, dI)) (ci := 2) (v := .int (nI ((((tl + 1) + 1) + 1) + 1))) (ty := .int) (C := RX2) (T := TX2) (N := 5) hx hb hts (by decide +kernel) tyX2 tyX2_ok nmX2 hown hK hP hD hS 0 rfl rfl 1 (by decide) (hts (.fieldLink RX2 23 "WildCards" "tapeLength" "I") (by decide +kernel)) (fun _ h9 => h9) rfl (by decide +kernel) rfl rfl (Nat.le_of_ble_eq_true rfl) dX2_append_30 (fun H locs hP hD hS => ?_)
          have hP : va_P (dC, dI) vwCl [(h0, .inr (2, [.ref qP, .int (nI ((((tl + 1) + 1) + 1) + 1)), .ref qW, .int (nI wn), .ref hT])), (qP, .inl (cI, 400, .inl (fun j => nI ((va_up (va_up (va_up (va_up tp tl (by4 v 24)) (tl + 1) (by4 v 16)) ((tl + 1) + 1) (by4 v 8)) (((tl + 1) + 1) + 1) (by4 v 0)) j))))] H := hP
          have hD : va_D A [(h0, .inr (2, [.ref qP, .int (nI ((((tl + 1) + 1) + 1) + 1)), .ref qW, .int (nI wn), .ref hT])), (qP, .inl (cI, 400, .inl (fun j => nI ((va_up (va_up (va_up (va_up tp tl (by4 v 24)) (tl + 1) (by4 v 16)) ((tl + 1) + 1) (by4 v 8)) (((tl + 1) + 1) + 1) (by4 v 0)) j))))] := hD
          refine lv_iinc (v := (-8)) (lv' := [(2, .int (-8)), (0, .ref h0), (1, .int v)]) hx hb dX2_append_33 hl (k := 0) rfl (by decide) (by decide) rfl (fun ls hl => ?_)
          refine lv_goto (tgt := 3) hx hb dX2_append_36 (by decide) ?_
          refine lv_iload_n hx hb dX2_append_3 rfl (lv_at hl 0 rfl) ?_
          refine lv_if_lt (tgt := 39) hx hb dX2_append_4 (by decide) (fun c4 => ?_) (fun c4 => ?_)
          · skip
            have hP9 := hP.sub (ws' := [(h0, .inr (2, [.ref qP, .int (nI (tl + 4)), .ref qW, .int (nI wn), .ref hT])), (qP, .inl (cI, 400, .inl (fun j => nI ((ap4 tp tl v) j))))]) [0, 1] rfl
            have hD9 := hD.sub (ws' := [(h0, .inr (2, [.ref qP, .int (nI (tl + 4)), .ref qW, .int (nI wn), .ref hT])), (qP, .inl (cI, 400, .inl (fun j => nI ((ap4 tp tl v) j))))]) [0, 1] (by decide) rfl
            exact W.vret hx hb hr (fun t ht hW => ⟨⟨(), rfl, trivial, by rw [ht]; exact hP9, va_K.moved hW.alike hK, hD9⟩, hS.F ht⟩) hS.2.2 dX2_append_39
          · skip
            exact absurd (by decide) c4
