set_option maxHeartbeats 4000000 in
set_option maxRecDepth 100000 in
theorem c_X3_put (l : Launch) (dC : Nat → ClassId) (dI : Nat → Nat → Nat) (cI cJ cZ : ClassId) (m0 kt kp kw kf : Nat) (sz : Nat) (tl : Nat) (L : Nat) (wn : Nat) (en : Nat) (td : Nat) (tp : Nat → Nat) (v : Int32) (htl : tl + 4 ≤ 400) : Met l yX3_put wsX3_put ({ frames := 0, cells := 0, slots := 0, locals := 0 }) (va_Pc [.ref m0, .int v] (fun U => U.heap.size = sz ∧ va_P (dC, dI) vwCl [(m0, .inr (3, [.ref kt, .ref kp, .ref kw, .int (nI tl), .int (nI L), .int (nI wn), .int (nI en), .int (nI td), .ref kf])), (kt, .inl (cI, 400, .inl (fun j => nI (tp j))))] U.heap ∧ va_K (dC, dI) vwCl [(cI, .int), (cJ, .long), (cZ, .boolean)] U ∧ va_D (fun _ => True) [(m0, .inr (3, [.ref kt, .ref kp, .ref kw, .int (nI tl), .int (nI L), .int (nI wn), .int (nI en), .int (nI td), .ref kf])), (kt, .inl (cI, 400, .inl (fun j => nI (tp j))))])) (va_Qv (fun (u : Unit) => True) (fun (u : Unit) (t : State) => va_P (dC, dI) vwCl [(m0, .inr (3, [.ref kt, .ref kp, .ref kw, .int (nI (tl + 4)), .int (nI L), .int (nI wn), .int (nI en), .int (nI td), .ref kf])), (kt, .inl (cI, 400, .inl (fun j => nI ((ap4 tp tl v) j))))] t.heap ∧ va_K (dC, dI) vwCl [(cI, .int), (cJ, .long), (cZ, .boolean)] t ∧ va_D (va_A [(m0, .inr (3, [.ref kt, .ref kp, .ref kw, .int (nI tl), .int (nI L), .int (nI wn), .int (nI en), .int (nI td), .ref kf])), (kt, .inl (cI, 400, .inl (fun j => nI (tp j))))] sz) [(m0, .inr (3, [.ref kt, .ref kp, .ref kw, .int (nI (tl + 4)), .int (nI L), .int (nI wn), .int (nI en), .int (nI td), .ref kf])), (kt, .inl (cI, 400, .inl (fun j => nI ((ap4 tp tl v) j))))]) (va_A [(m0, .inr (3, [.ref kt, .ref kp, .ref kw, .int (nI tl), .int (nI L), .int (nI wn), .int (nI en), .int (nI td), .ref kf])), (kt, .inl (cI, 400, .inl (fun j => nI (tp j))))] sz)) 0 0 (va_A [(m0, .inr (3, [.ref kt, .ref kp, .ref kw, .int (nI tl), .int (nI L), .int (nI wn), .int (nI en), .int (nI td), .ref kf])), (kt, .inl (cI, 400, .inl (fun j => nI (tp j))))] sz) := by
  refine Met.ofW (cc := cX3_put) (maxL := 3) (ret := none) (by decide) rfl ?_
  intro p e s m args below meth c s₁ B hml hv
  obtain ⟨rfl, hsz, hP, hK, hD0⟩ := hv
  have hx := B.exec
  have hb := B.bytes
  have hr := B.returns
  have hts := atoms_spec (ws := wsX3_put) B.pre
  have hown : s.vm.findClass RX3 = some m.cls := findClass_of_methodNamed B.named
  have hlocks := B.notSynchronized
  subst hsz
  have hD := hD0.self (sz := s.heap.size)
  generalize hAe : va_A [(m0, .inr (3, [.ref kt, .ref kp, .ref kw, .int (nI tl), .int (nI L), .int (nI wn), .int (nI en), .int (nI td), .ref kf])), (kt, .inl (cI, 400, .inl (fun j => nI (tp j))))] s.heap.size = A at hD ⊢
  have hA : ∀ q : Nat, s.heap.size ≤ q → A q := fun q h => by rw [← hAe]; exact Or.inr h
  have hS : va_S A s.heap s.heap [] := va_S.rf
  have hP : va_P (dC, dI) vwCl [(m0, .inr (3, [.ref kt, .ref kp, .ref kw, .int (nI tl), .int (nI L), .int (nI wn), .int (nI en), .int (nI td), .ref kf])), (kt, .inl (cI, 400, .inl (fun j => nI (tp j))))] s.heap := hP
  have hl := lv_entry ([.ref m0, .int v]) (n := 3) (Nat.le_of_ble_eq_true rfl)
  rw [lg_entry_eq]
  generalize (lg_sl ([.ref m0, .int v]) ++ List.replicate (3 - (lg_sl ([.ref m0, .int v])).length) Slot.unset).toArray = ls at hl ⊢
  have hl : lv_has ls 3 [(0, .ref m0), (1, .int v)] := hl
  skip
  refine lv_bipush (v := nI 24) hx hb dX3_put_0 (by decide) ?_
  refine lv_istore_n (lv' := [(2, .int (nI 24)), (0, .ref m0), (1, .int v)]) hx hb dX3_put_2 rfl hl (by decide) rfl (fun ls hl => ?_)
  refine lv_iload_n hx hb dX3_put_3 rfl (lv_at hl 0 rfl) ?_
  refine lv_if_lt (tgt := 39) hx hb dX3_put_4 (by decide) (fun c4 => ?_) (fun c4 => ?_)
  · exact absurd c4 (nI_pos (by omega))
  · skip
    refine lv_aload_n hx hb dX3_put_7 rfl (lv_at hl 1 rfl) ?_
    refine va_get (D := (dC, dI)) (ci := 3) (v := .ref kt) (C := RX3) (T := TX3) (N := 9) hx hb hts (by decide +kernel) hown hK hP 0 rfl rfl 0 (by decide) (hts (.fieldLink RX3 7 "WildCardsModel" "tape" "[I") (by decide +kernel)) (fun _ h9 => h9) rfl dX3_put_8 ?_
    refine lv_aload_n hx hb dX3_put_11 rfl (lv_at hl 1 rfl) ?_
    refine va_get (D := (dC, dI)) (ci := 3) (v := .int (nI tl)) (C := RX3) (T := TX3) (N := 9) hx hb hts (by decide +kernel) hown hK hP 0 rfl rfl 3 (by decide) (hts (.fieldLink RX3 23 "WildCardsModel" "typed" "I") (by decide +kernel)) (fun _ h9 => h9) rfl dX3_put_12 ?_
    refine lv_iload_n hx hb dX3_put_15 rfl (lv_at hl 2 rfl) ?_
    refine lv_iload_n hx hb dX3_put_16 rfl (lv_at hl 0 rfl) ?_
    refine lv_ishr hx hb dX3_put_17 ?_
    refine lv_sipush (v := nI 255) hx hb dX3_put_18 (by decide) ?_
    refine lv_iand hx hb dX3_put_21 ?_
    refine wl_asi (y := nI (by4 v 24)) (by4_ok2 v 24 (by decide) (by decide)) ?_
    refine va_iast hx hb hK hP hD hS 1 0 rfl rfl (vp_in_nI (by omega) (by omega)) dX3_put_22 (fun H locs hP hD hS => ?_)
    rw [nI_clamp (by omega)] at hP hD
    rw [wl_updN] at hP hD
    have hP : va_P (dC, dI) vwCl [(m0, .inr (3, [.ref kt, .ref kp, .ref kw, .int (nI tl), .int (nI L), .int (nI wn), .int (nI en), .int (nI td), .ref kf])), (kt, .inl (cI, 400, .inl (fun j => nI ((va_up tp tl (by4 v 24)) j))))] H := hP
    have hD : va_D A [(m0, .inr (3, [.ref kt, .ref kp, .ref kw, .int (nI tl), .int (nI L), .int (nI wn), .int (nI en), .int (nI td), .ref kf])), (kt, .inl (cI, 400, .inl (fun j => nI ((va_up tp tl (by4 v 24)) j))))] := hD
    refine lv_aload_n hx hb dX3_put_23 rfl (lv_at hl 1 rfl) ?_
    refine lv_dup hx hb dX3_put_24 rfl ?_
    refine va_get (D := (dC, dI)) (ci := 3) (v := .int (nI tl)) (C := RX3) (T := TX3) (N := 9) hx hb hts (by decide +kernel) hown hK hP 0 rfl rfl 3 (by decide) (hts (.fieldLink RX3 23 "WildCardsModel" "typed" "I") (by decide +kernel)) (fun _ h9 => h9) rfl dX3_put_25 ?_
    refine lv_iconst (v := nI 1) hx hb dX3_put_28 (by decide) ?_
    refine lv_iadd hx hb dX3_put_29 ?_
    refine wl_asi (y := nI (tl + 1)) (nI_add _ _) ?_
    refine va_put (D := (dC, dI)) (ci := 3) (v := .int (nI (tl + 1))) (ty := .int) (C := RX3) (T := TX3) (N := 9) hx hb hts (by decide +kernel) tyX3 tyX3_ok nmX3 hown hK hP hD hS 0 rfl rfl 3 (by decide) (hts (.fieldLink RX3 23 "WildCardsModel" "typed" "I") (by decide +kernel)) (fun _ h9 => h9) rfl (by decide +kernel) rfl rfl (Nat.le_of_ble_eq_true rfl) dX3_put_30 (fun H locs hP hD hS => ?_)
    have hP : va_P (dC, dI) vwCl [(m0, .inr (3, [.ref kt, .ref kp, .ref kw, .int (nI (tl + 1)), .int (nI L), .int (nI wn), .int (nI en), .int (nI td), .ref kf])), (kt, .inl (cI, 400, .inl (fun j => nI ((va_up tp tl (by4 v 24)) j))))] H := hP
    have hD : va_D A [(m0, .inr (3, [.ref kt, .ref kp, .ref kw, .int (nI (tl + 1)), .int (nI L), .int (nI wn), .int (nI en), .int (nI td), .ref kf])), (kt, .inl (cI, 400, .inl (fun j => nI ((va_up tp tl (by4 v 24)) j))))] := hD
    refine lv_iinc (v := nI 16) (lv' := [(2, .int (nI 16)), (0, .ref m0), (1, .int v)]) hx hb dX3_put_33 hl (k := 0) rfl (by decide) (by decide) rfl (fun ls hl => ?_)
    refine lv_goto (tgt := 3) hx hb dX3_put_36 (by decide) ?_
    refine lv_iload_n hx hb dX3_put_3 rfl (lv_at hl 0 rfl) ?_
    refine lv_if_lt (tgt := 39) hx hb dX3_put_4 (by decide) (fun c4 => ?_) (fun c4 => ?_)
    · exact absurd c4 (nI_pos (by omega))
    · skip
      refine lv_aload_n hx hb dX3_put_7 rfl (lv_at hl 1 rfl) ?_
      refine va_get (D := (dC, dI)) (ci := 3) (v := .ref kt) (C := RX3) (T := TX3) (N := 9) hx hb hts (by decide +kernel) hown hK hP 0 rfl rfl 0 (by decide) (hts (.fieldLink RX3 7 "WildCardsModel" "tape" "[I") (by decide +kernel)) (fun _ h9 => h9) rfl dX3_put_8 ?_
      refine lv_aload_n hx hb dX3_put_11 rfl (lv_at hl 1 rfl) ?_
      refine va_get (D := (dC, dI)) (ci := 3) (v := .int (nI (tl + 1))) (C := RX3) (T := TX3) (N := 9) hx hb hts (by decide +kernel) hown hK hP 0 rfl rfl 3 (by decide) (hts (.fieldLink RX3 23 "WildCardsModel" "typed" "I") (by decide +kernel)) (fun _ h9 => h9) rfl dX3_put_12 ?_
      refine lv_iload_n hx hb dX3_put_15 rfl (lv_at hl 2 rfl) ?_
      refine lv_iload_n hx hb dX3_put_16 rfl (lv_at hl 0 rfl) ?_
      refine lv_ishr hx hb dX3_put_17 ?_
      refine lv_sipush (v := nI 255) hx hb dX3_put_18 (by decide) ?_
      refine lv_iand hx hb dX3_put_21 ?_
      refine wl_asi (y := nI (by4 v 16)) (by4_ok2 v 16 (by decide) (by decide)) ?_
      refine va_iast hx hb hK hP hD hS 1 0 rfl rfl (vp_in_nI (by omega) (by omega)) dX3_put_22 (fun H locs hP hD hS => ?_)
      rw [nI_clamp (by omega)] at hP hD
      rw [wl_updN] at hP hD
      have hP : va_P (dC, dI) vwCl [(m0, .inr (3, [.ref kt, .ref kp, .ref kw, .int (nI (tl + 1)), .int (nI L), .int (nI wn), .int (nI en), .int (nI td), .ref kf])), (kt, .inl (cI, 400, .inl (fun j => nI ((va_up (va_up tp tl (by4 v 24)) (tl + 1) (by4 v 16)) j))))] H := hP
      have hD : va_D A [(m0, .inr (3, [.ref kt, .ref kp, .ref kw, .int (nI (tl + 1)), .int (nI L), .int (nI wn), .int (nI en), .int (nI td), .ref kf])), (kt, .inl (cI, 400, .inl (fun j => nI ((va_up (va_up tp tl (by4 v 24)) (tl + 1) (by4 v 16)) j))))] := hD
      refine lv_aload_n hx hb dX3_put_23 rfl (lv_at hl 1 rfl) ?_
      refine lv_dup hx hb dX3_put_24 rfl ?_
      refine va_get (D := (dC, dI)) (ci := 3) (v := .int (nI (tl + 1))) (C := RX3) (T := TX3) (N := 9) hx hb hts (by decide +kernel) hown hK hP 0 rfl rfl 3 (by decide) (hts (.fieldLink RX3 23 "WildCardsModel" "typed" "I") (by decide +kernel)) (fun _ h9 => h9) rfl dX3_put_25 ?_
      refine lv_iconst (v := nI 1) hx hb dX3_put_28 (by decide) ?_
      refine lv_iadd hx hb dX3_put_29 ?_
      refine wl_asi (y := nI ((tl + 1) + 1)) (nI_add _ _) ?_
      refine va_put (D := (dC, dI)) (ci := 3) (v := .int (nI ((tl + 1) + 1))) (ty := .int) (C := RX3) (T := TX3) (N := 9) hx hb hts (by decide +kernel) tyX3 tyX3_ok nmX3 hown hK hP hD hS 0 rfl rfl 3 (by decide) (hts (.fieldLink RX3 23 "WildCardsModel" "typed" "I") (by decide +kernel)) (fun _ h9 => h9) rfl (by decide +kernel) rfl rfl (Nat.le_of_ble_eq_true rfl) dX3_put_30 (fun H locs hP hD hS => ?_)
      have hP : va_P (dC, dI) vwCl [(m0, .inr (3, [.ref kt, .ref kp, .ref kw, .int (nI ((tl + 1) + 1)), .int (nI L), .int (nI wn), .int (nI en), .int (nI td), .ref kf])), (kt, .inl (cI, 400, .inl (fun j => nI ((va_up (va_up tp tl (by4 v 24)) (tl + 1) (by4 v 16)) j))))] H := hP
      have hD : va_D A [(m0, .inr (3, [.ref kt, .ref kp, .ref kw, .int (nI ((tl + 1) + 1)), .int (nI L), .int (nI wn), .int (nI en), .int (nI td), .ref kf])), (kt, .inl (cI, 400, .inl (fun j => nI ((va_up (va_up tp tl (by4 v 24)) (tl + 1) (by4 v 16)) j))))] := hD
      refine lv_iinc (v := nI 8) (lv' := [(2, .int (nI 8)), (0, .ref m0), (1, .int v)]) hx hb dX3_put_33 hl (k := 0) rfl (by decide) (by decide) rfl (fun ls hl => ?_)
      refine lv_goto (tgt := 3) hx hb dX3_put_36 (by decide) ?_
      refine lv_iload_n hx hb dX3_put_3 rfl (lv_at hl 0 rfl) ?_
      refine lv_if_lt (tgt := 39) hx hb dX3_put_4 (by decide) (fun c4 => ?_) (fun c4 => ?_)
      · exact absurd c4 (nI_pos (by omega))
      · skip
        refine lv_aload_n hx hb dX3_put_7 rfl (lv_at hl 1 rfl) ?_
        refine va_get (D := (dC, dI)) (ci := 3) (v := .ref kt) (C := RX3) (T := TX3) (N := 9) hx hb hts (by decide +kernel) hown hK hP 0 rfl rfl 0 (by decide) (hts (.fieldLink RX3 7 "WildCardsModel" "tape" "[I") (by decide +kernel)) (fun _ h9 => h9) rfl dX3_put_8 ?_
        refine lv_aload_n hx hb dX3_put_11 rfl (lv_at hl 1 rfl) ?_
        refine va_get (D := (dC, dI)) (ci := 3) (v := .int (nI ((tl + 1) + 1))) (C := RX3) (T := TX3) (N := 9) hx hb hts (by decide +kernel) hown hK hP 0 rfl rfl 3 (by decide) (hts (.fieldLink RX3 23 "WildCardsModel" "typed" "I") (by decide +kernel)) (fun _ h9 => h9) rfl dX3_put_12 ?_
        refine lv_iload_n hx hb dX3_put_15 rfl (lv_at hl 2 rfl) ?_
        refine lv_iload_n hx hb dX3_put_16 rfl (lv_at hl 0 rfl) ?_
        refine lv_ishr hx hb dX3_put_17 ?_
        refine lv_sipush (v := nI 255) hx hb dX3_put_18 (by decide) ?_
        refine lv_iand hx hb dX3_put_21 ?_
        refine wl_asi (y := nI (by4 v 8)) (by4_ok2 v 8 (by decide) (by decide)) ?_
        refine va_iast hx hb hK hP hD hS 1 0 rfl rfl (vp_in_nI (by omega) (by omega)) dX3_put_22 (fun H locs hP hD hS => ?_)
        rw [nI_clamp (by omega)] at hP hD
        rw [wl_updN] at hP hD
        have hP : va_P (dC, dI) vwCl [(m0, .inr (3, [.ref kt, .ref kp, .ref kw, .int (nI ((tl + 1) + 1)), .int (nI L), .int (nI wn), .int (nI en), .int (nI td), .ref kf])), (kt, .inl (cI, 400, .inl (fun j => nI ((va_up (va_up (va_up tp tl (by4 v 24)) (tl + 1) (by4 v 16)) ((tl + 1) + 1) (by4 v 8)) j))))] H := hP
        have hD : va_D A [(m0, .inr (3, [.ref kt, .ref kp, .ref kw, .int (nI ((tl + 1) + 1)), .int (nI L), .int (nI wn), .int (nI en), .int (nI td), .ref kf])), (kt, .inl (cI, 400, .inl (fun j => nI ((va_up (va_up (va_up tp tl (by4 v 24)) (tl + 1) (by4 v 16)) ((tl + 1) + 1) (by4 v 8)) j))))] := hD
        refine lv_aload_n hx hb dX3_put_23 rfl (lv_at hl 1 rfl) ?_
        refine lv_dup hx hb dX3_put_24 rfl ?_
        refine va_get (D := (dC, dI)) (ci := 3) (v := .int (nI ((tl + 1) + 1))) (C := RX3) (T := TX3) (N := 9) hx hb hts (by decide +kernel) hown hK hP 0 rfl rfl 3 (by decide) (hts (.fieldLink RX3 23 "WildCardsModel" "typed" "I") (by decide +kernel)) (fun _ h9 => h9) rfl dX3_put_25 ?_
        refine lv_iconst (v := nI 1) hx hb dX3_put_28 (by decide) ?_
        refine lv_iadd hx hb dX3_put_29 ?_
        refine wl_asi (y := nI (((tl + 1) + 1) + 1)) (nI_add _ _) ?_
        refine va_put (D := (dC, dI)) (ci := 3) (v := .int (nI (((tl + 1) + 1) + 1))) (ty := .int) (C := RX3) (T := TX3) (N := 9) hx hb hts (by decide +kernel) tyX3 tyX3_ok nmX3 hown hK hP hD hS 0 rfl rfl 3 (by decide) (hts (.fieldLink RX3 23 "WildCardsModel" "typed" "I") (by decide +kernel)) (fun _ h9 => h9) rfl (by decide +kernel) rfl rfl (Nat.le_of_ble_eq_true rfl) dX3_put_30 (fun H locs hP hD hS => ?_)
        have hP : va_P (dC, dI) vwCl [(m0, .inr (3, [.ref kt, .ref kp, .ref kw, .int (nI (((tl + 1) + 1) + 1)), .int (nI L), .int (nI wn), .int (nI en), .int (nI td), .ref kf])), (kt, .inl (cI, 400, .inl (fun j => nI ((va_up (va_up (va_up tp tl (by4 v 24)) (tl + 1) (by4 v 16)) ((tl + 1) + 1) (by4 v 8)) j))))] H := hP
        have hD : va_D A [(m0, .inr (3, [.ref kt, .ref kp, .ref kw, .int (nI (((tl + 1) + 1) + 1)), .int (nI L), .int (nI wn), .int (nI en), .int (nI td), .ref kf])), (kt, .inl (cI, 400, .inl (fun j => nI ((va_up (va_up (va_up tp tl (by4 v 24)) (tl + 1) (by4 v 16)) ((tl + 1) + 1) (by4 v 8)) j))))] := hD
        refine lv_iinc (v := nI 0) (lv' := [(2, .int (nI 0)), (0, .ref m0), (1, .int v)]) hx hb dX3_put_33 hl (k := 0) rfl (by decide) (by decide) rfl (fun ls hl => ?_)
        refine lv_goto (tgt := 3) hx hb dX3_put_36 (by decide) ?_
        refine lv_iload_n hx hb dX3_put_3 rfl (lv_at hl 0 rfl) ?_
        refine lv_if_lt (tgt := 39) hx hb dX3_put_4 (by decide) (fun c4 => ?_) (fun c4 => ?_)
        · exact absurd c4 (nI_pos (by omega))
        · skip
          refine lv_aload_n hx hb dX3_put_7 rfl (lv_at hl 1 rfl) ?_
          refine va_get (D := (dC, dI)) (ci := 3) (v := .ref kt) (C := RX3) (T := TX3) (N := 9) hx hb hts (by decide +kernel) hown hK hP 0 rfl rfl 0 (by decide) (hts (.fieldLink RX3 7 "WildCardsModel" "tape" "[I") (by decide +kernel)) (fun _ h9 => h9) rfl dX3_put_8 ?_
          refine lv_aload_n hx hb dX3_put_11 rfl (lv_at hl 1 rfl) ?_
          refine va_get (D := (dC, dI)) (ci := 3) (v := .int (nI (((tl + 1) + 1) + 1))) (C := RX3) (T := TX3) (N := 9) hx hb hts (by decide +kernel) hown hK hP 0 rfl rfl 3 (by decide) (hts (.fieldLink RX3 23 "WildCardsModel" "typed" "I") (by decide +kernel)) (fun _ h9 => h9) rfl dX3_put_12 ?_
          refine lv_iload_n hx hb dX3_put_15 rfl (lv_at hl 2 rfl) ?_
          refine lv_iload_n hx hb dX3_put_16 rfl (lv_at hl 0 rfl) ?_
          refine lv_ishr hx hb dX3_put_17 ?_
          refine lv_sipush (v := nI 255) hx hb dX3_put_18 (by decide) ?_
          refine lv_iand hx hb dX3_put_21 ?_
          refine wl_asi (y := nI (by4 v 0)) (by4_ok2 v 0 (by decide) (by decide)) ?_
          refine va_iast hx hb hK hP hD hS 1 0 rfl rfl (vp_in_nI (by omega) (by omega)) dX3_put_22 (fun H locs hP hD hS => ?_)
          rw [nI_clamp (by omega)] at hP hD
          rw [wl_updN] at hP hD
          have hP : va_P (dC, dI) vwCl [(m0, .inr (3, [.ref kt, .ref kp, .ref kw, .int (nI (((tl + 1) + 1) + 1)), .int (nI L), .int (nI wn), .int (nI en), .int (nI td), .ref kf])), (kt, .inl (cI, 400, .inl (fun j => nI ((va_up (va_up (va_up (va_up tp tl (by4 v 24)) (tl + 1) (by4 v 16)) ((tl + 1) + 1) (by4 v 8)) (((tl + 1) + 1) + 1) (by4 v 0)) j))))] H := hP
          have hD : va_D A [(m0, .inr (3, [.ref kt, .ref kp, .ref kw, .int (nI (((tl + 1) + 1) + 1)), .int (nI L), .int (nI wn), .int (nI en), .int (nI td), .ref kf])), (kt, .inl (cI, 400, .inl (fun j => nI ((va_up (va_up (va_up (va_up tp tl (by4 v 24)) (tl + 1) (by4 v 16)) ((tl + 1) + 1) (by4 v 8)) (((tl + 1) + 1) + 1) (by4 v 0)) j))))] := hD
          refine lv_aload_n hx hb dX3_put_23 rfl (lv_at hl 1 rfl) ?_
          refine lv_dup hx hb dX3_put_24 rfl ?_
          refine va_get (D := (dC, dI)) (ci := 3) (v := .int (nI (((tl + 1) + 1) + 1))) (C := RX3) (T := TX3) (N := 9) hx hb hts (by decide +kernel) hown hK hP 0 rfl rfl 3 (by decide) (hts (.fieldLink RX3 23 "WildCardsModel" "typed" "I") (by decide +kernel)) (fun _ h9 => h9) rfl dX3_put_25 ?_
          refine lv_iconst (v := nI 1) hx hb dX3_put_28 (by decide) ?_
          refine lv_iadd hx hb dX3_put_29 ?_
          refine wl_asi (y := nI ((((tl + 1) + 1) + 1) + 1)) (nI_add _ _) ?_
          refine va_put (D := (dC, dI)) (ci := 3) (v := .int (nI ((((tl + 1) + 1) + 1) + 1))) (ty := .int) (C := RX3) (T := TX3) (N := 9) hx hb hts (by decide +kernel) tyX3 tyX3_ok nmX3 hown hK hP hD hS 0 rfl rfl 3 (by decide) (hts (.fieldLink RX3 23 "WildCardsModel" "typed" "I") (by decide +kernel)) (fun _ h9 => h9) rfl (by decide +kernel) rfl rfl (Nat.le_of_ble_eq_true rfl) dX3_put_30 (fun H locs hP hD hS => ?_)
          have hP : va_P (dC, dI) vwCl [(m0, .inr (3, [.ref kt, .ref kp, .ref kw, .int (nI ((((tl + 1) + 1) + 1) + 1)), .int (nI L), .int (nI wn), .int (nI en), .int (nI td), .ref kf])), (kt, .inl (cI, 400, .inl (fun j => nI ((va_up (va_up (va_up (va_up tp tl (by4 v 24)) (tl + 1) (by4 v 16)) ((tl + 1) + 1) (by4 v 8)) (((tl + 1) + 1) + 1) (by4 v 0)) j))))] H := hP
          have hD : va_D A [(m0, .inr (3, [.ref kt, .ref kp, .ref kw, .int (nI ((((tl + 1) + 1) + 1) + 1)), .int (nI L), .int (nI wn), .int (nI en), .int (nI td), .ref kf])), (kt, .inl (cI, 400, .inl (fun j => nI ((va_up (va_up (va_up (va_up tp tl (by4 v 24)) (tl + 1) (by4 v 16)) ((tl + 1) + 1) (by4 v 8)) (((tl + 1) + 1) + 1) (by4 v 0)) j))))] := hD
          refine lv_iinc (v := (-8)) (lv' := [(2, .int (-8)), (0, .ref m0), (1, .int v)]) hx hb dX3_put_33 hl (k := 0) rfl (by decide) (by decide) rfl (fun ls hl => ?_)
          refine lv_goto (tgt := 3) hx hb dX3_put_36 (by decide) ?_
          refine lv_iload_n hx hb dX3_put_3 rfl (lv_at hl 0 rfl) ?_
          refine lv_if_lt (tgt := 39) hx hb dX3_put_4 (by decide) (fun c4 => ?_) (fun c4 => ?_)
          · skip
            have hP9 := hP.sub (ws' := [(m0, .inr (3, [.ref kt, .ref kp, .ref kw, .int (nI (tl + 4)), .int (nI L), .int (nI wn), .int (nI en), .int (nI td), .ref kf])), (kt, .inl (cI, 400, .inl (fun j => nI ((ap4 tp tl v) j))))]) [0, 1] rfl
            have hD9 := hD.sub (ws' := [(m0, .inr (3, [.ref kt, .ref kp, .ref kw, .int (nI (tl + 4)), .int (nI L), .int (nI wn), .int (nI en), .int (nI td), .ref kf])), (kt, .inl (cI, 400, .inl (fun j => nI ((ap4 tp tl v) j))))]) [0, 1] (by decide) rfl
            exact W.vret hx hb hr (fun t ht hW => ⟨⟨(), rfl, trivial, by rw [ht]; exact hP9, va_K.moved hW.alike hK, hD9⟩, hS.F ht⟩) hS.2.2 dX3_put_39
          · skip
            exact absurd (by decide) c4
