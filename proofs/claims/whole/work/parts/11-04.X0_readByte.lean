set_option maxHeartbeats 4000000 in
set_option maxRecDepth 100000 in
theorem c_X0_readByte (l : Launch) (dC : Nat → ClassId) (dI : Nat → Nat → Nat) (cI cJ cZ : ClassId) (hR qB hT : Nat) (sz : Nat) (L : Nat) (ix : Nat) (a : Nat → Nat) (hL : L ≤ 400) (ha : ∀ j, j < L → a j < 256) (hat : ix < L) : Met l yX0_readByte wsX0_readByte ({ frames := 1, cells := 0, slots := 0, locals := 21 }) (va_Pc [.ref hR] (fun U => U.heap.size = sz ∧ va_P (dC, dI) vwCl [(hR, .inr (0, [.ref qB, .int (nI L), .ref hT, .int (nI ix)])), (qB, .inl (cI, 400, .inl (fun j => nI (a j))))] U.heap ∧ va_K (dC, dI) vwCl [(cI, .int), (cJ, .long), (cZ, .boolean)] U ∧ va_D (fun _ => True) [(hR, .inr (0, [.ref qB, .int (nI L), .ref hT, .int (nI ix)])), (qB, .inl (cI, 400, .inl (fun j => nI (a j))))])) (va_Qi (fun (r : Int32) (u : Nat) => u = rbn a L ix ∧ r = nI (rbv a L ix)) (fun (u : Nat) (t : State) => va_P (dC, dI) vwCl [(hR, .inr (0, [.ref qB, .int (nI L), .ref hT, .int (nI u)])), (qB, .inl (cI, 400, .inl (fun j => nI (a j))))] t.heap ∧ va_K (dC, dI) vwCl [(cI, .int), (cJ, .long), (cZ, .boolean)] t ∧ va_D (va_A [(hR, .inr (0, [.ref qB, .int (nI L), .ref hT, .int (nI ix)])), (qB, .inl (cI, 400, .inl (fun j => nI (a j))))] sz) [(hR, .inr (0, [.ref qB, .int (nI L), .ref hT, .int (nI u)])), (qB, .inl (cI, 400, .inl (fun j => nI (a j))))]) (va_A [(hR, .inr (0, [.ref qB, .int (nI L), .ref hT, .int (nI ix)])), (qB, .inl (cI, 400, .inl (fun j => nI (a j))))] sz)) 0 0 (va_A [(hR, .inr (0, [.ref qB, .int (nI L), .ref hT, .int (nI ix)])), (qB, .inl (cI, 400, .inl (fun j => nI (a j))))] sz) := by
  refine Met.ofW (cc := cX0_readByte) (maxL := 2) (ret := (some .int)) (by decide) rfl ?_
  intro p e s m args below meth c s₁ B hml hv
  obtain ⟨rfl, hsz, hP, hK, hD0⟩ := hv
  have hx := B.exec
  have hb := B.bytes
  have hr := B.returns
  have hts := atoms_spec (ws := wsX0_readByte) B.pre
  have hown : s.vm.findClass RX0 = some m.cls := findClass_of_methodNamed B.named
  have hlocks := B.notSynchronized
  subst hsz
  have hD := hD0.self (sz := s.heap.size)
  generalize hAe : va_A [(hR, .inr (0, [.ref qB, .int (nI L), .ref hT, .int (nI ix)])), (qB, .inl (cI, 400, .inl (fun j => nI (a j))))] s.heap.size = A at hD ⊢
  have hA : ∀ q : Nat, s.heap.size ≤ q → A q := fun q h => by rw [← hAe]; exact Or.inr h
  have hS : va_S A s.heap s.heap [] := va_S.rf
  have hP : va_P (dC, dI) vwCl [(hR, .inr (0, [.ref qB, .int (nI L), .ref hT, .int (nI ix)])), (qB, .inl (cI, 400, .inl (fun j => nI (a j))))] s.heap := hP
  have hl := lv_entry ([.ref hR]) (n := 2) (Nat.le_of_ble_eq_true rfl)
  rw [lg_entry_eq]
  generalize (lg_sl ([.ref hR]) ++ List.replicate (2 - (lg_sl ([.ref hR])).length) Slot.unset).toArray = ls at hl ⊢
  have hl : lv_has ls 2 [(0, .ref hR)] := hl
  skip
  have h8 := ha ix hat
  refine lv_aload_n hx hb dX0_readByte_0 rfl (lv_at hl 0 rfl) ?_
  refine lv_aload_n hx hb dX0_readByte_1 rfl (lv_at hl 0 rfl) ?_
  refine va_get (D := (dC, dI)) (ci := 0) (v := .int (nI ix)) (C := RX0) (T := TX0) (N := 4) hx hb hts (by decide +kernel) hown hK hP 0 rfl rfl 3 (by decide) (hts (.fieldLink RX0 23 "WildCards$Reader" "at" "I") (by decide +kernel)) (fun _ h9 => h9) rfl dX0_readByte_2 ?_
  have hPc := hP.sub (ws' := [(hR, .inr (0, [.ref qB, .int (nI L), .ref hT, .int (nI ix)])), (qB, .inl (cI, 400, .inl (fun j => nI (a j))))]) [0, 1] rfl
  have hDc := hD.sub (ws' := [(hR, .inr (0, [.ref qB, .int (nI L), .ref hT, .int (nI ix)])), (qB, .inl (cI, 400, .inl (fun j => nI (a j))))]) [0, 1] (by decide) rfl
  have hFc := va_free (wc := [(hR, .inr (0, [.ref qB, .int (nI L), .ref hT, .int (nI ix)])), (qB, .inl (cI, 400, .inl (fun j => nI (a j))))]) hD hS hA [0, 1] rfl
  refine va_calli (va_runV (As := [.int (nI ix)]) (rest := []) ⟨hx, hb, hml, hown, hts⟩ (c_X0_byteAt l dC dI cI cJ cZ hR qB hT s.heap.size L ix a ix (by omega) (by omega)) (cwV 1 hts gX0_readByte_X0_byteAt rfl rfl rfl (by decide +kernel) ⟨Nat.le_of_ble_eq_true rfl, Nat.le_of_ble_eq_true rfl⟩) ⟨fun a U g mk q => by obtain ⟨q0, q1, qP, qK, qD⟩ := q; exact ⟨q0, q1, qP, va_K.moved (u := U) (U := U.calling g mk a) (Vm.Alike.refl U.vm) qK, qD⟩, va_recv hK hPc (ci := 0) (q0 := 0) rfl rfl, fun U hU hW => ⟨rfl, by rw [hU], by rw [hU]; exact hPc, va_K.moved hW.alike hK, hDc.weaken (fun _ _ _ _ => trivial)⟩⟩ rfl rfl hl.1 rfl (lv_room (Nat.le_of_ble_eq_true rfl)) dX0_readByte_5 ⟨show 0 + 0 ≤ 0 from by decide, show 0 + 0 ≤ 0 from by decide⟩) hS (fun q _ h => hFc q h) hFc (fun r5 u t H1 locs ht hvm hw5 hB hz1 hk1 hS => ?_)
  obtain ⟨hP1, hK1, hD1⟩ := hB
  rw [ht] at hP1
  try dsimp only at hw5 hP1 hD1
  obtain ⟨hP, hD⟩ := va_join (wr := []) (w1 := [(hR, .inr (0, [.ref qB, .int (nI L), .ref hT, .int (nI ix)])), (qB, .inl (cI, 400, .inl (fun j => nI (a j))))]) hP hD [0, 1] [] rfl rfl (by decide) (by decide) hk1 hFc hP1 hD1
  generalize H1 = H at hP hS ⊢
  have hP : va_P (dC, dI) vwCl [(hR, .inr (0, [.ref qB, .int (nI L), .ref hT, .int (nI ix)])), (qB, .inl (cI, 400, .inl (fun j => nI (a j))))] H := hP
  have hD : va_D A [(hR, .inr (0, [.ref qB, .int (nI L), .ref hT, .int (nI ix)])), (qB, .inl (cI, 400, .inl (fun j => nI (a j))))] := hD
  refine wl_asi (y := nI (a ix)) (by rw [hw5, if_pos hat]) ?_
  refine lv_istore_n (lv' := [(1, .int (nI (a ix))), (0, .ref hR)]) hx hb dX0_readByte_8 rfl hl (by decide) rfl (fun ls hl => ?_)
  refine lv_aload_n hx hb dX0_readByte_9 rfl (lv_at hl 1 rfl) ?_
  refine lv_dup hx hb dX0_readByte_10 rfl ?_
  refine va_get (D := (dC, dI)) (ci := 0) (v := .int (nI ix)) (C := RX0) (T := TX0) (N := 4) hx hb hts (by decide +kernel) hown hK hP 0 rfl rfl 3 (by decide) (hts (.fieldLink RX0 23 "WildCards$Reader" "at" "I") (by decide +kernel)) (fun _ h9 => h9) rfl dX0_readByte_11 ?_
  refine lv_iconst (v := nI 1) hx hb dX0_readByte_14 (by decide) ?_
  refine lv_iadd hx hb dX0_readByte_15 ?_
  refine wl_asi (y := nI (ix + 1)) (nI_add _ _) ?_
  refine va_put (D := (dC, dI)) (ci := 0) (v := .int (nI (ix + 1))) (ty := .int) (C := RX0) (T := TX0) (N := 4) hx hb hts (by decide +kernel) tyX0 tyX0_ok nmX0 hown hK hP hD hS 0 rfl rfl 3 (by decide) (hts (.fieldLink RX0 23 "WildCards$Reader" "at" "I") (by decide +kernel)) (fun _ h9 => h9) rfl (by decide +kernel) rfl rfl (Nat.le_of_ble_eq_true rfl) dX0_readByte_16 (fun H locs hP hD hS => ?_)
  have hP : va_P (dC, dI) vwCl [(hR, .inr (0, [.ref qB, .int (nI L), .ref hT, .int (nI (ix + 1))])), (qB, .inl (cI, 400, .inl (fun j => nI (a j))))] H := hP
  have hD : va_D A [(hR, .inr (0, [.ref qB, .int (nI L), .ref hT, .int (nI (ix + 1))])), (qB, .inl (cI, 400, .inl (fun j => nI (a j))))] := hD
  refine lv_iload_n hx hb dX0_readByte_19 rfl (lv_at hl 0 rfl) ?_
  refine lv_bipush (v := nI 92) hx hb dX0_readByte_20 (by decide) ?_
  refine wl_icmp_ne (tgt := 55) hx hb dX0_readByte_22 (by decide) (by omega) (by omega) (fun c22 => ?_) (fun c22 => ?_)
  · skip
    refine lv_iload_n hx hb dX0_readByte_55 rfl (lv_at hl 0 rfl) ?_
    have hP9 := hP.sub (ws' := [(hR, .inr (0, [.ref qB, .int (nI L), .ref hT, .int (nI (ix + 1))])), (qB, .inl (cI, 400, .inl (fun j => nI (a j))))]) [0, 1] rfl
    have hD9 := hD.sub (ws' := [(hR, .inr (0, [.ref qB, .int (nI L), .ref hT, .int (nI (ix + 1))])), (qB, .inl (cI, 400, .inl (fun j => nI (a j))))]) [0, 1] (by decide) rfl
    exact W.iret (v := nI (a ix)) hx hb hr  (fun t ht hW => ⟨⟨nI (a ix), ix + 1, rfl, (show (ix + 1) = rbn a L ix ∧ (nI (a ix)) = nI (rbv a L ix) from rb_a c22), by rw [ht]; exact hP9, va_K.moved hW.alike hK, hD9⟩, hS.F ht⟩) hS.2.2 dX0_readByte_56
  · skip
    refine lv_aload_n hx hb dX0_readByte_25 rfl (lv_at hl 1 rfl) ?_
    refine va_get (D := (dC, dI)) (ci := 0) (v := .int (nI (ix + 1))) (C := RX0) (T := TX0) (N := 4) hx hb hts (by decide +kernel) hown hK hP 0 rfl rfl 3 (by decide) (hts (.fieldLink RX0 23 "WildCards$Reader" "at" "I") (by decide +kernel)) (fun _ h9 => h9) rfl dX0_readByte_26 ?_
    refine lv_aload_n hx hb dX0_readByte_29 rfl (lv_at hl 1 rfl) ?_
    refine va_get (D := (dC, dI)) (ci := 0) (v := .int (nI L)) (C := RX0) (T := TX0) (N := 4) hx hb hts (by decide +kernel) hown hK hP 0 rfl rfl 1 (by decide) (hts (.fieldLink RX0 15 "WildCards$Reader" "length" "I") (by decide +kernel)) (fun _ h9 => h9) rfl dX0_readByte_30 ?_
    refine wl_icmp_ge (tgt := 55) hx hb dX0_readByte_33 (by decide) (by omega) (by omega) (fun c33 => ?_) (fun c33 => ?_)
    · skip
      refine lv_iload_n hx hb dX0_readByte_55 rfl (lv_at hl 0 rfl) ?_
      have hP9 := hP.sub (ws' := [(hR, .inr (0, [.ref qB, .int (nI L), .ref hT, .int (nI (ix + 1))])), (qB, .inl (cI, 400, .inl (fun j => nI (a j))))]) [0, 1] rfl
      have hD9 := hD.sub (ws' := [(hR, .inr (0, [.ref qB, .int (nI L), .ref hT, .int (nI (ix + 1))])), (qB, .inl (cI, 400, .inl (fun j => nI (a j))))]) [0, 1] (by decide) rfl
      exact W.iret (v := nI (a ix)) hx hb hr  (fun t ht hW => ⟨⟨nI (a ix), ix + 1, rfl, (show (ix + 1) = rbn a L ix ∧ (nI (a ix)) = nI (rbv a L ix) from rb_b c33), by rw [ht]; exact hP9, va_K.moved hW.alike hK, hD9⟩, hS.F ht⟩) hS.2.2 dX0_readByte_56
    · skip
      have h9 := ha (ix + 1) c33
      refine lv_aload_n hx hb dX0_readByte_36 rfl (lv_at hl 1 rfl) ?_
      refine lv_aload_n hx hb dX0_readByte_37 rfl (lv_at hl 1 rfl) ?_
      refine va_get (D := (dC, dI)) (ci := 0) (v := .int (nI (ix + 1))) (C := RX0) (T := TX0) (N := 4) hx hb hts (by decide +kernel) hown hK hP 0 rfl rfl 3 (by decide) (hts (.fieldLink RX0 23 "WildCards$Reader" "at" "I") (by decide +kernel)) (fun _ h9 => h9) rfl dX0_readByte_38 ?_
      have hPc := hP.sub (ws' := [(hR, .inr (0, [.ref qB, .int (nI L), .ref hT, .int (nI (ix + 1))])), (qB, .inl (cI, 400, .inl (fun j => nI (a j))))]) [0, 1] rfl
      have hDc := hD.sub (ws' := [(hR, .inr (0, [.ref qB, .int (nI L), .ref hT, .int (nI (ix + 1))])), (qB, .inl (cI, 400, .inl (fun j => nI (a j))))]) [0, 1] (by decide) rfl
      have hFc := va_free (wc := [(hR, .inr (0, [.ref qB, .int (nI L), .ref hT, .int (nI (ix + 1))])), (qB, .inl (cI, 400, .inl (fun j => nI (a j))))]) hD hS hA [0, 1] rfl
      refine va_calli (va_runV (As := [.int (nI (ix + 1))]) (rest := []) ⟨hx, hb, hml, hown, hts⟩ (c_X0_byteAt l dC dI cI cJ cZ hR qB hT H.size L (ix + 1) a (ix + 1) (by omega) (by omega)) (cwV 1 hts gX0_readByte_X0_byteAt rfl rfl rfl (by decide +kernel) ⟨Nat.le_of_ble_eq_true rfl, Nat.le_of_ble_eq_true rfl⟩) ⟨fun a U g mk q => by obtain ⟨q0, q1, qP, qK, qD⟩ := q; exact ⟨q0, q1, qP, va_K.moved (u := U) (U := U.calling g mk a) (Vm.Alike.refl U.vm) qK, qD⟩, va_recv hK hPc (ci := 0) (q0 := 0) rfl rfl, fun U hU hW => ⟨rfl, by rw [hU], by rw [hU]; exact hPc, va_K.moved hW.alike hK, hDc.weaken (fun _ _ _ _ => trivial)⟩⟩ rfl rfl hl.1 rfl (lv_room (Nat.le_of_ble_eq_true rfl)) dX0_readByte_41 ⟨show 0 + 0 + 0 ≤ 0 from by decide, show 0 + 0 + 0 ≤ 0 from by decide⟩) hS (fun q _ h => hFc q h) hFc (fun r41 u t H1 locs ht hvm hw41 hB hz1 hk1 hS => ?_)
      obtain ⟨hP1, hK1, hD1⟩ := hB
      rw [ht] at hP1
      try dsimp only at hw41 hP1 hD1
      obtain ⟨hP, hD⟩ := va_join (wr := []) (w1 := [(hR, .inr (0, [.ref qB, .int (nI L), .ref hT, .int (nI (ix + 1))])), (qB, .inl (cI, 400, .inl (fun j => nI (a j))))]) hP hD [0, 1] [] rfl rfl (by decide) (by decide) hk1 hFc hP1 hD1
      generalize H1 = H at hP hS ⊢
      have hP : va_P (dC, dI) vwCl [(hR, .inr (0, [.ref qB, .int (nI L), .ref hT, .int (nI (ix + 1))])), (qB, .inl (cI, 400, .inl (fun j => nI (a j))))] H := hP
      have hD : va_D A [(hR, .inr (0, [.ref qB, .int (nI L), .ref hT, .int (nI (ix + 1))])), (qB, .inl (cI, 400, .inl (fun j => nI (a j))))] := hD
      refine wl_asi (y := nI (a (ix + 1))) (by rw [hw41, if_pos c33]) ?_
      refine lv_istore_n (lv' := [(1, .int (nI (a (ix + 1)))), (0, .ref hR)]) hx hb dX0_readByte_44 rfl hl (by decide) rfl (fun ls hl => ?_)
      refine lv_aload_n hx hb dX0_readByte_45 rfl (lv_at hl 1 rfl) ?_
      refine lv_dup hx hb dX0_readByte_46 rfl ?_
      refine va_get (D := (dC, dI)) (ci := 0) (v := .int (nI (ix + 1))) (C := RX0) (T := TX0) (N := 4) hx hb hts (by decide +kernel) hown hK hP 0 rfl rfl 3 (by decide) (hts (.fieldLink RX0 23 "WildCards$Reader" "at" "I") (by decide +kernel)) (fun _ h9 => h9) rfl dX0_readByte_47 ?_
      refine lv_iconst (v := nI 1) hx hb dX0_readByte_50 (by decide) ?_
      refine lv_iadd hx hb dX0_readByte_51 ?_
      refine wl_asi (y := nI ((ix + 1) + 1)) (nI_add _ _) ?_
      refine va_put (D := (dC, dI)) (ci := 0) (v := .int (nI ((ix + 1) + 1))) (ty := .int) (C := RX0) (T := TX0) (N := 4) hx hb hts (by decide +kernel) tyX0 tyX0_ok nmX0 hown hK hP hD hS 0 rfl rfl 3 (by decide) (hts (.fieldLink RX0 23 "WildCards$Reader" "at" "I") (by decide +kernel)) (fun _ h9 => h9) rfl (by decide +kernel) rfl rfl (Nat.le_of_ble_eq_true rfl) dX0_readByte_52 (fun H locs hP hD hS => ?_)
      have hP : va_P (dC, dI) vwCl [(hR, .inr (0, [.ref qB, .int (nI L), .ref hT, .int (nI ((ix + 1) + 1))])), (qB, .inl (cI, 400, .inl (fun j => nI (a j))))] H := hP
      have hD : va_D A [(hR, .inr (0, [.ref qB, .int (nI L), .ref hT, .int (nI ((ix + 1) + 1))])), (qB, .inl (cI, 400, .inl (fun j => nI (a j))))] := hD
      refine lv_iload_n hx hb dX0_readByte_55 rfl (lv_at hl 0 rfl) ?_
      have hP9 := hP.sub (ws' := [(hR, .inr (0, [.ref qB, .int (nI L), .ref hT, .int (nI ((ix + 1) + 1))])), (qB, .inl (cI, 400, .inl (fun j => nI (a j))))]) [0, 1] rfl
      have hD9 := hD.sub (ws' := [(hR, .inr (0, [.ref qB, .int (nI L), .ref hT, .int (nI ((ix + 1) + 1))])), (qB, .inl (cI, 400, .inl (fun j => nI (a j))))]) [0, 1] (by decide) rfl
      exact W.iret (v := nI (a (ix + 1))) hx hb hr  (fun t ht hW => ⟨⟨nI (a (ix + 1)), (ix + 1) + 1, rfl, (show ((ix + 1) + 1) = rbn a L ix ∧ (nI (a (ix + 1))) = nI (rbv a L ix) from rb_c c22 c33), by rw [ht]; exact hP9, va_K.moved hW.alike hK, hD9⟩, hS.F ht⟩) hS.2.2 dX0_readByte_56
