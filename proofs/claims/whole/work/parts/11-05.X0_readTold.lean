set_option maxHeartbeats 4000000 in
set_option maxRecDepth 100000 in
theorem c_X0_readTold (l : Launch) (dC : Nat → ClassId) (dI : Nat → Nat → Nat) (cI cJ cZ : ClassId) (hR qB hT qT qL qR : Nat) (sz : Nat) (L : Nat) (ix : Nat) (a : Nat → Nat) (cnt : Nat) (fT : Nat → Int64) (fL : Nat → Int64) (fR : Nat → Int64) (tb : Nat) (hL : L ≤ 400) (ha : ∀ j, j < L → a j < 256) (hat : ix < L) (hc : cnt < 448) (htb : tb < 2) : Met l yX0_readTold wsX0_readTold ({ frames := 2, cells := 0, slots := 0, locals := 47 }) (va_Pc [.ref hR, .int (nI tb)] (fun U => U.heap.size = sz ∧ va_P (dC, dI) vwCl [(hR, .inr (0, [.ref qB, .int (nI L), .ref hT, .int (nI ix)])), (qB, .inl (cI, 400, .inl (fun j => nI (a j)))), (hT, .inr (1, [.ref qT, .ref qL, .ref qR, .int (nI cnt)])), (qT, .inl (cJ, 1792, .inr (.inl fT))), (qL, .inl (cJ, 7, .inr (.inl fL))), (qR, .inl (cJ, 7, .inr (.inl fR)))] U.heap ∧ va_K (dC, dI) vwCl [(cI, .int), (cJ, .long), (cZ, .boolean)] U ∧ va_D (fun _ => True) [(hR, .inr (0, [.ref qB, .int (nI L), .ref hT, .int (nI ix)])), (qB, .inl (cI, 400, .inl (fun j => nI (a j)))), (hT, .inr (1, [.ref qT, .ref qL, .ref qR, .int (nI cnt)])), (qT, .inl (cJ, 1792, .inr (.inl fT))), (qL, .inl (cJ, 7, .inr (.inl fL))), (qR, .inl (cJ, 7, .inr (.inl fR)))])) (va_Qv (fun (u : Nat × (Nat → Int64)) => u.1 = tnx a L ix ∧ ∀ x k, k < 448 → lb u.2 (448 * x + k) = if k = cnt ∧ rbv a L ix ≤ x ∧ x ≤ thi a L ix then decide (tb ≠ 0) else lb fT (448 * x + k)) (fun (u : Nat × (Nat → Int64)) (t : State) => va_P (dC, dI) vwCl [(hR, .inr (0, [.ref qB, .int (nI L), .ref hT, .int (nI u.1)])), (qB, .inl (cI, 400, .inl (fun j => nI (a j)))), (hT, .inr (1, [.ref qT, .ref qL, .ref qR, .int (nI cnt)])), (qT, .inl (cJ, 1792, .inr (.inl u.2))), (qL, .inl (cJ, 7, .inr (.inl fL))), (qR, .inl (cJ, 7, .inr (.inl fR)))] t.heap ∧ va_K (dC, dI) vwCl [(cI, .int), (cJ, .long), (cZ, .boolean)] t ∧ va_D (va_A [(hR, .inr (0, [.ref qB, .int (nI L), .ref hT, .int (nI ix)])), (qB, .inl (cI, 400, .inl (fun j => nI (a j)))), (hT, .inr (1, [.ref qT, .ref qL, .ref qR, .int (nI cnt)])), (qT, .inl (cJ, 1792, .inr (.inl fT))), (qL, .inl (cJ, 7, .inr (.inl fL))), (qR, .inl (cJ, 7, .inr (.inl fR)))] sz) [(hR, .inr (0, [.ref qB, .int (nI L), .ref hT, .int (nI u.1)])), (qB, .inl (cI, 400, .inl (fun j => nI (a j)))), (hT, .inr (1, [.ref qT, .ref qL, .ref qR, .int (nI cnt)])), (qT, .inl (cJ, 1792, .inr (.inl u.2))), (qL, .inl (cJ, 7, .inr (.inl fL))), (qR, .inl (cJ, 7, .inr (.inl fR)))]) (va_A [(hR, .inr (0, [.ref qB, .int (nI L), .ref hT, .int (nI ix)])), (qB, .inl (cI, 400, .inl (fun j => nI (a j)))), (hT, .inr (1, [.ref qT, .ref qL, .ref qR, .int (nI cnt)])), (qT, .inl (cJ, 1792, .inr (.inl fT))), (qL, .inl (cJ, 7, .inr (.inl fL))), (qR, .inl (cJ, 7, .inr (.inl fR)))] sz)) 0 0 (va_A [(hR, .inr (0, [.ref qB, .int (nI L), .ref hT, .int (nI ix)])), (qB, .inl (cI, 400, .inl (fun j => nI (a j)))), (hT, .inr (1, [.ref qT, .ref qL, .ref qR, .int (nI cnt)])), (qT, .inl (cJ, 1792, .inr (.inl fT))), (qL, .inl (cJ, 7, .inr (.inl fL))), (qR, .inl (cJ, 7, .inr (.inl fR)))] sz) := by
  refine Met.ofW (cc := cX0_readTold) (maxL := 4) (ret := none) (by decide) rfl ?_
  intro p e s m args below meth c s₁ B hml hv
  obtain ⟨rfl, hsz, hP, hK, hD0⟩ := hv
  have hx := B.exec
  have hb := B.bytes
  have hr := B.returns
  have hts := atoms_spec (ws := wsX0_readTold) B.pre
  have hown : s.vm.findClass RX0 = some m.cls := findClass_of_methodNamed B.named
  have hlocks := B.notSynchronized
  subst hsz
  have hD := hD0.self (sz := s.heap.size)
  generalize hAe : va_A [(hR, .inr (0, [.ref qB, .int (nI L), .ref hT, .int (nI ix)])), (qB, .inl (cI, 400, .inl (fun j => nI (a j)))), (hT, .inr (1, [.ref qT, .ref qL, .ref qR, .int (nI cnt)])), (qT, .inl (cJ, 1792, .inr (.inl fT))), (qL, .inl (cJ, 7, .inr (.inl fL))), (qR, .inl (cJ, 7, .inr (.inl fR)))] s.heap.size = A at hD ⊢
  have hA : ∀ q : Nat, s.heap.size ≤ q → A q := fun q h => by rw [← hAe]; exact Or.inr h
  have hS : va_S A s.heap s.heap [] := va_S.rf
  have hP : va_P (dC, dI) vwCl [(hR, .inr (0, [.ref qB, .int (nI L), .ref hT, .int (nI ix)])), (qB, .inl (cI, 400, .inl (fun j => nI (a j)))), (hT, .inr (1, [.ref qT, .ref qL, .ref qR, .int (nI cnt)])), (qT, .inl (cJ, 1792, .inr (.inl fT))), (qL, .inl (cJ, 7, .inr (.inl fL))), (qR, .inl (cJ, 7, .inr (.inl fR)))] s.heap := hP
  have hl := lv_entry ([.ref hR, .int (nI tb)]) (n := 4) (Nat.le_of_ble_eq_true rfl)
  rw [lg_entry_eq]
  generalize (lg_sl ([.ref hR, .int (nI tb)]) ++ List.replicate (4 - (lg_sl ([.ref hR, .int (nI tb)])).length) Slot.unset).toArray = ls at hl ⊢
  have hl : lv_has ls 4 [(0, .ref hR), (1, .int (nI tb))] := hl
  skip
  refine lv_aload_n hx hb dX0_readTold_0 rfl (lv_at hl 0 rfl) ?_
  have hPc := hP.sub (ws' := [(hR, .inr (0, [.ref qB, .int (nI L), .ref hT, .int (nI ix)])), (qB, .inl (cI, 400, .inl (fun j => nI (a j))))]) [0, 1] rfl
  have hDc := hD.sub (ws' := [(hR, .inr (0, [.ref qB, .int (nI L), .ref hT, .int (nI ix)])), (qB, .inl (cI, 400, .inl (fun j => nI (a j))))]) [0, 1] (by decide) rfl
  have hFc := va_free (wc := [(hR, .inr (0, [.ref qB, .int (nI L), .ref hT, .int (nI ix)])), (qB, .inl (cI, 400, .inl (fun j => nI (a j))))]) hD hS hA [0, 1] rfl
  refine va_calli (va_runV (As := []) (rest := []) ⟨hx, hb, hml, hown, hts⟩ (c_X0_readByte l dC dI cI cJ cZ hR qB hT s.heap.size L ix a hL ha hat) (cwV 0 hts gX0_readTold_X0_readByte rfl rfl rfl (by decide +kernel) ⟨Nat.le_of_ble_eq_true rfl, Nat.le_of_ble_eq_true rfl⟩) ⟨fun a U g mk q => by obtain ⟨q0, q1, qP, qK, qD⟩ := q; exact ⟨q0, q1, qP, va_K.moved (u := U) (U := U.calling g mk a) (Vm.Alike.refl U.vm) qK, qD⟩, va_recv hK hPc (ci := 0) (q0 := 0) rfl rfl, fun U hU hW => ⟨rfl, by rw [hU], by rw [hU]; exact hPc, va_K.moved hW.alike hK, hDc.weaken (fun _ _ _ _ => trivial)⟩⟩ rfl rfl hl.1 rfl (lv_room (Nat.le_of_ble_eq_true rfl)) dX0_readTold_1 ⟨show 0 + 0 ≤ 0 from by decide, show 0 + 0 ≤ 0 from by decide⟩) hS (fun q _ h => hFc q h) hFc (fun r1 u t H1 locs ht hvm hw1 hB hz1 hk1 hS => ?_)
  obtain ⟨ix21, rfl⟩ : ∃ z, z = u := ⟨_, rfl⟩
  obtain ⟨hP1, hK1, hD1⟩ := hB
  rw [ht] at hP1
  try dsimp only at hw1 hP1 hD1
  obtain ⟨hP, hD⟩ := va_join (wr := [(hT, .inr (1, [.ref qT, .ref qL, .ref qR, .int (nI cnt)])), (qT, .inl (cJ, 1792, .inr (.inl fT))), (qL, .inl (cJ, 7, .inr (.inl fL))), (qR, .inl (cJ, 7, .inr (.inl fR)))]) (w1 := [(hR, .inr (0, [.ref qB, .int (nI L), .ref hT, .int (nI ix21)])), (qB, .inl (cI, 400, .inl (fun j => nI (a j))))]) hP hD [0, 1] [2, 3, 4, 5] rfl rfl (by decide) (by decide) hk1 hFc hP1 hD1
  generalize H1 = H at hP hS ⊢
  have hP : va_P (dC, dI) vwCl [(hT, .inr (1, [.ref qT, .ref qL, .ref qR, .int (nI cnt)])), (qT, .inl (cJ, 1792, .inr (.inl fT))), (qL, .inl (cJ, 7, .inr (.inl fL))), (qR, .inl (cJ, 7, .inr (.inl fR))), (hR, .inr (0, [.ref qB, .int (nI L), .ref hT, .int (nI ix21)])), (qB, .inl (cI, 400, .inl (fun j => nI (a j))))] H := hP
  have hD : va_D A [(hT, .inr (1, [.ref qT, .ref qL, .ref qR, .int (nI cnt)])), (qT, .inl (cJ, 1792, .inr (.inl fT))), (qL, .inl (cJ, 7, .inr (.inl fL))), (qR, .inl (cJ, 7, .inr (.inl fR))), (hR, .inr (0, [.ref qB, .int (nI L), .ref hT, .int (nI ix21)])), (qB, .inl (cI, 400, .inl (fun j => nI (a j))))] := hD
  obtain ⟨rfl, hr1⟩ := hw1
  refine wl_asi (y := nI (rbv a L ix)) (hr1) ?_
  have h7 := rbn_le a hat
  have h6 := rbv_lt ha hat
  refine lv_istore_n (lv' := [(2, .int (nI (rbv a L ix))), (0, .ref hR), (1, .int (nI tb))]) hx hb dX0_readTold_4 rfl hl (by decide) rfl (fun ls hl => ?_)
  refine lv_iload_n hx hb dX0_readTold_5 rfl (lv_at hl 0 rfl) ?_
  refine lv_istore_n (lv' := [(3, .int (nI (rbv a L ix))), (2, .int (nI (rbv a L ix))), (0, .ref hR), (1, .int (nI tb))]) hx hb dX0_readTold_6 rfl hl (by decide) rfl (fun ls hl => ?_)
  refine lv_aload_n hx hb dX0_readTold_7 rfl (lv_at hl 2 rfl) ?_
  refine lv_aload_n hx hb dX0_readTold_8 rfl (lv_at hl 2 rfl) ?_
  refine va_get (D := (dC, dI)) (ci := 0) (v := .int (nI (rbn a L ix))) (C := RX0) (T := TX0) (N := 4) hx hb hts (by decide +kernel) hown hK hP 4 rfl rfl 3 (by decide) (hts (.fieldLink RX0 23 "WildCards$Reader" "at" "I") (by decide +kernel)) (fun _ h9 => h9) rfl dX0_readTold_9 ?_
  have hPc := hP.sub (ws' := [(hR, .inr (0, [.ref qB, .int (nI L), .ref hT, .int (nI (rbn a L ix))])), (qB, .inl (cI, 400, .inl (fun j => nI (a j))))]) [4, 5] rfl
  have hDc := hD.sub (ws' := [(hR, .inr (0, [.ref qB, .int (nI L), .ref hT, .int (nI (rbn a L ix))])), (qB, .inl (cI, 400, .inl (fun j => nI (a j))))]) [4, 5] (by decide) rfl
  have hFc := va_free (wc := [(hR, .inr (0, [.ref qB, .int (nI L), .ref hT, .int (nI (rbn a L ix))])), (qB, .inl (cI, 400, .inl (fun j => nI (a j))))]) hD hS hA [4, 5] rfl
  refine va_calli (va_runV (As := [.int (nI (rbn a L ix))]) (rest := []) ⟨hx, hb, hml, hown, hts⟩ (c_X0_byteAt l dC dI cI cJ cZ hR qB hT H.size L (rbn a L ix) a (rbn a L ix) hL (by omega)) (cwV 1 hts gX0_readTold_X0_byteAt rfl rfl rfl (by decide +kernel) ⟨Nat.le_of_ble_eq_true rfl, Nat.le_of_ble_eq_true rfl⟩) ⟨fun a U g mk q => by obtain ⟨q0, q1, qP, qK, qD⟩ := q; exact ⟨q0, q1, qP, va_K.moved (u := U) (U := U.calling g mk a) (Vm.Alike.refl U.vm) qK, qD⟩, va_recv hK hPc (ci := 0) (q0 := 0) rfl rfl, fun U hU hW => ⟨rfl, by rw [hU], by rw [hU]; exact hPc, va_K.moved hW.alike hK, hDc.weaken (fun _ _ _ _ => trivial)⟩⟩ rfl rfl hl.1 rfl (lv_room (Nat.le_of_ble_eq_true rfl)) dX0_readTold_12 ⟨show 0 + 0 + 0 ≤ 0 from by decide, show 0 + 0 + 0 ≤ 0 from by decide⟩) hS (fun q _ h => hFc q h) hFc (fun r12 u t H1 locs ht hvm hw12 hB hz1 hk1 hS => ?_)
  obtain ⟨hP1, hK1, hD1⟩ := hB
  rw [ht] at hP1
  try dsimp only at hw12 hP1 hD1
  obtain ⟨hP, hD⟩ := va_join (wr := [(hT, .inr (1, [.ref qT, .ref qL, .ref qR, .int (nI cnt)])), (qT, .inl (cJ, 1792, .inr (.inl fT))), (qL, .inl (cJ, 7, .inr (.inl fL))), (qR, .inl (cJ, 7, .inr (.inl fR)))]) (w1 := [(hR, .inr (0, [.ref qB, .int (nI L), .ref hT, .int (nI (rbn a L ix))])), (qB, .inl (cI, 400, .inl (fun j => nI (a j))))]) hP hD [4, 5] [0, 1, 2, 3] rfl rfl (by decide) (by decide) hk1 hFc hP1 hD1
  generalize H1 = H at hP hS ⊢
  have hP : va_P (dC, dI) vwCl [(hT, .inr (1, [.ref qT, .ref qL, .ref qR, .int (nI cnt)])), (qT, .inl (cJ, 1792, .inr (.inl fT))), (qL, .inl (cJ, 7, .inr (.inl fL))), (qR, .inl (cJ, 7, .inr (.inl fR))), (hR, .inr (0, [.ref qB, .int (nI L), .ref hT, .int (nI (rbn a L ix))])), (qB, .inl (cI, 400, .inl (fun j => nI (a j))))] H := hP
  have hD : va_D A [(hT, .inr (1, [.ref qT, .ref qL, .ref qR, .int (nI cnt)])), (qT, .inl (cJ, 1792, .inr (.inl fT))), (qL, .inl (cJ, 7, .inr (.inl fL))), (qR, .inl (cJ, 7, .inr (.inl fR))), (hR, .inr (0, [.ref qB, .int (nI L), .ref hT, .int (nI (rbn a L ix))])), (qB, .inl (cI, 400, .inl (fun j => nI (a j))))] := hD
  by_cases hp2 : rbn a L ix < L
  · skip
    have h8 := ha _ hp2
    refine wl_asi (y := nI (a (rbn a L ix))) (by rw [hw12, if_pos hp2]) ?_
    refine lv_bipush (v := nI 45) hx hb dX0_readTold_15 (by decide) ?_
    refine wl_icmp_ne (tgt := 48) hx hb dX0_readTold_17 (by decide) (by omega) (by omega) (fun c17 => ?_) (fun c17 => ?_)
    · skip
      refine lv_aload_n hx hb dX0_readTold_48 rfl (lv_at hl 2 rfl) ?_
      refine va_get (D := (dC, dI)) (ci := 0) (v := .ref hT) (C := RX0) (T := TX0) (N := 4) hx hb hts (by decide +kernel) hown hK hP 4 rfl rfl 2 (by decide) (hts (.fieldLink RX0 19 "WildCards$Reader" "things" "LWildCards$Things;") (by decide +kernel)) (fun _ h9 => h9) rfl dX0_readTold_49 ?_
      refine lv_iload_n hx hb dX0_readTold_52 rfl (lv_at hl 1 rfl) ?_
      refine lv_iload_n hx hb dX0_readTold_53 rfl (lv_at hl 0 rfl) ?_
      refine lv_iload_n hx hb dX0_readTold_54 rfl (lv_at hl 3 rfl) ?_
      have hPc := hP.sub (ws' := [(hT, .inr (1, [.ref qT, .ref qL, .ref qR, .int (nI cnt)])), (qT, .inl (cJ, 1792, .inr (.inl fT))), (qL, .inl (cJ, 7, .inr (.inl fL))), (qR, .inl (cJ, 7, .inr (.inl fR)))]) [0, 1, 2, 3] rfl
      have hDc := hD.sub (ws' := [(hT, .inr (1, [.ref qT, .ref qL, .ref qR, .int (nI cnt)])), (qT, .inl (cJ, 1792, .inr (.inl fT))), (qL, .inl (cJ, 7, .inr (.inl fL))), (qR, .inl (cJ, 7, .inr (.inl fR)))]) [0, 1, 2, 3] (by decide) rfl
      have hFc := va_free (wc := [(hT, .inr (1, [.ref qT, .ref qL, .ref qR, .int (nI cnt)])), (qT, .inl (cJ, 1792, .inr (.inl fT))), (qL, .inl (cJ, 7, .inr (.inl fL))), (qR, .inl (cJ, 7, .inr (.inl fR)))]) hD hS hA [0, 1, 2, 3] rfl
      refine va_callv (va_runV (As := [.int (nI (rbv a L ix)), .int (nI (rbv a L ix)), .int (nI tb)]) (rest := []) ⟨hx, hb, hml, hown, hts⟩ (c_X1_tell l dC dI cI cJ cZ hT qT qL qR H.size cnt fT fL fR (rbv a L ix) (rbv a L ix) tb (by omega) (by omega) (by omega) (by omega)) (cwV 3 hts gX0_readTold_X1_tell rfl rfl rfl (by decide +kernel) ⟨Nat.le_of_ble_eq_true rfl, Nat.le_of_ble_eq_true rfl⟩) ⟨fun a U g mk q => by obtain ⟨q0, q1, qP, qK, qD⟩ := q; exact ⟨q0, q1, qP, va_K.moved (u := U) (U := U.calling g mk a) (Vm.Alike.refl U.vm) qK, qD⟩, va_recv hK hPc (ci := 1) (q0 := 0) rfl rfl, fun U hU hW => ⟨rfl, by rw [hU], by rw [hU]; exact hPc, va_K.moved hW.alike hK, hDc.weaken (fun _ _ _ _ => trivial)⟩⟩ rfl rfl hl.1 rfl (lv_room (Nat.le_of_ble_eq_true rfl)) dX0_readTold_55 ⟨show 0 + 0 + 0 + 0 ≤ 0 from by decide, show 0 + 0 + 0 + 0 ≤ 0 from by decide⟩) hS (fun q _ h => hFc q h) hFc (fun u t H1 locs ht hvm hw55 hB hz1 hk1 hS => ?_)
      obtain ⟨fT255, rfl⟩ : ∃ z, z = u := ⟨_, rfl⟩
      obtain ⟨hP1, hK1, hD1⟩ := hB
      rw [ht] at hP1
      try dsimp only at hw55 hP1 hD1
      obtain ⟨hP, hD⟩ := va_join (wr := [(hR, .inr (0, [.ref qB, .int (nI L), .ref hT, .int (nI (rbn a L ix))])), (qB, .inl (cI, 400, .inl (fun j => nI (a j))))]) (w1 := [(hT, .inr (1, [.ref qT, .ref qL, .ref qR, .int (nI cnt)])), (qT, .inl (cJ, 1792, .inr (.inl fT255))), (qL, .inl (cJ, 7, .inr (.inl fL))), (qR, .inl (cJ, 7, .inr (.inl fR)))]) hP hD [0, 1, 2, 3] [4, 5] rfl rfl (by decide) (by decide) hk1 hFc hP1 hD1
      generalize H1 = H at hP hS ⊢
      have hP : va_P (dC, dI) vwCl [(hR, .inr (0, [.ref qB, .int (nI L), .ref hT, .int (nI (rbn a L ix))])), (qB, .inl (cI, 400, .inl (fun j => nI (a j)))), (hT, .inr (1, [.ref qT, .ref qL, .ref qR, .int (nI cnt)])), (qT, .inl (cJ, 1792, .inr (.inl fT255))), (qL, .inl (cJ, 7, .inr (.inl fL))), (qR, .inl (cJ, 7, .inr (.inl fR)))] H := hP
      have hD : va_D A [(hR, .inr (0, [.ref qB, .int (nI L), .ref hT, .int (nI (rbn a L ix))])), (qB, .inl (cI, 400, .inl (fun j => nI (a j)))), (hT, .inr (1, [.ref qT, .ref qL, .ref qR, .int (nI cnt)])), (qT, .inl (cJ, 1792, .inr (.inl fT255))), (qL, .inl (cJ, 7, .inr (.inl fL))), (qR, .inl (cJ, 7, .inr (.inl fR)))] := hD
      have hP9 := hP.sub (ws' := [(hR, .inr (0, [.ref qB, .int (nI L), .ref hT, .int (nI (rbn a L ix))])), (qB, .inl (cI, 400, .inl (fun j => nI (a j)))), (hT, .inr (1, [.ref qT, .ref qL, .ref qR, .int (nI cnt)])), (qT, .inl (cJ, 1792, .inr (.inl fT255))), (qL, .inl (cJ, 7, .inr (.inl fL))), (qR, .inl (cJ, 7, .inr (.inl fR)))]) [0, 1, 2, 3, 4, 5] rfl
      have hD9 := hD.sub (ws' := [(hR, .inr (0, [.ref qB, .int (nI L), .ref hT, .int (nI (rbn a L ix))])), (qB, .inl (cI, 400, .inl (fun j => nI (a j)))), (hT, .inr (1, [.ref qT, .ref qL, .ref qR, .int (nI cnt)])), (qT, .inl (cJ, 1792, .inr (.inl fT255))), (qL, .inl (cJ, 7, .inr (.inl fL))), (qR, .inl (cJ, 7, .inr (.inl fR)))]) [0, 1, 2, 3, 4, 5] (by decide) rfl
      exact W.vret hx hb hr (fun t ht hW => ⟨⟨(rbn a L ix, fT255), rfl, (show (rbn a L ix) = tnx a L ix ∧ ∀ x k, k < 448 → lb fT255 (448 * x + k) = if k = cnt ∧ rbv a L ix ≤ x ∧ x ≤ thi a L ix then decide (tb ≠ 0) else lb fT (448 * x + k) from ⟨(tn_0 (rng_b c17)).1, by rw [(tn_0 (rng_b c17)).2]; exact hw55⟩), by rw [ht]; exact hP9, va_K.moved hW.alike hK, hD9⟩, hS.F ht⟩) hS.2.2 dX0_readTold_58
    · skip
      refine lv_aload_n hx hb dX0_readTold_20 rfl (lv_at hl 2 rfl) ?_
      refine lv_aload_n hx hb dX0_readTold_21 rfl (lv_at hl 2 rfl) ?_
      refine va_get (D := (dC, dI)) (ci := 0) (v := .int (nI (rbn a L ix))) (C := RX0) (T := TX0) (N := 4) hx hb hts (by decide +kernel) hown hK hP 4 rfl rfl 3 (by decide) (hts (.fieldLink RX0 23 "WildCards$Reader" "at" "I") (by decide +kernel)) (fun _ h9 => h9) rfl dX0_readTold_22 ?_
      refine lv_iconst (v := nI 1) hx hb dX0_readTold_25 (by decide) ?_
      refine lv_iadd hx hb dX0_readTold_26 ?_
      refine wl_asi (y := nI ((rbn a L ix) + 1)) (nI_add _ _) ?_
      have hPc := hP.sub (ws' := [(hR, .inr (0, [.ref qB, .int (nI L), .ref hT, .int (nI (rbn a L ix))])), (qB, .inl (cI, 400, .inl (fun j => nI (a j))))]) [4, 5] rfl
      have hDc := hD.sub (ws' := [(hR, .inr (0, [.ref qB, .int (nI L), .ref hT, .int (nI (rbn a L ix))])), (qB, .inl (cI, 400, .inl (fun j => nI (a j))))]) [4, 5] (by decide) rfl
      have hFc := va_free (wc := [(hR, .inr (0, [.ref qB, .int (nI L), .ref hT, .int (nI (rbn a L ix))])), (qB, .inl (cI, 400, .inl (fun j => nI (a j))))]) hD hS hA [4, 5] rfl
      refine va_calli (va_runV (As := [.int (nI ((rbn a L ix) + 1))]) (rest := []) ⟨hx, hb, hml, hown, hts⟩ (c_X0_bracketsEndAt l dC dI cI cJ cZ hR qB hT H.size L (rbn a L ix) a ((rbn a L ix) + 1) hL ha (by omega)) (cwV 1 hts gX0_readTold_X0_bracketsEndAt rfl rfl rfl (by decide +kernel) ⟨Nat.le_of_ble_eq_true rfl, Nat.le_of_ble_eq_true rfl⟩) ⟨fun a U g mk q => by obtain ⟨q0, q1, qP, qK, qD⟩ := q; exact ⟨q0, q1, qP, va_K.moved (u := U) (U := U.calling g mk a) (Vm.Alike.refl U.vm) qK, qD⟩, va_recv hK hPc (ci := 0) (q0 := 0) rfl rfl, fun U hU hW => ⟨rfl, by rw [hU], by rw [hU]; exact hPc, va_K.moved hW.alike hK, hDc.weaken (fun _ _ _ _ => trivial)⟩⟩ rfl rfl hl.1 rfl (lv_room (Nat.le_of_ble_eq_true rfl)) dX0_readTold_27 ⟨show 0 + 0 + 0 + 0 ≤ 0 from by decide, show 0 + 0 + 0 + 0 ≤ 0 from by decide⟩) hS (fun q _ h => hFc q h) hFc (fun r27 u t H1 locs ht hvm hw27 hB hz1 hk1 hS => ?_)
      obtain ⟨hP1, hK1, hD1⟩ := hB
      rw [ht] at hP1
      try dsimp only at hw27 hP1 hD1
      obtain ⟨hP, hD⟩ := va_join (wr := [(hT, .inr (1, [.ref qT, .ref qL, .ref qR, .int (nI cnt)])), (qT, .inl (cJ, 1792, .inr (.inl fT))), (qL, .inl (cJ, 7, .inr (.inl fL))), (qR, .inl (cJ, 7, .inr (.inl fR)))]) (w1 := [(hR, .inr (0, [.ref qB, .int (nI L), .ref hT, .int (nI (rbn a L ix))])), (qB, .inl (cI, 400, .inl (fun j => nI (a j))))]) hP hD [4, 5] [0, 1, 2, 3] rfl rfl (by decide) (by decide) hk1 hFc hP1 hD1
      generalize H1 = H at hP hS ⊢
      have hP : va_P (dC, dI) vwCl [(hT, .inr (1, [.ref qT, .ref qL, .ref qR, .int (nI cnt)])), (qT, .inl (cJ, 1792, .inr (.inl fT))), (qL, .inl (cJ, 7, .inr (.inl fL))), (qR, .inl (cJ, 7, .inr (.inl fR))), (hR, .inr (0, [.ref qB, .int (nI L), .ref hT, .int (nI (rbn a L ix))])), (qB, .inl (cI, 400, .inl (fun j => nI (a j))))] H := hP
      have hD : va_D A [(hT, .inr (1, [.ref qT, .ref qL, .ref qR, .int (nI cnt)])), (qT, .inl (cJ, 1792, .inr (.inl fT))), (qL, .inl (cJ, 7, .inr (.inl fL))), (qR, .inl (cJ, 7, .inr (.inl fR))), (hR, .inr (0, [.ref qB, .int (nI L), .ref hT, .int (nI (rbn a L ix))])), (qB, .inl (cI, 400, .inl (fun j => nI (a j))))] := hD
      by_cases hb2 : bnd a L (rbn a L ix + 1) = true
      · skip
        refine wl_asi (y := nI 1) (by rw [hw27, if_pos hb2]; rfl) ?_
        refine lv_if_ne (tgt := 48) hx hb dX0_readTold_30 (by decide) (fun c30 => ?_) (fun c30 => ?_)
        rotate_left
        · first | exact absurd c30 (by decide) | exact absurd (by decide) c30
        · skip
          refine lv_aload_n hx hb dX0_readTold_48 rfl (lv_at hl 2 rfl) ?_
          refine va_get (D := (dC, dI)) (ci := 0) (v := .ref hT) (C := RX0) (T := TX0) (N := 4) hx hb hts (by decide +kernel) hown hK hP 4 rfl rfl 2 (by decide) (hts (.fieldLink RX0 19 "WildCards$Reader" "things" "LWildCards$Things;") (by decide +kernel)) (fun _ h9 => h9) rfl dX0_readTold_49 ?_
          refine lv_iload_n hx hb dX0_readTold_52 rfl (lv_at hl 1 rfl) ?_
          refine lv_iload_n hx hb dX0_readTold_53 rfl (lv_at hl 0 rfl) ?_
          refine lv_iload_n hx hb dX0_readTold_54 rfl (lv_at hl 3 rfl) ?_
          have hPc := hP.sub (ws' := [(hT, .inr (1, [.ref qT, .ref qL, .ref qR, .int (nI cnt)])), (qT, .inl (cJ, 1792, .inr (.inl fT))), (qL, .inl (cJ, 7, .inr (.inl fL))), (qR, .inl (cJ, 7, .inr (.inl fR)))]) [0, 1, 2, 3] rfl
          have hDc := hD.sub (ws' := [(hT, .inr (1, [.ref qT, .ref qL, .ref qR, .int (nI cnt)])), (qT, .inl (cJ, 1792, .inr (.inl fT))), (qL, .inl (cJ, 7, .inr (.inl fL))), (qR, .inl (cJ, 7, .inr (.inl fR)))]) [0, 1, 2, 3] (by decide) rfl
          have hFc := va_free (wc := [(hT, .inr (1, [.ref qT, .ref qL, .ref qR, .int (nI cnt)])), (qT, .inl (cJ, 1792, .inr (.inl fT))), (qL, .inl (cJ, 7, .inr (.inl fL))), (qR, .inl (cJ, 7, .inr (.inl fR)))]) hD hS hA [0, 1, 2, 3] rfl
          refine va_callv (va_runV (As := [.int (nI (rbv a L ix)), .int (nI (rbv a L ix)), .int (nI tb)]) (rest := []) ⟨hx, hb, hml, hown, hts⟩ (c_X1_tell l dC dI cI cJ cZ hT qT qL qR H.size cnt fT fL fR (rbv a L ix) (rbv a L ix) tb (by omega) (by omega) (by omega) (by omega)) (cwV 3 hts gX0_readTold_X1_tell rfl rfl rfl (by decide +kernel) ⟨Nat.le_of_ble_eq_true rfl, Nat.le_of_ble_eq_true rfl⟩) ⟨fun a U g mk q => by obtain ⟨q0, q1, qP, qK, qD⟩ := q; exact ⟨q0, q1, qP, va_K.moved (u := U) (U := U.calling g mk a) (Vm.Alike.refl U.vm) qK, qD⟩, va_recv hK hPc (ci := 1) (q0 := 0) rfl rfl, fun U hU hW => ⟨rfl, by rw [hU], by rw [hU]; exact hPc, va_K.moved hW.alike hK, hDc.weaken (fun _ _ _ _ => trivial)⟩⟩ rfl rfl hl.1 rfl (lv_room (Nat.le_of_ble_eq_true rfl)) dX0_readTold_55 ⟨show 0 + 0 + 0 + 0 + 0 ≤ 0 from by decide, show 0 + 0 + 0 + 0 + 0 ≤ 0 from by decide⟩) hS (fun q _ h => hFc q h) hFc (fun u t H1 locs ht hvm hw55 hB hz1 hk1 hS => ?_)
          obtain ⟨fT255, rfl⟩ : ∃ z, z = u := ⟨_, rfl⟩
          obtain ⟨hP1, hK1, hD1⟩ := hB
          rw [ht] at hP1
          try dsimp only at hw55 hP1 hD1
          obtain ⟨hP, hD⟩ := va_join (wr := [(hR, .inr (0, [.ref qB, .int (nI L), .ref hT, .int (nI (rbn a L ix))])), (qB, .inl (cI, 400, .inl (fun j => nI (a j))))]) (w1 := [(hT, .inr (1, [.ref qT, .ref qL, .ref qR, .int (nI cnt)])), (qT, .inl (cJ, 1792, .inr (.inl fT255))), (qL, .inl (cJ, 7, .inr (.inl fL))), (qR, .inl (cJ, 7, .inr (.inl fR)))]) hP hD [0, 1, 2, 3] [4, 5] rfl rfl (by decide) (by decide) hk1 hFc hP1 hD1
          generalize H1 = H at hP hS ⊢
          have hP : va_P (dC, dI) vwCl [(hR, .inr (0, [.ref qB, .int (nI L), .ref hT, .int (nI (rbn a L ix))])), (qB, .inl (cI, 400, .inl (fun j => nI (a j)))), (hT, .inr (1, [.ref qT, .ref qL, .ref qR, .int (nI cnt)])), (qT, .inl (cJ, 1792, .inr (.inl fT255))), (qL, .inl (cJ, 7, .inr (.inl fL))), (qR, .inl (cJ, 7, .inr (.inl fR)))] H := hP
          have hD : va_D A [(hR, .inr (0, [.ref qB, .int (nI L), .ref hT, .int (nI (rbn a L ix))])), (qB, .inl (cI, 400, .inl (fun j => nI (a j)))), (hT, .inr (1, [.ref qT, .ref qL, .ref qR, .int (nI cnt)])), (qT, .inl (cJ, 1792, .inr (.inl fT255))), (qL, .inl (cJ, 7, .inr (.inl fL))), (qR, .inl (cJ, 7, .inr (.inl fR)))] := hD
          have hP9 := hP.sub (ws' := [(hR, .inr (0, [.ref qB, .int (nI L), .ref hT, .int (nI (rbn a L ix))])), (qB, .inl (cI, 400, .inl (fun j => nI (a j)))), (hT, .inr (1, [.ref qT, .ref qL, .ref qR, .int (nI cnt)])), (qT, .inl (cJ, 1792, .inr (.inl fT255))), (qL, .inl (cJ, 7, .inr (.inl fL))), (qR, .inl (cJ, 7, .inr (.inl fR)))]) [0, 1, 2, 3, 4, 5] rfl
          have hD9 := hD.sub (ws' := [(hR, .inr (0, [.ref qB, .int (nI L), .ref hT, .int (nI (rbn a L ix))])), (qB, .inl (cI, 400, .inl (fun j => nI (a j)))), (hT, .inr (1, [.ref qT, .ref qL, .ref qR, .int (nI cnt)])), (qT, .inl (cJ, 1792, .inr (.inl fT255))), (qL, .inl (cJ, 7, .inr (.inl fL))), (qR, .inl (cJ, 7, .inr (.inl fR)))]) [0, 1, 2, 3, 4, 5] (by decide) rfl
          exact W.vret hx hb hr (fun t ht hW => ⟨⟨(rbn a L ix, fT255), rfl, (show (rbn a L ix) = tnx a L ix ∧ ∀ x k, k < 448 → lb fT255 (448 * x + k) = if k = cnt ∧ rbv a L ix ≤ x ∧ x ≤ thi a L ix then decide (tb ≠ 0) else lb fT (448 * x + k) from ⟨(tn_0 (rng_c hb2)).1, by rw [(tn_0 (rng_c hb2)).2]; exact hw55⟩), by rw [ht]; exact hP9, va_K.moved hW.alike hK, hD9⟩, hS.F ht⟩) hS.2.2 dX0_readTold_58
      · skip
        refine wl_asi (y := nI 0) (by rw [hw27, if_neg hb2]; rfl) ?_
        have h3 := (bnd_f hb2).1
        refine lv_if_ne (tgt := 48) hx hb dX0_readTold_30 (by decide) (fun c30 => ?_) (fun c30 => ?_)
        · first | exact absurd c30 (by decide) | exact absurd (by decide) c30
        · skip
          refine lv_aload_n hx hb dX0_readTold_33 rfl (lv_at hl 2 rfl) ?_
          refine lv_dup hx hb dX0_readTold_34 rfl ?_
          refine va_get (D := (dC, dI)) (ci := 0) (v := .int (nI (rbn a L ix))) (C := RX0) (T := TX0) (N := 4) hx hb hts (by decide +kernel) hown hK hP 4 rfl rfl 3 (by decide) (hts (.fieldLink RX0 23 "WildCards$Reader" "at" "I") (by decide +kernel)) (fun _ h9 => h9) rfl dX0_readTold_35 ?_
          refine lv_iconst (v := nI 1) hx hb dX0_readTold_38 (by decide) ?_
          refine lv_iadd hx hb dX0_readTold_39 ?_
          refine wl_asi (y := nI ((rbn a L ix) + 1)) (nI_add _ _) ?_
          refine va_put (D := (dC, dI)) (ci := 0) (v := .int (nI ((rbn a L ix) + 1))) (ty := .int) (C := RX0) (T := TX0) (N := 4) hx hb hts (by decide +kernel) tyX0 tyX0_ok nmX0 hown hK hP hD hS 4 rfl rfl 3 (by decide) (hts (.fieldLink RX0 23 "WildCards$Reader" "at" "I") (by decide +kernel)) (fun _ h9 => h9) rfl (by decide +kernel) rfl rfl (Nat.le_of_ble_eq_true rfl) dX0_readTold_40 (fun H locs hP hD hS => ?_)
          have hP : va_P (dC, dI) vwCl [(hT, .inr (1, [.ref qT, .ref qL, .ref qR, .int (nI cnt)])), (qT, .inl (cJ, 1792, .inr (.inl fT))), (qL, .inl (cJ, 7, .inr (.inl fL))), (qR, .inl (cJ, 7, .inr (.inl fR))), (hR, .inr (0, [.ref qB, .int (nI L), .ref hT, .int (nI ((rbn a L ix) + 1))])), (qB, .inl (cI, 400, .inl (fun j => nI (a j))))] H := hP
          have hD : va_D A [(hT, .inr (1, [.ref qT, .ref qL, .ref qR, .int (nI cnt)])), (qT, .inl (cJ, 1792, .inr (.inl fT))), (qL, .inl (cJ, 7, .inr (.inl fL))), (qR, .inl (cJ, 7, .inr (.inl fR))), (hR, .inr (0, [.ref qB, .int (nI L), .ref hT, .int (nI ((rbn a L ix) + 1))])), (qB, .inl (cI, 400, .inl (fun j => nI (a j))))] := hD
          refine lv_aload_n hx hb dX0_readTold_43 rfl (lv_at hl 2 rfl) ?_
          have hPc := hP.sub (ws' := [(hR, .inr (0, [.ref qB, .int (nI L), .ref hT, .int (nI ((rbn a L ix) + 1))])), (qB, .inl (cI, 400, .inl (fun j => nI (a j))))]) [4, 5] rfl
          have hDc := hD.sub (ws' := [(hR, .inr (0, [.ref qB, .int (nI L), .ref hT, .int (nI ((rbn a L ix) + 1))])), (qB, .inl (cI, 400, .inl (fun j => nI (a j))))]) [4, 5] (by decide) rfl
          have hFc := va_free (wc := [(hR, .inr (0, [.ref qB, .int (nI L), .ref hT, .int (nI ((rbn a L ix) + 1))])), (qB, .inl (cI, 400, .inl (fun j => nI (a j))))]) hD hS hA [4, 5] rfl
          refine va_calli (va_runV (As := []) (rest := []) ⟨hx, hb, hml, hown, hts⟩ (c_X0_readByte l dC dI cI cJ cZ hR qB hT H.size L ((rbn a L ix) + 1) a hL ha h3) (cwV 0 hts gX0_readTold_X0_readByte rfl rfl rfl (by decide +kernel) ⟨Nat.le_of_ble_eq_true rfl, Nat.le_of_ble_eq_true rfl⟩) ⟨fun a U g mk q => by obtain ⟨q0, q1, qP, qK, qD⟩ := q; exact ⟨q0, q1, qP, va_K.moved (u := U) (U := U.calling g mk a) (Vm.Alike.refl U.vm) qK, qD⟩, va_recv hK hPc (ci := 0) (q0 := 0) rfl rfl, fun U hU hW => ⟨rfl, by rw [hU], by rw [hU]; exact hPc, va_K.moved hW.alike hK, hDc.weaken (fun _ _ _ _ => trivial)⟩⟩ rfl rfl hl.1 rfl (lv_room (Nat.le_of_ble_eq_true rfl)) dX0_readTold_44 ⟨show 0 + 0 + 0 + 0 + 0 ≤ 0 from by decide, show 0 + 0 + 0 + 0 + 0 ≤ 0 from by decide⟩) hS (fun q _ h => hFc q h) hFc (fun r44 u t H1 locs ht hvm hw44 hB hz1 hk1 hS => ?_)
          obtain ⟨ix244, rfl⟩ : ∃ z, z = u := ⟨_, rfl⟩
          obtain ⟨hP1, hK1, hD1⟩ := hB
          rw [ht] at hP1
          try dsimp only at hw44 hP1 hD1
          obtain ⟨hP, hD⟩ := va_join (wr := [(hT, .inr (1, [.ref qT, .ref qL, .ref qR, .int (nI cnt)])), (qT, .inl (cJ, 1792, .inr (.inl fT))), (qL, .inl (cJ, 7, .inr (.inl fL))), (qR, .inl (cJ, 7, .inr (.inl fR)))]) (w1 := [(hR, .inr (0, [.ref qB, .int (nI L), .ref hT, .int (nI ix244)])), (qB, .inl (cI, 400, .inl (fun j => nI (a j))))]) hP hD [4, 5] [0, 1, 2, 3] rfl rfl (by decide) (by decide) hk1 hFc hP1 hD1
          generalize H1 = H at hP hS ⊢
          have hP : va_P (dC, dI) vwCl [(hT, .inr (1, [.ref qT, .ref qL, .ref qR, .int (nI cnt)])), (qT, .inl (cJ, 1792, .inr (.inl fT))), (qL, .inl (cJ, 7, .inr (.inl fL))), (qR, .inl (cJ, 7, .inr (.inl fR))), (hR, .inr (0, [.ref qB, .int (nI L), .ref hT, .int (nI ix244)])), (qB, .inl (cI, 400, .inl (fun j => nI (a j))))] H := hP
          have hD : va_D A [(hT, .inr (1, [.ref qT, .ref qL, .ref qR, .int (nI cnt)])), (qT, .inl (cJ, 1792, .inr (.inl fT))), (qL, .inl (cJ, 7, .inr (.inl fL))), (qR, .inl (cJ, 7, .inr (.inl fR))), (hR, .inr (0, [.ref qB, .int (nI L), .ref hT, .int (nI ix244)])), (qB, .inl (cI, 400, .inl (fun j => nI (a j))))] := hD
          obtain ⟨rfl, hr44⟩ := hw44
          refine wl_asi (y := nI (rbv a L (rbn a L ix + 1))) (hr44) ?_
          have h5 := rbv_lt ha h3
          refine lv_istore_n (lv' := [(3, .int (nI (rbv a L (rbn a L ix + 1)))), (2, .int (nI (rbv a L ix))), (0, .ref hR), (1, .int (nI tb))]) hx hb dX0_readTold_47 rfl hl (by decide) rfl (fun ls hl => ?_)
          refine lv_aload_n hx hb dX0_readTold_48 rfl (lv_at hl 2 rfl) ?_
          refine va_get (D := (dC, dI)) (ci := 0) (v := .ref hT) (C := RX0) (T := TX0) (N := 4) hx hb hts (by decide +kernel) hown hK hP 4 rfl rfl 2 (by decide) (hts (.fieldLink RX0 19 "WildCards$Reader" "things" "LWildCards$Things;") (by decide +kernel)) (fun _ h9 => h9) rfl dX0_readTold_49 ?_
          refine lv_iload_n hx hb dX0_readTold_52 rfl (lv_at hl 1 rfl) ?_
          refine lv_iload_n hx hb dX0_readTold_53 rfl (lv_at hl 0 rfl) ?_
          refine lv_iload_n hx hb dX0_readTold_54 rfl (lv_at hl 3 rfl) ?_
          have hPc := hP.sub (ws' := [(hT, .inr (1, [.ref qT, .ref qL, .ref qR, .int (nI cnt)])), (qT, .inl (cJ, 1792, .inr (.inl fT))), (qL, .inl (cJ, 7, .inr (.inl fL))), (qR, .inl (cJ, 7, .inr (.inl fR)))]) [0, 1, 2, 3] rfl
          have hDc := hD.sub (ws' := [(hT, .inr (1, [.ref qT, .ref qL, .ref qR, .int (nI cnt)])), (qT, .inl (cJ, 1792, .inr (.inl fT))), (qL, .inl (cJ, 7, .inr (.inl fL))), (qR, .inl (cJ, 7, .inr (.inl fR)))]) [0, 1, 2, 3] (by decide) rfl
          have hFc := va_free (wc := [(hT, .inr (1, [.ref qT, .ref qL, .ref qR, .int (nI cnt)])), (qT, .inl (cJ, 1792, .inr (.inl fT))), (qL, .inl (cJ, 7, .inr (.inl fL))), (qR, .inl (cJ, 7, .inr (.inl fR)))]) hD hS hA [0, 1, 2, 3] rfl
          refine va_callv (va_runV (As := [.int (nI (rbv a L ix)), .int (nI (rbv a L (rbn a L ix + 1))), .int (nI tb)]) (rest := []) ⟨hx, hb, hml, hown, hts⟩ (c_X1_tell l dC dI cI cJ cZ hT qT qL qR H.size cnt fT fL fR (rbv a L ix) (rbv a L (rbn a L ix + 1)) tb (by omega) (by omega) (by omega) (by omega)) (cwV 3 hts gX0_readTold_X1_tell rfl rfl rfl (by decide +kernel) ⟨Nat.le_of_ble_eq_true rfl, Nat.le_of_ble_eq_true rfl⟩) ⟨fun a U g mk q => by obtain ⟨q0, q1, qP, qK, qD⟩ := q; exact ⟨q0, q1, qP, va_K.moved (u := U) (U := U.calling g mk a) (Vm.Alike.refl U.vm) qK, qD⟩, va_recv hK hPc (ci := 1) (q0 := 0) rfl rfl, fun U hU hW => ⟨rfl, by rw [hU], by rw [hU]; exact hPc, va_K.moved hW.alike hK, hDc.weaken (fun _ _ _ _ => trivial)⟩⟩ rfl rfl hl.1 rfl (lv_room (Nat.le_of_ble_eq_true rfl)) dX0_readTold_55 ⟨show 0 + 0 + 0 + 0 + 0 + 0 ≤ 0 from by decide, show 0 + 0 + 0 + 0 + 0 + 0 ≤ 0 from by decide⟩) hS (fun q _ h => hFc q h) hFc (fun u t H1 locs ht hvm hw55 hB hz1 hk1 hS => ?_)
          obtain ⟨fT255, rfl⟩ : ∃ z, z = u := ⟨_, rfl⟩
          obtain ⟨hP1, hK1, hD1⟩ := hB
          rw [ht] at hP1
          try dsimp only at hw55 hP1 hD1
          obtain ⟨hP, hD⟩ := va_join (wr := [(hR, .inr (0, [.ref qB, .int (nI L), .ref hT, .int (nI (rbn a L (rbn a L ix + 1)))])), (qB, .inl (cI, 400, .inl (fun j => nI (a j))))]) (w1 := [(hT, .inr (1, [.ref qT, .ref qL, .ref qR, .int (nI cnt)])), (qT, .inl (cJ, 1792, .inr (.inl fT255))), (qL, .inl (cJ, 7, .inr (.inl fL))), (qR, .inl (cJ, 7, .inr (.inl fR)))]) hP hD [0, 1, 2, 3] [4, 5] rfl rfl (by decide) (by decide) hk1 hFc hP1 hD1
          generalize H1 = H at hP hS ⊢
          have hP : va_P (dC, dI) vwCl [(hR, .inr (0, [.ref qB, .int (nI L), .ref hT, .int (nI (rbn a L (rbn a L ix + 1)))])), (qB, .inl (cI, 400, .inl (fun j => nI (a j)))), (hT, .inr (1, [.ref qT, .ref qL, .ref qR, .int (nI cnt)])), (qT, .inl (cJ, 1792, .inr (.inl fT255))), (qL, .inl (cJ, 7, .inr (.inl fL))), (qR, .inl (cJ, 7, .inr (.inl fR)))] H := hP
          have hD : va_D A [(hR, .inr (0, [.ref qB, .int (nI L), .ref hT, .int (nI (rbn a L (rbn a L ix + 1)))])), (qB, .inl (cI, 400, .inl (fun j => nI (a j)))), (hT, .inr (1, [.ref qT, .ref qL, .ref qR, .int (nI cnt)])), (qT, .inl (cJ, 1792, .inr (.inl fT255))), (qL, .inl (cJ, 7, .inr (.inl fL))), (qR, .inl (cJ, 7, .inr (.inl fR)))] := hD
          have hP9 := hP.sub (ws' := [(hR, .inr (0, [.ref qB, .int (nI L), .ref hT, .int (nI (rbn a L (rbn a L ix + 1)))])), (qB, .inl (cI, 400, .inl (fun j => nI (a j)))), (hT, .inr (1, [.ref qT, .ref qL, .ref qR, .int (nI cnt)])), (qT, .inl (cJ, 1792, .inr (.inl fT255))), (qL, .inl (cJ, 7, .inr (.inl fL))), (qR, .inl (cJ, 7, .inr (.inl fR)))]) [0, 1, 2, 3, 4, 5] rfl
          have hD9 := hD.sub (ws' := [(hR, .inr (0, [.ref qB, .int (nI L), .ref hT, .int (nI (rbn a L (rbn a L ix + 1)))])), (qB, .inl (cI, 400, .inl (fun j => nI (a j)))), (hT, .inr (1, [.ref qT, .ref qL, .ref qR, .int (nI cnt)])), (qT, .inl (cJ, 1792, .inr (.inl fT255))), (qL, .inl (cJ, 7, .inr (.inl fL))), (qR, .inl (cJ, 7, .inr (.inl fR)))]) [0, 1, 2, 3, 4, 5] (by decide) rfl
          exact W.vret hx hb hr (fun t ht hW => ⟨⟨(rbn a L (rbn a L ix + 1), fT255), rfl, (show (rbn a L (rbn a L ix + 1)) = tnx a L ix ∧ ∀ x k, k < 448 → lb fT255 (448 * x + k) = if k = cnt ∧ rbv a L ix ≤ x ∧ x ≤ thi a L ix then decide (tb ≠ 0) else lb fT (448 * x + k) from ⟨(tn_1 (rng_1 hp2 c17 hb2)).1, by rw [(tn_1 (rng_1 hp2 c17 hb2)).2]; exact hw55⟩), by rw [ht]; exact hP9, va_K.moved hW.alike hK, hD9⟩, hS.F ht⟩) hS.2.2 dX0_readTold_58
  · skip
    refine wl_asi (y := (-1)) (by rw [hw12, if_neg hp2]) ?_
    refine lv_bipush (v := nI 45) hx hb dX0_readTold_15 (by decide) ?_
    refine lv_icmp_ne (tgt := 48) hx hb dX0_readTold_17 (by decide) (fun c17 => ?_) (fun c17 => ?_)
    · skip
      refine lv_aload_n hx hb dX0_readTold_48 rfl (lv_at hl 2 rfl) ?_
      refine va_get (D := (dC, dI)) (ci := 0) (v := .ref hT) (C := RX0) (T := TX0) (N := 4) hx hb hts (by decide +kernel) hown hK hP 4 rfl rfl 2 (by decide) (hts (.fieldLink RX0 19 "WildCards$Reader" "things" "LWildCards$Things;") (by decide +kernel)) (fun _ h9 => h9) rfl dX0_readTold_49 ?_
      refine lv_iload_n hx hb dX0_readTold_52 rfl (lv_at hl 1 rfl) ?_
      refine lv_iload_n hx hb dX0_readTold_53 rfl (lv_at hl 0 rfl) ?_
      refine lv_iload_n hx hb dX0_readTold_54 rfl (lv_at hl 3 rfl) ?_
      have hPc := hP.sub (ws' := [(hT, .inr (1, [.ref qT, .ref qL, .ref qR, .int (nI cnt)])), (qT, .inl (cJ, 1792, .inr (.inl fT))), (qL, .inl (cJ, 7, .inr (.inl fL))), (qR, .inl (cJ, 7, .inr (.inl fR)))]) [0, 1, 2, 3] rfl
      have hDc := hD.sub (ws' := [(hT, .inr (1, [.ref qT, .ref qL, .ref qR, .int (nI cnt)])), (qT, .inl (cJ, 1792, .inr (.inl fT))), (qL, .inl (cJ, 7, .inr (.inl fL))), (qR, .inl (cJ, 7, .inr (.inl fR)))]) [0, 1, 2, 3] (by decide) rfl
      have hFc := va_free (wc := [(hT, .inr (1, [.ref qT, .ref qL, .ref qR, .int (nI cnt)])), (qT, .inl (cJ, 1792, .inr (.inl fT))), (qL, .inl (cJ, 7, .inr (.inl fL))), (qR, .inl (cJ, 7, .inr (.inl fR)))]) hD hS hA [0, 1, 2, 3] rfl
      refine va_callv (va_runV (As := [.int (nI (rbv a L ix)), .int (nI (rbv a L ix)), .int (nI tb)]) (rest := []) ⟨hx, hb, hml, hown, hts⟩ (c_X1_tell l dC dI cI cJ cZ hT qT qL qR H.size cnt fT fL fR (rbv a L ix) (rbv a L ix) tb (by omega) (by omega) (by omega) (by omega)) (cwV 3 hts gX0_readTold_X1_tell rfl rfl rfl (by decide +kernel) ⟨Nat.le_of_ble_eq_true rfl, Nat.le_of_ble_eq_true rfl⟩) ⟨fun a U g mk q => by obtain ⟨q0, q1, qP, qK, qD⟩ := q; exact ⟨q0, q1, qP, va_K.moved (u := U) (U := U.calling g mk a) (Vm.Alike.refl U.vm) qK, qD⟩, va_recv hK hPc (ci := 1) (q0 := 0) rfl rfl, fun U hU hW => ⟨rfl, by rw [hU], by rw [hU]; exact hPc, va_K.moved hW.alike hK, hDc.weaken (fun _ _ _ _ => trivial)⟩⟩ rfl rfl hl.1 rfl (lv_room (Nat.le_of_ble_eq_true rfl)) dX0_readTold_55 ⟨show 0 + 0 + 0 + 0 ≤ 0 from by decide, show 0 + 0 + 0 + 0 ≤ 0 from by decide⟩) hS (fun q _ h => hFc q h) hFc (fun u t H1 locs ht hvm hw55 hB hz1 hk1 hS => ?_)
      obtain ⟨fT255, rfl⟩ : ∃ z, z = u := ⟨_, rfl⟩
      obtain ⟨hP1, hK1, hD1⟩ := hB
      rw [ht] at hP1
      try dsimp only at hw55 hP1 hD1
      obtain ⟨hP, hD⟩ := va_join (wr := [(hR, .inr (0, [.ref qB, .int (nI L), .ref hT, .int (nI (rbn a L ix))])), (qB, .inl (cI, 400, .inl (fun j => nI (a j))))]) (w1 := [(hT, .inr (1, [.ref qT, .ref qL, .ref qR, .int (nI cnt)])), (qT, .inl (cJ, 1792, .inr (.inl fT255))), (qL, .inl (cJ, 7, .inr (.inl fL))), (qR, .inl (cJ, 7, .inr (.inl fR)))]) hP hD [0, 1, 2, 3] [4, 5] rfl rfl (by decide) (by decide) hk1 hFc hP1 hD1
      generalize H1 = H at hP hS ⊢
      have hP : va_P (dC, dI) vwCl [(hR, .inr (0, [.ref qB, .int (nI L), .ref hT, .int (nI (rbn a L ix))])), (qB, .inl (cI, 400, .inl (fun j => nI (a j)))), (hT, .inr (1, [.ref qT, .ref qL, .ref qR, .int (nI cnt)])), (qT, .inl (cJ, 1792, .inr (.inl fT255))), (qL, .inl (cJ, 7, .inr (.inl fL))), (qR, .inl (cJ, 7, .inr (.inl fR)))] H := hP
      have hD : va_D A [(hR, .inr (0, [.ref qB, .int (nI L), .ref hT, .int (nI (rbn a L ix))])), (qB, .inl (cI, 400, .inl (fun j => nI (a j)))), (hT, .inr (1, [.ref qT, .ref qL, .ref qR, .int (nI cnt)])), (qT, .inl (cJ, 1792, .inr (.inl fT255))), (qL, .inl (cJ, 7, .inr (.inl fL))), (qR, .inl (cJ, 7, .inr (.inl fR)))] := hD
      have hP9 := hP.sub (ws' := [(hR, .inr (0, [.ref qB, .int (nI L), .ref hT, .int (nI (rbn a L ix))])), (qB, .inl (cI, 400, .inl (fun j => nI (a j)))), (hT, .inr (1, [.ref qT, .ref qL, .ref qR, .int (nI cnt)])), (qT, .inl (cJ, 1792, .inr (.inl fT255))), (qL, .inl (cJ, 7, .inr (.inl fL))), (qR, .inl (cJ, 7, .inr (.inl fR)))]) [0, 1, 2, 3, 4, 5] rfl
      have hD9 := hD.sub (ws' := [(hR, .inr (0, [.ref qB, .int (nI L), .ref hT, .int (nI (rbn a L ix))])), (qB, .inl (cI, 400, .inl (fun j => nI (a j)))), (hT, .inr (1, [.ref qT, .ref qL, .ref qR, .int (nI cnt)])), (qT, .inl (cJ, 1792, .inr (.inl fT255))), (qL, .inl (cJ, 7, .inr (.inl fL))), (qR, .inl (cJ, 7, .inr (.inl fR)))]) [0, 1, 2, 3, 4, 5] (by decide) rfl
      exact W.vret hx hb hr (fun t ht hW => ⟨⟨(rbn a L ix, fT255), rfl, (show (rbn a L ix) = tnx a L ix ∧ ∀ x k, k < 448 → lb fT255 (448 * x + k) = if k = cnt ∧ rbv a L ix ≤ x ∧ x ≤ thi a L ix then decide (tb ≠ 0) else lb fT (448 * x + k) from ⟨(tn_0 (rng_a hp2)).1, by rw [(tn_0 (rng_a hp2)).2]; exact hw55⟩), by rw [ht]; exact hP9, va_K.moved hW.alike hK, hD9⟩, hS.F ht⟩) hS.2.2 dX0_readTold_58
    · skip
      first | exact absurd c17 (by decide) | exact absurd (by decide) c17
