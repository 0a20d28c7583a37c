set_option maxHeartbeats 4000000 in
set_option maxRecDepth 100000 in
theorem c_X2_feed (l : Launch) (dC : Nat → ClassId) (dI : Nat → Nat → Nat) (cI cJ cZ : ClassId) (h0 qP qW hT : Nat) (sz : Nat) (tl : Nat) (wn : Nat) (tp : Nat → Nat) (v1 : Int32) (v2 : Int32) (v3 : Int32) (v4 : Int32) (v5 : Int32) (htl : tl ≤ 400) : Met l yX2_feed wsX2_feed ({ frames := 1, cells := 0, slots := 0, locals := 22 }) (va_Pc [.ref h0, .int v1, .int v2, .int v3, .int v4, .int v5] (fun U => U.heap.size = sz ∧ va_P (dC, dI) vwCl [(h0, .inr (2, [.ref qP, .int (nI tl), .ref qW, .int (nI wn), .ref hT])), (qP, .inl (cI, 400, .inl (fun j => nI (tp j))))] U.heap ∧ va_K (dC, dI) vwCl [(cI, .int), (cJ, .long), (cZ, .boolean)] U ∧ va_D (fun _ => True) [(h0, .inr (2, [.ref qP, .int (nI tl), .ref qW, .int (nI wn), .ref hT])), (qP, .inl (cI, 400, .inl (fun j => nI (tp j))))])) (va_Qi (fun (r : Int32) (u : Nat × (Nat → Nat)) => r = (if tl ≤ 380 then 1 else 0) ∧ u.1 = (if tl ≤ 380 then tl + 20 else tl) ∧ u.2 = (if tl ≤ 380 then fd5 tp tl v1 v2 v3 v4 v5 else tp)) (fun (u : Nat × (Nat → Nat)) (t : State) => va_P (dC, dI) vwCl [(h0, .inr (2, [.ref qP, .int (nI u.1), .ref qW, .int (nI wn), .ref hT])), (qP, .inl (cI, 400, .inl (fun j => nI (u.2 j))))] t.heap ∧ va_K (dC, dI) vwCl [(cI, .int), (cJ, .long), (cZ, .boolean)] t ∧ va_D (va_A [(h0, .inr (2, [.ref qP, .int (nI tl), .ref qW, .int (nI wn), .ref hT])), (qP, .inl (cI, 400, .inl (fun j => nI (tp j))))] sz) [(h0, .inr (2, [.ref qP, .int (nI u.1), .ref qW, .int (nI wn), .ref hT])), (qP, .inl (cI, 400, .inl (fun j => nI (u.2 j))))]) (va_A [(h0, .inr (2, [.ref qP, .int (nI tl), .ref qW, .int (nI wn), .ref hT])), (qP, .inl (cI, 400, .inl (fun j => nI (tp j))))] sz)) 0 0 (va_A [(h0, .inr (2, [.ref qP, .int (nI tl), .ref qW, .int (nI wn), .ref hT])), (qP, .inl (cI, 400, .inl (fun j => nI (tp j))))] sz) := by
  refine Met.ofW (cc := cX2_feed) (maxL := 6) (ret := (some .boolean)) (by decide) rfl ?_
  intro p e s m args below meth c s₁ B hml hv
  obtain ⟨rfl, hsz, hP, hK, hD0⟩ := hv
  have hx := B.exec
  have hb := B.bytes
  have hr := B.returns
  have hts := atoms_spec (ws := wsX2_feed) B.pre
  have hown : s.vm.findClass RX2 = some m.cls := findClass_of_methodNamed B.named
  have hlocks := B.notSynchronized
  subst hsz
  have hD := hD0.self (sz := s.heap.size)
  generalize hAe : va_A [(h0, .inr (2, [.ref qP, .int (nI tl), .ref qW, .int (nI wn), .ref hT])), (qP, .inl (cI, 400, .inl (fun j => nI (tp j))))] s.heap.size = A at hD ⊢
  have hA : ∀ q : Nat, s.heap.size ≤ q → A q := fun q h => by rw [← hAe]; exact Or.inr h
  have hS : va_S A s.heap s.heap [] := va_S.rf
  have hP : va_P (dC, dI) vwCl [(h0, .inr (2, [.ref qP, .int (nI tl), .ref qW, .int (nI wn), .ref hT])), (qP, .inl (cI, 400, .inl (fun j => nI (tp j))))] s.heap := hP
  have hl := lv_entry ([.ref h0, .int v1, .int v2, .int v3, .int v4, .int v5]) (n := 6) (Nat.le_of_ble_eq_true rfl)
  rw [lg_entry_eq]
  generalize (lg_sl ([.ref h0, .int v1, .int v2, .int v3, .int v4, .int v5]) ++ List.replicate (6 - (lg_sl ([.ref h0, .int v1, .int v2, .int v3, .int v4, .int v5])).length) Slot.unset).toArray = ls at hl ⊢
  have hl : lv_has ls 6 [(0, .ref h0), (1, .int v1), (2, .int v2), (3, .int v3), (4, .int v4), (5, .int v5)] := hl
  skip
  refine lv_aload_n hx hb dX2_feed_0 rfl (lv_at hl 0 rfl) ?_
  refine va_get (D := (dC, dI)) (ci := 2) (v := .int (nI tl)) (C := RX2) (T := TX2) (N := 5) hx hb hts (by decide +kernel) hown hK hP 0 rfl rfl 1 (by decide) (hts (.fieldLink RX2 23 "WildCards" "tapeLength" "I") (by decide +kernel)) (fun _ h9 => h9) rfl dX2_feed_1 ?_
  refine lv_sipush (v := nI 380) hx hb dX2_feed_4 (by decide) ?_
  refine wl_icmp_le (tgt := 12) hx hb dX2_feed_7 (by decide) (by omega) (by omega) (fun c7 => ?_) (fun c7 => ?_)
  · skip
    refine lv_aload_n hx hb dX2_feed_12 rfl (lv_at hl 0 rfl) ?_
    refine lv_iload_n hx hb dX2_feed_13 rfl (lv_at hl 1 rfl) ?_
    have hPc := hP.sub (ws' := [(h0, .inr (2, [.ref qP, .int (nI tl), .ref qW, .int (nI wn), .ref hT])), (qP, .inl (cI, 400, .inl (fun j => nI (tp j))))]) [0, 1] rfl
    have hDc := hD.sub (ws' := [(h0, .inr (2, [.ref qP, .int (nI tl), .ref qW, .int (nI wn), .ref hT])), (qP, .inl (cI, 400, .inl (fun j => nI (tp j))))]) [0, 1] (by decide) rfl
    have hFc := va_free (wc := [(h0, .inr (2, [.ref qP, .int (nI tl), .ref qW, .int (nI wn), .ref hT])), (qP, .inl (cI, 400, .inl (fun j => nI (tp j))))]) hD hS hA [0, 1] rfl
    refine va_callv (va_runV (As := [.int v1]) (rest := []) ⟨hx, hb, hml, hown, hts⟩ (c_X2_append l dC dI cI cJ cZ h0 qP qW hT s.heap.size tl wn tp v1 (by omega)) (cwV 1 hts gX2_feed_X2_append rfl rfl rfl (by decide +kernel) ⟨Nat.le_of_ble_eq_true rfl, Nat.le_of_ble_eq_true rfl⟩) ⟨fun a U g mk q => by obtain ⟨q0, q1, qP, qK, qD⟩ := q; exact ⟨q0, q1, qP, va_K.moved (u := U) (U := U.calling g mk a) (Vm.Alike.refl U.vm) qK, qD⟩, va_recv hK hPc (ci := 2) (q0 := 0) rfl rfl, fun U hU hW => ⟨rfl, by rw [hU], by rw [hU]; exact hPc, va_K.moved hW.alike hK, hDc.weaken (fun _ _ _ _ => trivial)⟩⟩ rfl rfl hl.1 rfl (lv_room (Nat.le_of_ble_eq_true rfl)) dX2_feed_14 ⟨show 0 + 0 ≤ 0 from by decide, show 0 + 0 ≤ 0 from by decide⟩) hS (fun q _ h => hFc q h) hFc (fun u t H1 locs ht hvm hw14 hB hz1 hk1 hS => ?_)
    obtain ⟨hP1, hK1, hD1⟩ := hB
    rw [ht] at hP1
    try dsimp only at hw14 hP1 hD1
    obtain ⟨hP, hD⟩ := va_join (wr := []) (w1 := [(h0, .inr (2, [.ref qP, .int (nI (tl + 4)), .ref qW, .int (nI wn), .ref hT])), (qP, .inl (cI, 400, .inl (fun j => nI ((ap4 tp tl v1) j))))]) hP hD [0, 1] [] rfl rfl (by decide) (by decide) hk1 hFc hP1 hD1
    generalize H1 = H at hP hS ⊢
    have hP : va_P (dC, dI) vwCl [(h0, .inr (2, [.ref qP, .int (nI (tl + 4)), .ref qW, .int (nI wn), .ref hT])), (qP, .inl (cI, 400, .inl (fun j => nI ((ap4 tp tl v1) j))))] H := hP
    have hD : va_D A [(h0, .inr (2, [.ref qP, .int (nI (tl + 4)), .ref qW, .int (nI wn), .ref hT])), (qP, .inl (cI, 400, .inl (fun j => nI ((ap4 tp tl v1) j))))] := hD
    refine lv_aload_n hx hb dX2_feed_17 rfl (lv_at hl 0 rfl) ?_
    refine lv_iload_n hx hb dX2_feed_18 rfl (lv_at hl 2 rfl) ?_
    have hPc := hP.sub (ws' := [(h0, .inr (2, [.ref qP, .int (nI (tl + 4)), .ref qW, .int (nI wn), .ref hT])), (qP, .inl (cI, 400, .inl (fun j => nI ((ap4 tp tl v1) j))))]) [0, 1] rfl
    have hDc := hD.sub (ws' := [(h0, .inr (2, [.ref qP, .int (nI (tl + 4)), .ref qW, .int (nI wn), .ref hT])), (qP, .inl (cI, 400, .inl (fun j => nI ((ap4 tp tl v1) j))))]) [0, 1] (by decide) rfl
    have hFc := va_free (wc := [(h0, .inr (2, [.ref qP, .int (nI (tl + 4)), .ref qW, .int (nI wn), .ref hT])), (qP, .inl (cI, 400, .inl (fun j => nI ((ap4 tp tl v1) j))))]) hD hS hA [0, 1] rfl
    refine va_callv (va_runV (As := [.int v2]) (rest := []) ⟨hx, hb, hml, hown, hts⟩ (c_X2_append l dC dI cI cJ cZ h0 qP qW hT H.size (tl + 4) wn (ap4 tp tl v1) v2 (by omega)) (cwV 1 hts gX2_feed_X2_append rfl rfl rfl (by decide +kernel) ⟨Nat.le_of_ble_eq_true rfl, Nat.le_of_ble_eq_true rfl⟩) ⟨fun a U g mk q => by obtain ⟨q0, q1, qP, qK, qD⟩ := q; exact ⟨q0, q1, qP, va_K.moved (u := U) (U := U.calling g mk a) (Vm.Alike.refl U.vm) qK, qD⟩, va_recv hK hPc (ci := 2) (q0 := 0) rfl rfl, fun U hU hW => ⟨rfl, by rw [hU], by rw [hU]; exact hPc, va_K.moved hW.alike hK, hDc.weaken (fun _ _ _ _ => trivial)⟩⟩ rfl rfl hl.1 rfl (lv_room (Nat.le_of_ble_eq_true rfl)) dX2_feed_19 ⟨show 0 + 0 + 0 ≤ 0 from by decide, show 0 + 0 + 0 ≤ 0 from by decide⟩) hS (fun q _ h => hFc q h) hFc (fun u t H1 locs ht hvm hw19 hB hz1 hk1 hS => ?_)
    obtain ⟨hP1, hK1, hD1⟩ := hB
    rw [ht] at hP1
    try dsimp only at hw19 hP1 hD1
    obtain ⟨hP, hD⟩ := va_join (wr := []) (w1 := [(h0, .inr (2, [.ref qP, .int (nI ((tl + 4) + 4)), .ref qW, .int (nI wn), .ref hT])), (qP, .inl (cI, 400, .inl (fun j => nI ((ap4 (ap4 tp tl v1) (tl + 4) v2) j))))]) hP hD [0, 1] [] rfl rfl (by decide) (by decide) hk1 hFc hP1 hD1
    generalize H1 = H at hP hS ⊢
    have hP : va_P (dC, dI) vwCl [(h0, .inr (2, [.ref qP, .int (nI ((tl + 4) + 4)), .ref qW, .int (nI wn), .ref hT])), (qP, .inl (cI, 400, .inl (fun j => nI ((ap4 (ap4 tp tl v1) (tl + 4) v2) j))))] H := hP
    have hD : va_D A [(h0, .inr (2, [.ref qP, .int (nI ((tl + 4) + 4)), .ref qW, .int (nI wn), .ref hT])), (qP, .inl (cI, 400, .inl (fun j => nI ((ap4 (ap4 tp tl v1) (tl + 4) v2) j))))] := hD
    refine lv_aload_n hx hb dX2_feed_22 rfl (lv_at hl 0 rfl) ?_
    refine lv_iload_n hx hb dX2_feed_23 rfl (lv_at hl 3 rfl) ?_
    have hPc := hP.sub (ws' := [(h0, .inr (2, [.ref qP, .int (nI ((tl + 4) + 4)), .ref qW, .int (nI wn), .ref hT])), (qP, .inl (cI, 400, .inl (fun j => nI ((ap4 (ap4 tp tl v1) (tl + 4) v2) j))))]) [0, 1] rfl
    have hDc := hD.sub (ws' := [(h0, .inr (2, [.ref qP, .int (nI ((tl + 4) + 4)), .ref qW, .int (nI wn), .ref hT])), (qP, .inl (cI, 400, .inl (fun j => nI ((ap4 (ap4 tp tl v1) (tl + 4) v2) j))))]) [0, 1] (by decide) rfl
    have hFc := va_free (wc := [(h0, .inr (2, [.ref qP, .int (nI ((tl + 4) + 4)), .ref qW, .int (nI wn), .ref hT])), (qP, .inl (cI, 400, .inl (fun j => nI ((ap4 (ap4 tp tl v1) (tl + 4) v2) j))))]) hD hS hA [0, 1] rfl
    refine va_callv (va_runV (As := [.int v3]) (rest := []) ⟨hx, hb, hml, hown, hts⟩ (c_X2_append l dC dI cI cJ cZ h0 qP qW hT H.size ((tl + 4) + 4) wn (ap4 (ap4 tp tl v1) (tl + 4) v2) v3 (by omega)) (cwV 1 hts gX2_feed_X2_append rfl rfl rfl (by decide +kernel) ⟨Nat.le_of_ble_eq_true rfl, Nat.le_of_ble_eq_true rfl⟩) ⟨fun a U g mk q => by obtain ⟨q0, q1, qP, qK, qD⟩ := q; exact ⟨q0, q1, qP, va_K.moved (u := U) (U := U.calling g mk a) (Vm.Alike.refl U.vm) qK, qD⟩, va_recv hK hPc (ci := 2) (q0 := 0) rfl rfl, fun U hU hW => ⟨rfl, by rw [hU], by rw [hU]; exact hPc, va_K.moved hW.alike hK, hDc.weaken (fun _ _ _ _ => trivial)⟩⟩ rfl rfl hl.1 rfl (lv_room (Nat.le_of_ble_eq_true rfl)) dX2_feed_24 ⟨show 0 + 0 + 0 + 0 ≤ 0 from by decide, show 0 + 0 + 0 + 0 ≤ 0 from by decide⟩) hS (fun q _ h => hFc q h) hFc (fun u t H1 locs ht hvm hw24 hB hz1 hk1 hS => ?_)
    obtain ⟨hP1, hK1, hD1⟩ := hB
    rw [ht] at hP1
    try dsimp only at hw24 hP1 hD1
    obtain ⟨hP, hD⟩ := va_join (wr := []) (w1 := [(h0, .inr (2, [.ref qP, .int (nI (((tl + 4) + 4) + 4)), .ref qW, .int (nI wn), .ref hT])), (qP, .inl (cI, 400, .inl (fun j => nI ((ap4 (ap4 (ap4 tp tl v1) (tl + 4) v2) ((tl + 4) + 4) v3) j))))]) hP hD [0, 1] [] rfl rfl (by decide) (by decide) hk1 hFc hP1 hD1
    generalize H1 = H at hP hS ⊢
    have hP : va_P (dC, dI) vwCl [(h0, .inr (2, [.ref qP, .int (nI (((tl + 4) + 4) + 4)), .ref qW, .int (nI wn), .ref hT])), (qP, .inl (cI, 400, .inl (fun j => nI ((ap4 (ap4 (ap4 tp tl v1) (tl + 4) v2) ((tl + 4) + 4) v3) j))))] H := hP
    have hD : va_D A [(h0, .inr (2, [.ref qP, .int (nI (((tl + 4) + 4) + 4)), .ref qW, .int (nI wn), .ref hT])), (qP, .inl (cI, 400, .inl (fun j => nI ((ap4 (ap4 (ap4 tp tl v1) (tl + 4) v2) ((tl + 4) + 4) v3) j))))] := hD
    refine lv_aload_n hx hb dX2_feed_27 rfl (lv_at hl 0 rfl) ?_
    refine lv_iload hx hb dX2_feed_28 (lv_at hl 4 rfl) ?_
    have hPc := hP.sub (ws' := [(h0, .inr (2, [.ref qP, .int (nI (((tl + 4) + 4) + 4)), .ref qW, .int (nI wn), .ref hT])), (qP, .inl (cI, 400, .inl (fun j => nI ((ap4 (ap4 (ap4 tp tl v1) (tl + 4) v2) ((tl + 4) + 4) v3) j))))]) [0, 1] rfl
    have hDc := hD.sub (ws' := [(h0, .inr (2, [.ref qP, .int (nI (((tl + 4) + 4) + 4)), .ref qW, .int (nI wn), .ref hT])), (qP, .inl (cI, 400, .inl (fun j => nI ((ap4 (ap4 (ap4 tp tl v1) (tl + 4) v2) ((tl + 4) + 4) v3) j))))]) [0, 1] (by decide) rfl
    have hFc := va_free (wc := [(h0, .inr (2, [.ref qP, .int (nI (((tl + 4) + 4) + 4)), .ref qW, .int (nI wn), .ref hT])), (qP, .inl (cI, 400, .inl (fun j => nI ((ap4 (ap4 (ap4 tp tl v1) (tl + 4) v2) ((tl + 4) + 4) v3) j))))]) hD hS hA [0, 1] rfl
    refine va_callv (va_runV (As := [.int v4]) (rest := []) ⟨hx, hb, hml, hown, hts⟩ (c_X2_append l dC dI cI cJ cZ h0 qP qW hT H.size (((tl + 4) + 4) + 4) wn (ap4 (ap4 (ap4 tp tl v1) (tl + 4) v2) ((tl + 4) + 4) v3) v4 (by omega)) (cwV 1 hts gX2_feed_X2_append rfl rfl rfl (by decide +kernel) ⟨Nat.le_of_ble_eq_true rfl, Nat.le_of_ble_eq_true rfl⟩) ⟨fun a U g mk q => by obtain ⟨q0, q1, qP, qK, qD⟩ := q; exact ⟨q0, q1, qP, va_K.moved (u := U) (U := U.calling g mk a) (Vm.Alike.refl U.vm) qK, qD⟩, va_recv hK hPc (ci := 2) (q0 := 0) rfl rfl, fun U hU hW => ⟨rfl, by rw [hU], by rw [hU]; exact hPc, va_K.moved hW.alike hK, hDc.weaken (fun _ _ _ _ => trivial)⟩⟩ rfl rfl hl.1 rfl (lv_room (Nat.le_of_ble_eq_true rfl)) dX2_feed_30 ⟨show 0 + 0 + 0 + 0 + 0 ≤ 0 from by decide, show 0 + 0 + 0 + 0 + 0 ≤ 0 from by decide⟩) hS (fun q _ h => hFc q h) hFc (fun u t H1 locs ht hvm hw30 hB hz1 hk1 hS => ?_)
    obtain ⟨hP1, hK1, hD1⟩ := hB
    rw [ht] at hP1
    try dsimp only at hw30 hP1 hD1
    obtain ⟨hP, hD⟩ := va_join (wr := []) (w1 := [(h0, .inr (2, [.ref qP, .int (nI ((((tl + 4) + 4) + 4) + 4)), .ref qW, .int (nI wn), .ref hT])), (qP, .inl (cI, 400, .inl (fun j => nI ((ap4 (ap4 (ap4 (ap4 tp tl v1) (tl + 4) v2) ((tl + 4) + 4) v3) (((tl + 4) + 4) + 4) v4) j))))]) hP hD [0, 1] [] rfl rfl (by decide) (by decide) hk1 hFc hP1 hD1
    generalize H1 = H at hP hS ⊢
    have hP : va_P (dC, dI) vwCl [(h0, .inr (2, [.ref qP, .int (nI ((((tl + 4) + 4) + 4) + 4)), .ref qW, .int (nI wn), .ref hT])), (qP, .inl (cI, 400, .inl (fun j => nI ((ap4 (ap4 (ap4 (ap4 tp tl v1) (tl + 4) v2) ((tl + 4) + 4) v3) (((tl + 4) + 4) + 4) v4) j))))] H := hP
    have hD : va_D A [(h0, .inr (2, [.ref qP, .int (nI ((((tl + 4) + 4) + 4) + 4)), .ref qW, .int (nI wn), .ref hT])), (qP, .inl (cI, 400, .inl (fun j => nI ((ap4 (ap4 (ap4 (ap4 tp tl v1) (tl + 4) v2) ((tl + 4) + 4) v3) (((tl + 4) + 4) + 4) v4) j))))] := hD
    refine lv_aload_n hx hb dX2_feed_33 rfl (lv_at hl 0 rfl) ?_
    refine lv_iload hx hb dX2_feed_34 (lv_at hl 5 rfl) ?_
    have hPc := hP.sub (ws' := [(h0, .inr (2, [.ref qP, .int (nI ((((tl + 4) + 4) + 4) + 4)), .ref qW, .int (nI wn), .ref hT])), (qP, .inl (cI, 400, .inl (fun j => nI ((ap4 (ap4 (ap4 (ap4 tp tl v1) (tl + 4) v2) ((tl + 4) + 4) v3) (((tl + 4) + 4) + 4) v4) j))))]) [0, 1] rfl
    have hDc := hD.sub (ws' := [(h0, .inr (2, [.ref qP, .int (nI ((((tl + 4) + 4) + 4) + 4)), .ref qW, .int (nI wn), .ref hT])), (qP, .inl (cI, 400, .inl (fun j => nI ((ap4 (ap4 (ap4 (ap4 tp tl v1) (tl + 4) v2) ((tl + 4) + 4) v3) (((tl + 4) + 4) + 4) v4) j))))]) [0, 1] (by decide) rfl
    have hFc := va_free (wc := [(h0, .inr (2, [.ref qP, .int (nI ((((tl + 4) + 4) + 4) + 4)), .ref qW, .int (nI wn), .ref hT])), (qP, .inl (cI, 400, .inl (fun j => nI ((ap4 (ap4 (ap4 (ap4 tp tl v1) (tl + 4) v2) ((tl + 4) + 4) v3) (((tl + 4) + 4) + 4) v4) j))))]) hD hS hA [0, 1] rfl
    refine va_callv (va_runV (As := [.int v5]) (rest := []) ⟨hx, hb, hml, hown, hts⟩ (c_X2_append l dC dI cI cJ cZ h0 qP qW hT H.size ((((tl + 4) + 4) + 4) + 4) wn (ap4 (ap4 (ap4 (ap4 tp tl v1) (tl + 4) v2) ((tl + 4) + 4) v3) (((tl + 4) + 4) + 4) v4) v5 (by omega)) (cwV 1 hts gX2_feed_X2_append rfl rfl rfl (by decide +kernel) ⟨Nat.le_of_ble_eq_true rfl, Nat.le_of_ble_eq_true rfl⟩) ⟨fun a U g mk q => by obtain ⟨q0, q1, qP, qK, qD⟩ := q; exact ⟨q0, q1, qP, va_K.moved (u := U) (U := U.calling g mk a) (Vm.Alike.refl U.vm) qK, qD⟩, va_recv hK hPc (ci := 2) (q0 := 0) rfl rfl, fun U hU hW => ⟨rfl, by rw [hU], by rw [hU]; exact hPc, va_K.moved hW.alike hK, hDc.weaken (fun _ _ _ _ => trivial)⟩⟩ rfl rfl hl.1 rfl (lv_room (Nat.le_of_ble_eq_true rfl)) dX2_feed_36 ⟨show 0 + 0 + 0 + 0 + 0 + 0 ≤ 0 from by decide, show 0 + 0 + 0 + 0 + 0 + 0 ≤ 0 from by decide⟩) hS (fun q _ h => hFc q h) hFc (fun u t H1 locs ht hvm hw36 hB hz1 hk1 hS => ?_)
    obtain ⟨hP1, hK1, hD1⟩ := hB
    rw [ht] at hP1
    try dsimp only at hw36 hP1 hD1
    obtain ⟨hP, hD⟩ := va_join (wr := []) (w1 := [(h0, .inr (2, [.ref qP, .int (nI (((((tl + 4) + 4) + 4) + 4) + 4)), .ref qW, .int (nI wn), .ref hT])), (qP, .inl (cI, 400, .inl (fun j => nI ((ap4 (ap4 (ap4 (ap4 (ap4 tp tl v1) (tl + 4) v2) ((tl + 4) + 4) v3) (((tl + 4) + 4) + 4) v4) ((((tl + 4) + 4) + 4) + 4) v5) j))))]) hP hD [0, 1] [] rfl rfl (by decide) (by decide) hk1 hFc hP1 hD1
    generalize H1 = H at hP hS ⊢
    have hP : va_P (dC, dI) vwCl [(h0, .inr (2, [.ref qP, .int (nI (((((tl + 4) + 4) + 4) + 4) + 4)), .ref qW, .int (nI wn), .ref hT])), (qP, .inl (cI, 400, .inl (fun j => nI ((ap4 (ap4 (ap4 (ap4 (ap4 tp tl v1) (tl + 4) v2) ((tl + 4) + 4) v3) (((tl + 4) + 4) + 4) v4) ((((tl + 4) + 4) + 4) + 4) v5) j))))] H := hP
    have hD : va_D A [(h0, .inr (2, [.ref qP, .int (nI (((((tl + 4) + 4) + 4) + 4) + 4)), .ref qW, .int (nI wn), .ref hT])), (qP, .inl (cI, 400, .inl (fun j => nI ((ap4 (ap4 (ap4 (ap4 (ap4 tp tl v1) (tl + 4) v2) ((tl + 4) + 4) v3) (((tl + 4) + 4) + 4) v4) ((((tl + 4) + 4) + 4) + 4) v5) j))))] := hD
    refine lv_iconst (v := nI 1) hx hb dX2_feed_39 (by decide) ?_
    have hP9 := hP.sub (ws' := [(h0, .inr (2, [.ref qP, .int (nI (((((tl + 4) + 4) + 4) + 4) + 4)), .ref qW, .int (nI wn), .ref hT])), (qP, .inl (cI, 400, .inl (fun j => nI ((ap4 (ap4 (ap4 (ap4 (ap4 tp tl v1) (tl + 4) v2) ((tl + 4) + 4) v3) (((tl + 4) + 4) + 4) v4) ((((tl + 4) + 4) + 4) + 4) v5) j))))]) [0, 1] rfl
    have hD9 := hD.sub (ws' := [(h0, .inr (2, [.ref qP, .int (nI (((((tl + 4) + 4) + 4) + 4) + 4)), .ref qW, .int (nI wn), .ref hT])), (qP, .inl (cI, 400, .inl (fun j => nI ((ap4 (ap4 (ap4 (ap4 (ap4 tp tl v1) (tl + 4) v2) ((tl + 4) + 4) v3) (((tl + 4) + 4) + 4) v4) ((((tl + 4) + 4) + 4) + 4) v5) j))))]) [0, 1] (by decide) rfl
    exact W.zret (v := nI 1) hx hb hr (by decide) (fun t ht hW => ⟨⟨nI 1, (((((tl + 4) + 4) + 4) + 4) + 4, ap4 (ap4 (ap4 (ap4 (ap4 tp tl v1) (tl + 4) v2) ((tl + 4) + 4) v3) (((tl + 4) + 4) + 4) v4) ((((tl + 4) + 4) + 4) + 4) v5), rfl, (show (nI 1) = (if tl ≤ 380 then 1 else 0) ∧ (((((tl + 4) + 4) + 4) + 4) + 4) = (if tl ≤ 380 then tl + 20 else tl) ∧ (ap4 (ap4 (ap4 (ap4 (ap4 tp tl v1) (tl + 4) v2) ((tl + 4) + 4) v3) (((tl + 4) + 4) + 4) v4) ((((tl + 4) + 4) + 4) + 4) v5) = (if tl ≤ 380 then fd5 tp tl v1 v2 v3 v4 v5 else tp) from ⟨by rw [if_pos c7]; rfl, by rw [if_pos c7], by rw [if_pos c7]; rfl⟩), by rw [ht]; exact hP9, va_K.moved hW.alike hK, hD9⟩, hS.F ht⟩) hS.2.2 dX2_feed_40
  · skip
    refine lv_iconst (v := nI 0) hx hb dX2_feed_10 (by decide) ?_
    have hP9 := hP.sub (ws' := [(h0, .inr (2, [.ref qP, .int (nI tl), .ref qW, .int (nI wn), .ref hT])), (qP, .inl (cI, 400, .inl (fun j => nI (tp j))))]) [0, 1] rfl
    have hD9 := hD.sub (ws' := [(h0, .inr (2, [.ref qP, .int (nI tl), .ref qW, .int (nI wn), .ref hT])), (qP, .inl (cI, 400, .inl (fun j => nI (tp j))))]) [0, 1] (by decide) rfl
    exact W.zret (v := nI 0) hx hb hr (by decide) (fun t ht hW => ⟨⟨nI 0, (tl, tp), rfl, (show (nI 0) = (if tl ≤ 380 then 1 else 0) ∧ tl = (if tl ≤ 380 then tl + 20 else tl) ∧ tp = (if tl ≤ 380 then fd5 tp tl v1 v2 v3 v4 v5 else tp) from ⟨by rw [if_neg (by omega)]; rfl, by rw [if_neg (by omega)], by rw [if_neg (by omega)]⟩), by rw [ht]; exact hP9, va_K.moved hW.alike hK, hD9⟩, hS.F ht⟩) hS.2.2 dX2_feed_11
