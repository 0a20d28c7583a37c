set_option maxHeartbeats 4000000 in
set_option maxRecDepth 100000 in
theorem c_X2_fitsPart (l : Launch) (dC : Nat → ClassId) (dI : Nat → Nat → Nat) (cI cJ cZ : ClassId) (h0 qP qW hT qT qL qR : Nat) (sz : Nat) (tl : Nat) (wn : Nat) (lt : Nat → Nat) (cnt : Nat) (fT : Nat → Int64) (fL : Nat → Int64) (fR : Nat → Int64) (ts : List (Option (Nat → Bool))) (f : Int32) (n : Int32) (hTR : TR ts fT fL cnt) (hc : cnt ≤ 400) (hwn : wn ≤ 400) (hlt : ∀ j, j < wn → lt j < 256) : Met l yX2_fitsPart wsX2_fitsPart ({ frames := 3, cells := 0, slots := 0, locals := 67 }) (va_Pc [.ref h0, .int f, .int n] (fun U => U.heap.size = sz ∧ va_P (dC, dI) vwCl [(h0, .inr (2, [.ref qP, .int (nI tl), .ref qW, .int (nI wn), .ref hT])), (qW, .inl (cI, 400, .inl (fun j => nI (lt j)))), (hT, .inr (1, [.ref qT, .ref qL, .ref qR, .int (nI cnt)])), (qT, .inl (cJ, 1792, .inr (.inl fT))), (qL, .inl (cJ, 7, .inr (.inl fL))), (qR, .inl (cJ, 7, .inr (.inl fR)))] U.heap ∧ va_K (dC, dI) vwCl [(cI, .int), (cJ, .long), (cZ, .boolean)] U ∧ va_D (fun _ => True) [(h0, .inr (2, [.ref qP, .int (nI tl), .ref qW, .int (nI wn), .ref hT])), (qW, .inl (cI, 400, .inl (fun j => nI (lt j)))), (hT, .inr (1, [.ref qT, .ref qL, .ref qR, .int (nI cnt)])), (qT, .inl (cJ, 1792, .inr (.inl fT))), (qL, .inl (cJ, 7, .inr (.inl fL))), (qR, .inl (cJ, 7, .inr (.inl fR)))])) (va_Qi (fun (r : Int32) (u : (Nat → Int64)) => r = if (okp f n wn && fz ts (fun j => lt (f.toNatClampNeg + j)) n.toNatClampNeg) = true then 1 else 0) (fun (u : (Nat → Int64)) (t : State) => va_P (dC, dI) vwCl [(h0, .inr (2, [.ref qP, .int (nI tl), .ref qW, .int (nI wn), .ref hT])), (qW, .inl (cI, 400, .inl (fun j => nI (lt j)))), (hT, .inr (1, [.ref qT, .ref qL, .ref qR, .int (nI cnt)])), (qT, .inl (cJ, 1792, .inr (.inl fT))), (qL, .inl (cJ, 7, .inr (.inl fL))), (qR, .inl (cJ, 7, .inr (.inl u)))] t.heap ∧ va_K (dC, dI) vwCl [(cI, .int), (cJ, .long), (cZ, .boolean)] t ∧ va_D (va_A [(h0, .inr (2, [.ref qP, .int (nI tl), .ref qW, .int (nI wn), .ref hT])), (qW, .inl (cI, 400, .inl (fun j => nI (lt j)))), (hT, .inr (1, [.ref qT, .ref qL, .ref qR, .int (nI cnt)])), (qT, .inl (cJ, 1792, .inr (.inl fT))), (qL, .inl (cJ, 7, .inr (.inl fL))), (qR, .inl (cJ, 7, .inr (.inl fR)))] sz) [(h0, .inr (2, [.ref qP, .int (nI tl), .ref qW, .int (nI wn), .ref hT])), (qW, .inl (cI, 400, .inl (fun j => nI (lt j)))), (hT, .inr (1, [.ref qT, .ref qL, .ref qR, .int (nI cnt)])), (qT, .inl (cJ, 1792, .inr (.inl fT))), (qL, .inl (cJ, 7, .inr (.inl fL))), (qR, .inl (cJ, 7, .inr (.inl u)))]) (va_A [(h0, .inr (2, [.ref qP, .int (nI tl), .ref qW, .int (nI wn), .ref hT])), (qW, .inl (cI, 400, .inl (fun j => nI (lt j)))), (hT, .inr (1, [.ref qT, .ref qL, .ref qR, .int (nI cnt)])), (qT, .inl (cJ, 1792, .inr (.inl fT))), (qL, .inl (cJ, 7, .inr (.inl fL))), (qR, .inl (cJ, 7, .inr (.inl fR)))] sz)) 0 0 (va_A [(h0, .inr (2, [.ref qP, .int (nI tl), .ref qW, .int (nI wn), .ref hT])), (qW, .inl (cI, 400, .inl (fun j => nI (lt j)))), (hT, .inr (1, [.ref qT, .ref qL, .ref qR, .int (nI cnt)])), (qT, .inl (cJ, 1792, .inr (.inl fT))), (qL, .inl (cJ, 7, .inr (.inl fL))), (qR, .inl (cJ, 7, .inr (.inl fR)))] sz) := by
  refine Met.ofW (cc := cX2_fitsPart) (maxL := 3) (ret := (some .boolean)) (by decide) rfl ?_
  intro p e s m args below meth c s₁ B hml hv
  obtain ⟨rfl, hsz, hP, hK, hD0⟩ := hv
  have hx := B.exec
  have hb := B.bytes
  have hr := B.returns
  have hts := atoms_spec (ws := wsX2_fitsPart) B.pre
  have hown : s.vm.findClass RX2 = some m.cls := findClass_of_methodNamed B.named
  have hlocks := B.notSynchronized
  subst hsz
  have hD := hD0.self (sz := s.heap.size)
  generalize hAe : va_A [(h0, .inr (2, [.ref qP, .int (nI tl), .ref qW, .int (nI wn), .ref hT])), (qW, .inl (cI, 400, .inl (fun j => nI (lt j)))), (hT, .inr (1, [.ref qT, .ref qL, .ref qR, .int (nI cnt)])), (qT, .inl (cJ, 1792, .inr (.inl fT))), (qL, .inl (cJ, 7, .inr (.inl fL))), (qR, .inl (cJ, 7, .inr (.inl fR)))] s.heap.size = A at hD ⊢
  have hA : ∀ q : Nat, s.heap.size ≤ q → A q := fun q h => by rw [← hAe]; exact Or.inr h
  have hS : va_S A s.heap s.heap [] := va_S.rf
  have hP : va_P (dC, dI) vwCl [(h0, .inr (2, [.ref qP, .int (nI tl), .ref qW, .int (nI wn), .ref hT])), (qW, .inl (cI, 400, .inl (fun j => nI (lt j)))), (hT, .inr (1, [.ref qT, .ref qL, .ref qR, .int (nI cnt)])), (qT, .inl (cJ, 1792, .inr (.inl fT))), (qL, .inl (cJ, 7, .inr (.inl fL))), (qR, .inl (cJ, 7, .inr (.inl fR)))] s.heap := hP
  have hl := lv_entry ([.ref h0, .int f, .int n]) (n := 3) (Nat.le_of_ble_eq_true rfl)
  rw [lg_entry_eq]
  generalize (lg_sl ([.ref h0, .int f, .int n]) ++ List.replicate (3 - (lg_sl ([.ref h0, .int f, .int n])).length) Slot.unset).toArray = ls at hl ⊢
  have hl : lv_has ls 3 [(0, .ref h0), (1, .int f), (2, .int n)] := hl
  skip
  refine lv_iload_n hx hb dX2_fitsPart_0 rfl (lv_at hl 1 rfl) ?_
  refine lv_if_lt (tgt := 18) hx hb dX2_fitsPart_1 (by decide) (fun c1 => ?_) (fun c1 => ?_)
  · skip
    refine lv_iconst (v := nI 0) hx hb dX2_fitsPart_18 (by decide) ?_
    have hP9 := hP.sub (ws' := [(h0, .inr (2, [.ref qP, .int (nI tl), .ref qW, .int (nI wn), .ref hT])), (qW, .inl (cI, 400, .inl (fun j => nI (lt j)))), (hT, .inr (1, [.ref qT, .ref qL, .ref qR, .int (nI cnt)])), (qT, .inl (cJ, 1792, .inr (.inl fT))), (qL, .inl (cJ, 7, .inr (.inl fL))), (qR, .inl (cJ, 7, .inr (.inl fR)))]) [0, 1, 2, 3, 4, 5] rfl
    have hD9 := hD.sub (ws' := [(h0, .inr (2, [.ref qP, .int (nI tl), .ref qW, .int (nI wn), .ref hT])), (qW, .inl (cI, 400, .inl (fun j => nI (lt j)))), (hT, .inr (1, [.ref qT, .ref qL, .ref qR, .int (nI cnt)])), (qT, .inl (cJ, 1792, .inr (.inl fT))), (qL, .inl (cJ, 7, .inr (.inl fL))), (qR, .inl (cJ, 7, .inr (.inl fR)))]) [0, 1, 2, 3, 4, 5] (by decide) rfl
    exact W.zret (v := nI 0) hx hb hr (by decide) (fun t ht hW => ⟨⟨nI 0, fR, rfl, (show (nI 0) = if (okp f n wn && fz ts (fun j => lt (f.toNatClampNeg + j)) n.toNatClampNeg) = true then 1 else 0 from okp_a c1), by rw [ht]; exact hP9, va_K.moved hW.alike hK, hD9⟩, hS.F ht⟩) hS.2.2 dX2_fitsPart_19
  · skip
    refine lv_iload_n hx hb dX2_fitsPart_4 rfl (lv_at hl 2 rfl) ?_
    refine lv_if_lt (tgt := 18) hx hb dX2_fitsPart_5 (by decide) (fun c5 => ?_) (fun c5 => ?_)
    · skip
      refine lv_iconst (v := nI 0) hx hb dX2_fitsPart_18 (by decide) ?_
      have hP9 := hP.sub (ws' := [(h0, .inr (2, [.ref qP, .int (nI tl), .ref qW, .int (nI wn), .ref hT])), (qW, .inl (cI, 400, .inl (fun j => nI (lt j)))), (hT, .inr (1, [.ref qT, .ref qL, .ref qR, .int (nI cnt)])), (qT, .inl (cJ, 1792, .inr (.inl fT))), (qL, .inl (cJ, 7, .inr (.inl fL))), (qR, .inl (cJ, 7, .inr (.inl fR)))]) [0, 1, 2, 3, 4, 5] rfl
      have hD9 := hD.sub (ws' := [(h0, .inr (2, [.ref qP, .int (nI tl), .ref qW, .int (nI wn), .ref hT])), (qW, .inl (cI, 400, .inl (fun j => nI (lt j)))), (hT, .inr (1, [.ref qT, .ref qL, .ref qR, .int (nI cnt)])), (qT, .inl (cJ, 1792, .inr (.inl fT))), (qL, .inl (cJ, 7, .inr (.inl fL))), (qR, .inl (cJ, 7, .inr (.inl fR)))]) [0, 1, 2, 3, 4, 5] (by decide) rfl
      exact W.zret (v := nI 0) hx hb hr (by decide) (fun t ht hW => ⟨⟨nI 0, fR, rfl, (show (nI 0) = if (okp f n wn && fz ts (fun j => lt (f.toNatClampNeg + j)) n.toNatClampNeg) = true then 1 else 0 from okp_b c5), by rw [ht]; exact hP9, va_K.moved hW.alike hK, hD9⟩, hS.F ht⟩) hS.2.2 dX2_fitsPart_19
    · skip
      refine lv_iload_n hx hb dX2_fitsPart_8 rfl (lv_at hl 2 rfl) ?_
      refine lv_aload_n hx hb dX2_fitsPart_9 rfl (lv_at hl 0 rfl) ?_
      refine va_get (D := (dC, dI)) (ci := 2) (v := .int (nI wn)) (C := RX2) (T := TX2) (N := 5) hx hb hts (by decide +kernel) hown hK hP 0 rfl rfl 3 (by decide) (hts (.fieldLink RX2 48 "WildCards" "letterCount" "I") (by decide +kernel)) (fun _ h9 => h9) rfl dX2_fitsPart_10 ?_
      refine lv_iload_n hx hb dX2_fitsPart_13 rfl (lv_at hl 1 rfl) ?_
      refine lv_isub hx hb dX2_fitsPart_14 ?_
      refine lv_icmp_le (tgt := 20) hx hb dX2_fitsPart_15 (by decide) (fun c15 => ?_) (fun c15 => ?_)
      · skip
        obtain ⟨i, k, ef, ek, hik⟩ := okp_d (by omega) c1 c5 c15
        refine lv_aload_n hx hb dX2_fitsPart_20 rfl (lv_at hl 0 rfl) ?_
        refine lv_iload_n hx hb dX2_fitsPart_21 rfl (lv_at hl 1 rfl) ?_
        refine wl_asi (y := nI i) (ef) ?_
        refine lv_iload_n hx hb dX2_fitsPart_22 rfl (lv_at hl 1 rfl) ?_
        refine wl_asi (y := nI i) (ef) ?_
        refine lv_iload_n hx hb dX2_fitsPart_23 rfl (lv_at hl 2 rfl) ?_
        refine wl_asi (y := nI k) (ek) ?_
        refine lv_iadd hx hb dX2_fitsPart_24 ?_
        refine wl_asi (y := nI (i + k)) (nI_add _ _) ?_
        have hPc := hP.sub (ws' := [(h0, .inr (2, [.ref qP, .int (nI tl), .ref qW, .int (nI wn), .ref hT])), (qW, .inl (cI, 400, .inl (fun j => nI (lt j)))), (hT, .inr (1, [.ref qT, .ref qL, .ref qR, .int (nI cnt)])), (qT, .inl (cJ, 1792, .inr (.inl fT))), (qL, .inl (cJ, 7, .inr (.inl fL))), (qR, .inl (cJ, 7, .inr (.inl fR)))]) [0, 1, 2, 3, 4, 5] rfl
        have hDc := hD.sub (ws' := [(h0, .inr (2, [.ref qP, .int (nI tl), .ref qW, .int (nI wn), .ref hT])), (qW, .inl (cI, 400, .inl (fun j => nI (lt j)))), (hT, .inr (1, [.ref qT, .ref qL, .ref qR, .int (nI cnt)])), (qT, .inl (cJ, 1792, .inr (.inl fT))), (qL, .inl (cJ, 7, .inr (.inl fL))), (qR, .inl (cJ, 7, .inr (.inl fR)))]) [0, 1, 2, 3, 4, 5] (by decide) rfl
        have hFc := va_free (wc := [(h0, .inr (2, [.ref qP, .int (nI tl), .ref qW, .int (nI wn), .ref hT])), (qW, .inl (cI, 400, .inl (fun j => nI (lt j)))), (hT, .inr (1, [.ref qT, .ref qL, .ref qR, .int (nI cnt)])), (qT, .inl (cJ, 1792, .inr (.inl fT))), (qL, .inl (cJ, 7, .inr (.inl fL))), (qR, .inl (cJ, 7, .inr (.inl fR)))]) hD hS hA [0, 1, 2, 3, 4, 5] rfl
        refine va_calli (va_runV (As := [.int (nI i), .int (nI (i + k))]) (rest := []) ⟨hx, hb, hml, hown, hts⟩ (c_X2_lettersFit l dC dI cI cJ cZ h0 qP qW hT qT qL qR s.heap.size tl wn lt cnt fT fL fR ts i (i + k) hTR hc hwn hlt (by omega) (by omega)) (cwV 2 hts gX2_fitsPart_X2_lettersFit rfl rfl rfl (by decide +kernel) ⟨Nat.le_of_ble_eq_true rfl, Nat.le_of_ble_eq_true rfl⟩) ⟨fun a U g mk q => by obtain ⟨q0, q1, qP, qK, qD⟩ := q; exact ⟨q0, q1, qP, va_K.moved (u := U) (U := U.calling g mk a) (Vm.Alike.refl U.vm) qK, qD⟩, va_recv hK hPc (ci := 2) (q0 := 0) rfl rfl, fun U hU hW => ⟨rfl, by rw [hU], by rw [hU]; exact hPc, va_K.moved hW.alike hK, hDc.weaken (fun _ _ _ _ => trivial)⟩⟩ rfl rfl hl.1 rfl (lv_room (Nat.le_of_ble_eq_true rfl)) dX2_fitsPart_25 ⟨show 0 + 0 ≤ 0 from by decide, show 0 + 0 ≤ 0 from by decide⟩) hS (fun q _ h => hFc q h) hFc (fun r25 u t H1 locs ht hvm hw25 hB hz1 hk1 hS => ?_)
        obtain ⟨fR225, rfl⟩ : ∃ z, z = u := ⟨_, rfl⟩
        obtain ⟨hP1, hK1, hD1⟩ := hB
        rw [ht] at hP1
        try dsimp only at hw25 hP1 hD1
        obtain ⟨hP, hD⟩ := va_join (wr := []) (w1 := [(h0, .inr (2, [.ref qP, .int (nI tl), .ref qW, .int (nI wn), .ref hT])), (qW, .inl (cI, 400, .inl (fun j => nI (lt j)))), (hT, .inr (1, [.ref qT, .ref qL, .ref qR, .int (nI cnt)])), (qT, .inl (cJ, 1792, .inr (.inl fT))), (qL, .inl (cJ, 7, .inr (.inl fL))), (qR, .inl (cJ, 7, .inr (.inl fR225)))]) hP hD [0, 1, 2, 3, 4, 5] [] rfl rfl (by decide) (by decide) hk1 hFc hP1 hD1
        generalize H1 = H at hP hS ⊢
        have hP : va_P (dC, dI) vwCl [(h0, .inr (2, [.ref qP, .int (nI tl), .ref qW, .int (nI wn), .ref hT])), (qW, .inl (cI, 400, .inl (fun j => nI (lt j)))), (hT, .inr (1, [.ref qT, .ref qL, .ref qR, .int (nI cnt)])), (qT, .inl (cJ, 1792, .inr (.inl fT))), (qL, .inl (cJ, 7, .inr (.inl fL))), (qR, .inl (cJ, 7, .inr (.inl fR225)))] H := hP
        have hD : va_D A [(h0, .inr (2, [.ref qP, .int (nI tl), .ref qW, .int (nI wn), .ref hT])), (qW, .inl (cI, 400, .inl (fun j => nI (lt j)))), (hT, .inr (1, [.ref qT, .ref qL, .ref qR, .int (nI cnt)])), (qT, .inl (cJ, 1792, .inr (.inl fT))), (qL, .inl (cJ, 7, .inr (.inl fL))), (qR, .inl (cJ, 7, .inr (.inl fR225)))] := hD
        have hP9 := hP.sub (ws' := [(h0, .inr (2, [.ref qP, .int (nI tl), .ref qW, .int (nI wn), .ref hT])), (qW, .inl (cI, 400, .inl (fun j => nI (lt j)))), (hT, .inr (1, [.ref qT, .ref qL, .ref qR, .int (nI cnt)])), (qT, .inl (cJ, 1792, .inr (.inl fT))), (qL, .inl (cJ, 7, .inr (.inl fL))), (qR, .inl (cJ, 7, .inr (.inl fR225)))]) [0, 1, 2, 3, 4, 5] rfl
        have hD9 := hD.sub (ws' := [(h0, .inr (2, [.ref qP, .int (nI tl), .ref qW, .int (nI wn), .ref hT])), (qW, .inl (cI, 400, .inl (fun j => nI (lt j)))), (hT, .inr (1, [.ref qT, .ref qL, .ref qR, .int (nI cnt)])), (qT, .inl (cJ, 1792, .inr (.inl fT))), (qL, .inl (cJ, 7, .inr (.inl fL))), (qR, .inl (cJ, 7, .inr (.inl fR225)))]) [0, 1, 2, 3, 4, 5] (by decide) rfl
        exact W.zret (v := r25) hx hb hr (wl_bool hw25) (fun t ht hW => ⟨⟨r25, fR225, rfl, (show r25 = if (okp f n wn && fz ts (fun j => lt (f.toNatClampNeg + j)) n.toNatClampNeg) = true then 1 else 0 from okp_1 ef ek hik hwn hw25), by rw [ht]; exact hP9, va_K.moved hW.alike hK, hD9⟩, hS.F ht⟩) hS.2.2 dX2_fitsPart_28
      · skip
        refine lv_iconst (v := nI 0) hx hb dX2_fitsPart_18 (by decide) ?_
        have hP9 := hP.sub (ws' := [(h0, .inr (2, [.ref qP, .int (nI tl), .ref qW, .int (nI wn), .ref hT])), (qW, .inl (cI, 400, .inl (fun j => nI (lt j)))), (hT, .inr (1, [.ref qT, .ref qL, .ref qR, .int (nI cnt)])), (qT, .inl (cJ, 1792, .inr (.inl fT))), (qL, .inl (cJ, 7, .inr (.inl fL))), (qR, .inl (cJ, 7, .inr (.inl fR)))]) [0, 1, 2, 3, 4, 5] rfl
        have hD9 := hD.sub (ws' := [(h0, .inr (2, [.ref qP, .int (nI tl), .ref qW, .int (nI wn), .ref hT])), (qW, .inl (cI, 400, .inl (fun j => nI (lt j)))), (hT, .inr (1, [.ref qT, .ref qL, .ref qR, .int (nI cnt)])), (qT, .inl (cJ, 1792, .inr (.inl fT))), (qL, .inl (cJ, 7, .inr (.inl fL))), (qR, .inl (cJ, 7, .inr (.inl fR)))]) [0, 1, 2, 3, 4, 5] (by decide) rfl
        exact W.zret (v := nI 0) hx hb hr (by decide) (fun t ht hW => ⟨⟨nI 0, fR, rfl, (show (nI 0) = if (okp f n wn && fz ts (fun j => lt (f.toNatClampNeg + j)) n.toNatClampNeg) = true then 1 else 0 from okp_c (by omega) c1 c5 c15), by rw [ht]; exact hP9, va_K.moved hW.alike hK, hD9⟩, hS.F ht⟩) hS.2.2 dX2_fitsPart_19
