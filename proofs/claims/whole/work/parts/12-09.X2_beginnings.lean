set_option maxHeartbeats 4000000 in
set_option maxRecDepth 100000 in
theorem c_X2_beginnings (l : Launch) (dC : Nat → ClassId) (dI : Nat → Nat → Nat) (cI cJ cZ : ClassId) (h0 qP qW hT qT qL qR : Nat) (sz : Nat) (tl : Nat) (wn : Nat) (lt : Nat → Nat) (cnt : Nat) (fT : Nat → Int64) (fL : Nat → Int64) (fR : Nat → Int64) (ts : List (Option (Nat → Bool))) (hTR : TR ts fT fL cnt) (hc : cnt ≤ 400) (hwn : wn ≤ 400) (hlt : ∀ j, j < wn → lt j < 256) : Met l yX2_beginnings wsX2_beginnings ({ frames := 2, cells := 0, slots := 0, locals := 44 }) (va_Pc [.ref h0] (fun U => U.heap.size = sz ∧ va_P (dC, dI) vwCl [(h0, .inr (2, [.ref qP, .int (nI tl), .ref qW, .int (nI wn), .ref hT])), (qW, .inl (cI, 400, .inl (fun j => nI (lt j)))), (hT, .inr (1, [.ref qT, .ref qL, .ref qR, .int (nI cnt)])), (qT, .inl (cJ, 1792, .inr (.inl fT))), (qL, .inl (cJ, 7, .inr (.inl fL))), (qR, .inl (cJ, 7, .inr (.inl fR)))] U.heap ∧ va_K (dC, dI) vwCl [(cI, .int), (cJ, .long), (cZ, .boolean)] U ∧ va_D (fun _ => True) [(h0, .inr (2, [.ref qP, .int (nI tl), .ref qW, .int (nI wn), .ref hT])), (qW, .inl (cI, 400, .inl (fun j => nI (lt j)))), (hT, .inr (1, [.ref qT, .ref qL, .ref qR, .int (nI cnt)])), (qT, .inl (cJ, 1792, .inr (.inl fT))), (qL, .inl (cJ, 7, .inr (.inl fL))), (qR, .inl (cJ, 7, .inr (.inl fR)))])) (va_Qi (fun (r : Int32) (u : (Nat → Int64)) => r = nI (bg ts lt wn)) (fun (u : (Nat → Int64)) (t : State) => va_P (dC, dI) vwCl [(h0, .inr (2, [.ref qP, .int (nI tl), .ref qW, .int (nI wn), .ref hT])), (qW, .inl (cI, 400, .inl (fun j => nI (lt j)))), (hT, .inr (1, [.ref qT, .ref qL, .ref qR, .int (nI cnt)])), (qT, .inl (cJ, 1792, .inr (.inl fT))), (qL, .inl (cJ, 7, .inr (.inl fL))), (qR, .inl (cJ, 7, .inr (.inl u)))] t.heap ∧ va_K (dC, dI) vwCl [(cI, .int), (cJ, .long), (cZ, .boolean)] t ∧ va_D (va_A [(h0, .inr (2, [.ref qP, .int (nI tl), .ref qW, .int (nI wn), .ref hT])), (qW, .inl (cI, 400, .inl (fun j => nI (lt j)))), (hT, .inr (1, [.ref qT, .ref qL, .ref qR, .int (nI cnt)])), (qT, .inl (cJ, 1792, .inr (.inl fT))), (qL, .inl (cJ, 7, .inr (.inl fL))), (qR, .inl (cJ, 7, .inr (.inl fR)))] sz) [(h0, .inr (2, [.ref qP, .int (nI tl), .ref qW, .int (nI wn), .ref hT])), (qW, .inl (cI, 400, .inl (fun j => nI (lt j)))), (hT, .inr (1, [.ref qT, .ref qL, .ref qR, .int (nI cnt)])), (qT, .inl (cJ, 1792, .inr (.inl fT))), (qL, .inl (cJ, 7, .inr (.inl fL))), (qR, .inl (cJ, 7, .inr (.inl u)))]) (va_A [(h0, .inr (2, [.ref qP, .int (nI tl), .ref qW, .int (nI wn), .ref hT])), (qW, .inl (cI, 400, .inl (fun j => nI (lt j)))), (hT, .inr (1, [.ref qT, .ref qL, .ref qR, .int (nI cnt)])), (qT, .inl (cJ, 1792, .inr (.inl fT))), (qL, .inl (cJ, 7, .inr (.inl fL))), (qR, .inl (cJ, 7, .inr (.inl fR)))] sz)) 0 0 (va_A [(h0, .inr (2, [.ref qP, .int (nI tl), .ref qW, .int (nI wn), .ref hT])), (qW, .inl (cI, 400, .inl (fun j => nI (lt j)))), (hT, .inr (1, [.ref qT, .ref qL, .ref qR, .int (nI cnt)])), (qT, .inl (cJ, 1792, .inr (.inl fT))), (qL, .inl (cJ, 7, .inr (.inl fL))), (qR, .inl (cJ, 7, .inr (.inl fR)))] sz) := by
  refine Met.ofW (cc := cX2_beginnings) (maxL := 3) (ret := (some .int)) (by decide) rfl ?_
  intro p e s m args below meth c s₁ B hml hv
  obtain ⟨rfl, hsz, hP, hK, hD0⟩ := hv
  have hx := B.exec
  have hb := B.bytes
  have hr := B.returns
  have hts := atoms_spec (ws := wsX2_beginnings) B.pre
  have hown : s.vm.findClass RX2 = some m.cls := findClass_of_methodNamed B.named
  have hlocks := B.notSynchronized
  subst hsz
  have hD := hD0.self (sz := s.heap.size)
  generalize hAe : va_A [(h0, .inr (2, [.ref qP, .int (nI tl), .ref qW, .int (nI wn), .ref hT])), (qW, .inl (cI, 400, .inl (fun j => nI (lt j)))), (hT, .inr (1, [.ref qT, .ref qL, .ref qR, .int (nI cnt)])), (qT, .inl (cJ, 1792, .inr (.inl fT))), (qL, .inl (cJ, 7, .inr (.inl fL))), (qR, .inl (cJ, 7, .inr (.inl fR)))] s.heap.size = A at hD ⊢
  have hA : ∀ q : Nat, s.heap.size ≤ q → A q := fun q h => by rw [← hAe]; exact Or.inr h
  have hS : va_S A s.heap s.heap [] := va_S.rf
  have hP : va_P (dC, dI) vwCl [(h0, .inr (2, [.ref qP, .int (nI tl), .ref qW, .int (nI wn), .ref hT])), (qW, .inl (cI, 400, .inl (fun j => nI (lt j)))), (hT, .inr (1, [.ref qT, .ref qL, .ref qR, .int (nI cnt)])), (qT, .inl (cJ, 1792, .inr (.inl fT))), (qL, .inl (cJ, 7, .inr (.inl fL))), (qR, .inl (cJ, 7, .inr (.inl fR)))] s.heap := hP
  have hl := lv_entry ([.ref h0]) (n := 3) (Nat.le_of_ble_eq_true rfl)
  rw [lg_entry_eq]
  generalize (lg_sl ([.ref h0]) ++ List.replicate (3 - (lg_sl ([.ref h0])).length) Slot.unset).toArray = ls at hl ⊢
  have hl : lv_has ls 3 [(0, .ref h0)] := hl
  skip
  refine lv_aload_n hx hb dX2_beginnings_0 rfl (lv_at hl 0 rfl) ?_
  refine va_get (D := (dC, dI)) (ci := 2) (v := .ref hT) (C := RX2) (T := TX2) (N := 5) hx hb hts (by decide +kernel) hown hK hP 0 rfl rfl 4 (by decide) (hts (.fieldLink RX2 19 "WildCards" "things" "LWildCards$Things;") (by decide +kernel)) (fun _ h9 => h9) rfl dX2_beginnings_1 ?_
  have hPc := hP.sub (ws' := [(hT, .inr (1, [.ref qT, .ref qL, .ref qR, .int (nI cnt)])), (qT, .inl (cJ, 1792, .inr (.inl fT))), (qL, .inl (cJ, 7, .inr (.inl fL))), (qR, .inl (cJ, 7, .inr (.inl fR)))]) [2, 3, 4, 5] rfl
  have hDc := hD.sub (ws' := [(hT, .inr (1, [.ref qT, .ref qL, .ref qR, .int (nI cnt)])), (qT, .inl (cJ, 1792, .inr (.inl fT))), (qL, .inl (cJ, 7, .inr (.inl fL))), (qR, .inl (cJ, 7, .inr (.inl fR)))]) [2, 3, 4, 5] (by decide) rfl
  have hFc := va_free (wc := [(hT, .inr (1, [.ref qT, .ref qL, .ref qR, .int (nI cnt)])), (qT, .inl (cJ, 1792, .inr (.inl fT))), (qL, .inl (cJ, 7, .inr (.inl fL))), (qR, .inl (cJ, 7, .inr (.inl fR)))]) hD hS hA [2, 3, 4, 5] rfl
  refine va_callv (va_runV (As := []) (rest := []) ⟨hx, hb, hml, hown, hts⟩ (c_X1_start l dC dI cI cJ cZ hT qT qL qR s.heap.size cnt fT fL fR ) (cwV 0 hts gX2_beginnings_X1_start rfl rfl rfl (by decide +kernel) ⟨Nat.le_of_ble_eq_true rfl, Nat.le_of_ble_eq_true rfl⟩) ⟨fun a U g mk q => by obtain ⟨q0, q1, qP, qK, qD⟩ := q; exact ⟨q0, q1, qP, va_K.moved (u := U) (U := U.calling g mk a) (Vm.Alike.refl U.vm) qK, qD⟩, va_recv hK hPc (ci := 1) (q0 := 0) rfl rfl, fun U hU hW => ⟨rfl, by rw [hU], by rw [hU]; exact hPc, va_K.moved hW.alike hK, hDc.weaken (fun _ _ _ _ => trivial)⟩⟩ rfl rfl hl.1 rfl (lv_room (Nat.le_of_ble_eq_true rfl)) dX2_beginnings_4 ⟨show 0 + 0 ≤ 0 from by decide, show 0 + 0 ≤ 0 from by decide⟩) hS (fun q _ h => hFc q h) hFc (fun u t H1 locs ht hvm hw4 hB hz1 hk1 hS => ?_)
  obtain ⟨fR24, rfl⟩ : ∃ z, z = u := ⟨_, rfl⟩
  obtain ⟨hP1, hK1, hD1⟩ := hB
  rw [ht] at hP1
  try dsimp only at hw4 hP1 hD1
  obtain ⟨hP, hD⟩ := va_join (wr := [(h0, .inr (2, [.ref qP, .int (nI tl), .ref qW, .int (nI wn), .ref hT])), (qW, .inl (cI, 400, .inl (fun j => nI (lt j))))]) (w1 := [(hT, .inr (1, [.ref qT, .ref qL, .ref qR, .int (nI cnt)])), (qT, .inl (cJ, 1792, .inr (.inl fT))), (qL, .inl (cJ, 7, .inr (.inl fL))), (qR, .inl (cJ, 7, .inr (.inl fR24)))]) hP hD [2, 3, 4, 5] [0, 1] rfl rfl (by decide) (by decide) hk1 hFc hP1 hD1
  generalize H1 = H at hP hS ⊢
  have hP : va_P (dC, dI) vwCl [(h0, .inr (2, [.ref qP, .int (nI tl), .ref qW, .int (nI wn), .ref hT])), (qW, .inl (cI, 400, .inl (fun j => nI (lt j)))), (hT, .inr (1, [.ref qT, .ref qL, .ref qR, .int (nI cnt)])), (qT, .inl (cJ, 1792, .inr (.inl fT))), (qL, .inl (cJ, 7, .inr (.inl fL))), (qR, .inl (cJ, 7, .inr (.inl fR24)))] H := hP
  have hD : va_D A [(h0, .inr (2, [.ref qP, .int (nI tl), .ref qW, .int (nI wn), .ref hT])), (qW, .inl (cI, 400, .inl (fun j => nI (lt j)))), (hT, .inr (1, [.ref qT, .ref qL, .ref qR, .int (nI cnt)])), (qT, .inl (cJ, 1792, .inr (.inl fT))), (qL, .inl (cJ, 7, .inr (.inl fL))), (qR, .inl (cJ, 7, .inr (.inl fR24)))] := hD
  refine lv_aload_n hx hb dX2_beginnings_7 rfl (lv_at hl 0 rfl) ?_
  refine va_get (D := (dC, dI)) (ci := 2) (v := .ref hT) (C := RX2) (T := TX2) (N := 5) hx hb hts (by decide +kernel) hown hK hP 0 rfl rfl 4 (by decide) (hts (.fieldLink RX2 19 "WildCards" "things" "LWildCards$Things;") (by decide +kernel)) (fun _ h9 => h9) rfl dX2_beginnings_8 ?_
  have hPc := hP.sub (ws' := [(hT, .inr (1, [.ref qT, .ref qL, .ref qR, .int (nI cnt)])), (qT, .inl (cJ, 1792, .inr (.inl fT))), (qL, .inl (cJ, 7, .inr (.inl fL))), (qR, .inl (cJ, 7, .inr (.inl fR24)))]) [2, 3, 4, 5] rfl
  have hDc := hD.sub (ws' := [(hT, .inr (1, [.ref qT, .ref qL, .ref qR, .int (nI cnt)])), (qT, .inl (cJ, 1792, .inr (.inl fT))), (qL, .inl (cJ, 7, .inr (.inl fL))), (qR, .inl (cJ, 7, .inr (.inl fR24)))]) [2, 3, 4, 5] (by decide) rfl
  have hFc := va_free (wc := [(hT, .inr (1, [.ref qT, .ref qL, .ref qR, .int (nI cnt)])), (qT, .inl (cJ, 1792, .inr (.inl fT))), (qL, .inl (cJ, 7, .inr (.inl fL))), (qR, .inl (cJ, 7, .inr (.inl fR24)))]) hD hS hA [2, 3, 4, 5] rfl
  refine va_calli (va_runV (As := []) (rest := []) ⟨hx, hb, hml, hown, hts⟩ (c_X1_endIsReached l dC dI cI cJ cZ hT qT qL qR H.size cnt fT fL fR24 (by omega)) (cwV 0 hts gX2_beginnings_X1_endIsReached rfl rfl rfl (by decide +kernel) ⟨Nat.le_of_ble_eq_true rfl, Nat.le_of_ble_eq_true rfl⟩) ⟨fun a U g mk q => by obtain ⟨q0, q1, qP, qK, qD⟩ := q; exact ⟨q0, q1, qP, va_K.moved (u := U) (U := U.calling g mk a) (Vm.Alike.refl U.vm) qK, qD⟩, va_recv hK hPc (ci := 1) (q0 := 0) rfl rfl, fun U hU hW => ⟨rfl, by rw [hU], by rw [hU]; exact hPc, va_K.moved hW.alike hK, hDc.weaken (fun _ _ _ _ => trivial)⟩⟩ rfl rfl hl.1 rfl (lv_room (Nat.le_of_ble_eq_true rfl)) dX2_beginnings_11 ⟨show 0 + 0 + 0 ≤ 0 from by decide, show 0 + 0 + 0 ≤ 0 from by decide⟩) hS (fun q _ h => hFc q h) hFc (fun r11 u t H1 locs ht hvm hw11 hB hz1 hk1 hS => ?_)
  obtain ⟨hP1, hK1, hD1⟩ := hB
  rw [ht] at hP1
  try dsimp only at hw11 hP1 hD1
  obtain ⟨hP, hD⟩ := va_join (wr := [(h0, .inr (2, [.ref qP, .int (nI tl), .ref qW, .int (nI wn), .ref hT])), (qW, .inl (cI, 400, .inl (fun j => nI (lt j))))]) (w1 := [(hT, .inr (1, [.ref qT, .ref qL, .ref qR, .int (nI cnt)])), (qT, .inl (cJ, 1792, .inr (.inl fT))), (qL, .inl (cJ, 7, .inr (.inl fL))), (qR, .inl (cJ, 7, .inr (.inl fR24)))]) hP hD [2, 3, 4, 5] [0, 1] rfl rfl (by decide) (by decide) hk1 hFc hP1 hD1
  generalize H1 = H at hP hS ⊢
  have hP : va_P (dC, dI) vwCl [(h0, .inr (2, [.ref qP, .int (nI tl), .ref qW, .int (nI wn), .ref hT])), (qW, .inl (cI, 400, .inl (fun j => nI (lt j)))), (hT, .inr (1, [.ref qT, .ref qL, .ref qR, .int (nI cnt)])), (qT, .inl (cJ, 1792, .inr (.inl fT))), (qL, .inl (cJ, 7, .inr (.inl fL))), (qR, .inl (cJ, 7, .inr (.inl fR24)))] H := hP
  have hD : va_D A [(h0, .inr (2, [.ref qP, .int (nI tl), .ref qW, .int (nI wn), .ref hT])), (qW, .inl (cI, 400, .inl (fun j => nI (lt j)))), (hT, .inr (1, [.ref qT, .ref qL, .ref qR, .int (nI cnt)])), (qT, .inl (cJ, 1792, .inr (.inl fT))), (qL, .inl (cJ, 7, .inr (.inl fL))), (qR, .inl (cJ, 7, .inr (.inl fR24)))] := hD
  by_cases hz : lb fR24 cnt = true
  · skip
    refine wl_asi (y := nI 1) (by rw [hw11, if_pos hz]; rfl) ?_
    refine lv_if_eq (tgt := 21) hx hb dX2_beginnings_14 (by decide) (fun c14 => ?_) (fun c14 => ?_)
    · first | exact absurd c14 (by decide) | exact absurd (by decide) c14
    · skip
      refine lv_iconst (v := nI 1) hx hb dX2_beginnings_17 (by decide) ?_
      refine lv_goto (tgt := 22) hx hb dX2_beginnings_18 (by decide) ?_
      refine lv_istore_n (lv' := [(1, .int (nI 1)), (0, .ref h0)]) hx hb dX2_beginnings_22 rfl hl (by decide) rfl (fun ls hl => ?_)
      refine lv_iconst (v := nI 0) hx hb dX2_beginnings_23 (by decide) ?_
      refine lv_istore_n (lv' := [(2, .int (nI 0)), (1, .int (nI 1)), (0, .ref h0)]) hx hb dX2_beginnings_24 rfl hl (by decide) rfl (fun ls hl => ?_)
      refine wl_loop (σ := Nat × (Nat → Int64) × Nat) (fun z9 => wn - z9.1) (fun z9 H locs ls => (z9.1 ≤ wn) ∧ (∀ k, k < 448 → lb z9.2.1 k = rch (tT ts) (tL ts) lt z9.1 k) ∧ (z9.2.2 = bg ts lt z9.1) ∧ (z9.2.2 ≤ z9.1 + 1) ∧ va_P (dC, dI) vwCl [(h0, .inr (2, [.ref qP, .int (nI tl), .ref qW, .int (nI wn), .ref hT])), (qW, .inl (cI, 400, .inl (fun j => nI (lt j)))), (hT, .inr (1, [.ref qT, .ref qL, .ref qR, .int (nI cnt)])), (qT, .inl (cJ, 1792, .inr (.inl fT))), (qL, .inl (cJ, 7, .inr (.inl fL))), (qR, .inl (cJ, 7, .inr (.inl z9.2.1)))] H ∧ va_D A [(h0, .inr (2, [.ref qP, .int (nI tl), .ref qW, .int (nI wn), .ref hT])), (qW, .inl (cI, 400, .inl (fun j => nI (lt j)))), (hT, .inr (1, [.ref qT, .ref qL, .ref qR, .int (nI cnt)])), (qT, .inl (cJ, 1792, .inr (.inl fT))), (qL, .inl (cJ, 7, .inr (.inl fL))), (qR, .inl (cJ, 7, .inr (.inl z9.2.1)))] ∧ va_S A s.heap H locs ∧ lv_has ls 3 [(0, .ref h0), (1, .int (nI z9.2.2)), (2, .int (nI z9.1))]) ?_ (0, fR24, 1) ⟨(show (0) ≤ wn from Nat.zero_le _), (show ∀ k, k < 448 → lb fR24 k = rch (tT ts) (tL ts) lt (0) k from fun k hk => by rw [hw4 k hk]; rfl), (show (1) = bg ts lt (0) from bg_01 hTR hc hw4 hz), (show (1) ≤ (0) + 1 from by omega), hP.sub [0, 1, 2, 3, 4, 5] rfl, hD.sub [0, 1, 2, 3, 4, 5] (by decide) rfl, hS, lv_sub hl [2, 1, 0] rfl⟩
      intro z9 H locs ls hI ih25
      obtain ⟨i, g, o⟩ := z9
      obtain ⟨hi, hg, ho, ho2, hP, hD, hS, hl⟩ := hI
      try dsimp only at hi hg ho ho2 hP hD hl
      have hP : va_P (dC, dI) vwCl [(h0, .inr (2, [.ref qP, .int (nI tl), .ref qW, .int (nI wn), .ref hT])), (qW, .inl (cI, 400, .inl (fun j => nI (lt j)))), (hT, .inr (1, [.ref qT, .ref qL, .ref qR, .int (nI cnt)])), (qT, .inl (cJ, 1792, .inr (.inl fT))), (qL, .inl (cJ, 7, .inr (.inl fL))), (qR, .inl (cJ, 7, .inr (.inl g)))] H := hP
      have hD : va_D A [(h0, .inr (2, [.ref qP, .int (nI tl), .ref qW, .int (nI wn), .ref hT])), (qW, .inl (cI, 400, .inl (fun j => nI (lt j)))), (hT, .inr (1, [.ref qT, .ref qL, .ref qR, .int (nI cnt)])), (qT, .inl (cJ, 1792, .inr (.inl fT))), (qL, .inl (cJ, 7, .inr (.inl fL))), (qR, .inl (cJ, 7, .inr (.inl g)))] := hD
      have hl : lv_has ls 3 [(0, .ref h0), (1, .int (nI o)), (2, .int (nI i))] := hl
      refine lv_iload_n hx hb dX2_beginnings_25 rfl (lv_at hl 2 rfl) ?_
      refine lv_aload_n hx hb dX2_beginnings_26 rfl (lv_at hl 0 rfl) ?_
      refine va_get (D := (dC, dI)) (ci := 2) (v := .int (nI wn)) (C := RX2) (T := TX2) (N := 5) hx hb hts (by decide +kernel) hown hK hP 0 rfl rfl 3 (by decide) (hts (.fieldLink RX2 48 "WildCards" "letterCount" "I") (by decide +kernel)) (fun _ h9 => h9) rfl dX2_beginnings_27 ?_
      refine wl_icmp_ge (tgt := 65) hx hb dX2_beginnings_30 (by decide) (by omega) (by omega) (fun c30 => ?_) (fun c30 => ?_)
      · skip
        refine lv_iload_n hx hb dX2_beginnings_65 rfl (lv_at hl 1 rfl) ?_
        have hP9 := hP.sub (ws' := [(h0, .inr (2, [.ref qP, .int (nI tl), .ref qW, .int (nI wn), .ref hT])), (qW, .inl (cI, 400, .inl (fun j => nI (lt j)))), (hT, .inr (1, [.ref qT, .ref qL, .ref qR, .int (nI cnt)])), (qT, .inl (cJ, 1792, .inr (.inl fT))), (qL, .inl (cJ, 7, .inr (.inl fL))), (qR, .inl (cJ, 7, .inr (.inl g)))]) [0, 1, 2, 3, 4, 5] rfl
        have hD9 := hD.sub (ws' := [(h0, .inr (2, [.ref qP, .int (nI tl), .ref qW, .int (nI wn), .ref hT])), (qW, .inl (cI, 400, .inl (fun j => nI (lt j)))), (hT, .inr (1, [.ref qT, .ref qL, .ref qR, .int (nI cnt)])), (qT, .inl (cJ, 1792, .inr (.inl fT))), (qL, .inl (cJ, 7, .inr (.inl fL))), (qR, .inl (cJ, 7, .inr (.inl g)))]) [0, 1, 2, 3, 4, 5] (by decide) rfl
        exact W.iret (v := nI o) hx hb hr  (fun t ht hW => ⟨⟨nI o, g, rfl, (show (nI o) = nI (bg ts lt wn) from by rw [ho, show i = wn by omega]), by rw [ht]; exact hP9, va_K.moved hW.alike hK, hD9⟩, hS.F ht⟩) hS.2.2 dX2_beginnings_66
      · skip
        have h8 := hlt i (by omega)
        refine lv_aload_n hx hb dX2_beginnings_33 rfl (lv_at hl 0 rfl) ?_
        refine va_get (D := (dC, dI)) (ci := 2) (v := .ref hT) (C := RX2) (T := TX2) (N := 5) hx hb hts (by decide +kernel) hown hK hP 0 rfl rfl 4 (by decide) (hts (.fieldLink RX2 19 "WildCards" "things" "LWildCards$Things;") (by decide +kernel)) (fun _ h9 => h9) rfl dX2_beginnings_34 ?_
        refine lv_aload_n hx hb dX2_beginnings_37 rfl (lv_at hl 0 rfl) ?_
        refine va_get (D := (dC, dI)) (ci := 2) (v := .ref qW) (C := RX2) (T := TX2) (N := 5) hx hb hts (by decide +kernel) hown hK hP 0 rfl rfl 2 (by decide) (hts (.fieldLink RX2 13 "WildCards" "letters" "[I") (by decide +kernel)) (fun _ h9 => h9) rfl dX2_beginnings_38 ?_
        refine lv_iload_n hx hb dX2_beginnings_41 rfl (lv_at hl 2 rfl) ?_
        refine va_iald hx hb hK hP 1 0 rfl rfl (vp_in_nI (by omega) (by omega)) dX2_beginnings_42 ?_
        refine wl_asi (y := nI (lt i)) (by rw [nI_clamp (by omega)]) ?_
        have hPc := hP.sub (ws' := [(hT, .inr (1, [.ref qT, .ref qL, .ref qR, .int (nI cnt)])), (qT, .inl (cJ, 1792, .inr (.inl fT))), (qL, .inl (cJ, 7, .inr (.inl fL))), (qR, .inl (cJ, 7, .inr (.inl g)))]) [2, 3, 4, 5] rfl
        have hDc := hD.sub (ws' := [(hT, .inr (1, [.ref qT, .ref qL, .ref qR, .int (nI cnt)])), (qT, .inl (cJ, 1792, .inr (.inl fT))), (qL, .inl (cJ, 7, .inr (.inl fL))), (qR, .inl (cJ, 7, .inr (.inl g)))]) [2, 3, 4, 5] (by decide) rfl
        have hFc := va_free (wc := [(hT, .inr (1, [.ref qT, .ref qL, .ref qR, .int (nI cnt)])), (qT, .inl (cJ, 1792, .inr (.inl fT))), (qL, .inl (cJ, 7, .inr (.inl fL))), (qR, .inl (cJ, 7, .inr (.inl g)))]) hD hS hA [2, 3, 4, 5] rfl
        refine va_callv (va_runV (As := [.int (nI (lt i))]) (rest := []) ⟨hx, hb, hml, hown, hts⟩ (c_X1_step l dC dI cI cJ cZ hT qT qL qR H.size cnt fT fL g (lt i) h8) (cwV 1 hts gX2_beginnings_X1_step rfl rfl rfl (by decide +kernel) ⟨Nat.le_of_ble_eq_true rfl, Nat.le_of_ble_eq_true rfl⟩) ⟨fun a U g mk q => by obtain ⟨q0, q1, qP, qK, qD⟩ := q; exact ⟨q0, q1, qP, va_K.moved (u := U) (U := U.calling g mk a) (Vm.Alike.refl U.vm) qK, qD⟩, va_recv hK hPc (ci := 1) (q0 := 0) rfl rfl, fun U hU hW => ⟨rfl, by rw [hU], by rw [hU]; exact hPc, va_K.moved hW.alike hK, hDc.weaken (fun _ _ _ _ => trivial)⟩⟩ rfl rfl hl.1 rfl (lv_room (Nat.le_of_ble_eq_true rfl)) dX2_beginnings_43 ⟨show 0 + 0 + 0 + 0 ≤ 0 from by decide, show 0 + 0 + 0 + 0 ≤ 0 from by decide⟩) hS (fun q _ h => hFc q h) hFc (fun u t H1 locs ht hvm hw43 hB hz1 hk1 hS => ?_)
        obtain ⟨fR243, rfl⟩ : ∃ z, z = u := ⟨_, rfl⟩
        obtain ⟨hP1, hK1, hD1⟩ := hB
        rw [ht] at hP1
        try dsimp only at hw43 hP1 hD1
        obtain ⟨hP, hD⟩ := va_join (wr := [(h0, .inr (2, [.ref qP, .int (nI tl), .ref qW, .int (nI wn), .ref hT])), (qW, .inl (cI, 400, .inl (fun j => nI (lt j))))]) (w1 := [(hT, .inr (1, [.ref qT, .ref qL, .ref qR, .int (nI cnt)])), (qT, .inl (cJ, 1792, .inr (.inl fT))), (qL, .inl (cJ, 7, .inr (.inl fL))), (qR, .inl (cJ, 7, .inr (.inl fR243)))]) hP hD [2, 3, 4, 5] [0, 1] rfl rfl (by decide) (by decide) hk1 hFc hP1 hD1
        generalize H1 = H at hP hS ⊢
        have hP : va_P (dC, dI) vwCl [(h0, .inr (2, [.ref qP, .int (nI tl), .ref qW, .int (nI wn), .ref hT])), (qW, .inl (cI, 400, .inl (fun j => nI (lt j)))), (hT, .inr (1, [.ref qT, .ref qL, .ref qR, .int (nI cnt)])), (qT, .inl (cJ, 1792, .inr (.inl fT))), (qL, .inl (cJ, 7, .inr (.inl fL))), (qR, .inl (cJ, 7, .inr (.inl fR243)))] H := hP
        have hD : va_D A [(h0, .inr (2, [.ref qP, .int (nI tl), .ref qW, .int (nI wn), .ref hT])), (qW, .inl (cI, 400, .inl (fun j => nI (lt j)))), (hT, .inr (1, [.ref qT, .ref qL, .ref qR, .int (nI cnt)])), (qT, .inl (cJ, 1792, .inr (.inl fT))), (qL, .inl (cJ, 7, .inr (.inl fL))), (qR, .inl (cJ, 7, .inr (.inl fR243)))] := hD
        refine lv_aload_n hx hb dX2_beginnings_46 rfl (lv_at hl 0 rfl) ?_
        refine va_get (D := (dC, dI)) (ci := 2) (v := .ref hT) (C := RX2) (T := TX2) (N := 5) hx hb hts (by decide +kernel) hown hK hP 0 rfl rfl 4 (by decide) (hts (.fieldLink RX2 19 "WildCards" "things" "LWildCards$Things;") (by decide +kernel)) (fun _ h9 => h9) rfl dX2_beginnings_47 ?_
        have hPc := hP.sub (ws' := [(hT, .inr (1, [.ref qT, .ref qL, .ref qR, .int (nI cnt)])), (qT, .inl (cJ, 1792, .inr (.inl fT))), (qL, .inl (cJ, 7, .inr (.inl fL))), (qR, .inl (cJ, 7, .inr (.inl fR243)))]) [2, 3, 4, 5] rfl
        have hDc := hD.sub (ws' := [(hT, .inr (1, [.ref qT, .ref qL, .ref qR, .int (nI cnt)])), (qT, .inl (cJ, 1792, .inr (.inl fT))), (qL, .inl (cJ, 7, .inr (.inl fL))), (qR, .inl (cJ, 7, .inr (.inl fR243)))]) [2, 3, 4, 5] (by decide) rfl
        have hFc := va_free (wc := [(hT, .inr (1, [.ref qT, .ref qL, .ref qR, .int (nI cnt)])), (qT, .inl (cJ, 1792, .inr (.inl fT))), (qL, .inl (cJ, 7, .inr (.inl fL))), (qR, .inl (cJ, 7, .inr (.inl fR243)))]) hD hS hA [2, 3, 4, 5] rfl
        refine va_calli (va_runV (As := []) (rest := []) ⟨hx, hb, hml, hown, hts⟩ (c_X1_endIsReached l dC dI cI cJ cZ hT qT qL qR H.size cnt fT fL fR243 (by omega)) (cwV 0 hts gX2_beginnings_X1_endIsReached rfl rfl rfl (by decide +kernel) ⟨Nat.le_of_ble_eq_true rfl, Nat.le_of_ble_eq_true rfl⟩) ⟨fun a U g mk q => by obtain ⟨q0, q1, qP, qK, qD⟩ := q; exact ⟨q0, q1, qP, va_K.moved (u := U) (U := U.calling g mk a) (Vm.Alike.refl U.vm) qK, qD⟩, va_recv hK hPc (ci := 1) (q0 := 0) rfl rfl, fun U hU hW => ⟨rfl, by rw [hU], by rw [hU]; exact hPc, va_K.moved hW.alike hK, hDc.weaken (fun _ _ _ _ => trivial)⟩⟩ rfl rfl hl.1 rfl (lv_room (Nat.le_of_ble_eq_true rfl)) dX2_beginnings_50 ⟨show 0 + 0 + 0 + 0 + 0 ≤ 0 from by decide, show 0 + 0 + 0 + 0 + 0 ≤ 0 from by decide⟩) hS (fun q _ h => hFc q h) hFc (fun r50 u t H1 locs ht hvm hw50 hB hz1 hk1 hS => ?_)
        obtain ⟨hP1, hK1, hD1⟩ := hB
        rw [ht] at hP1
        try dsimp only at hw50 hP1 hD1
        obtain ⟨hP, hD⟩ := va_join (wr := [(h0, .inr (2, [.ref qP, .int (nI tl), .ref qW, .int (nI wn), .ref hT])), (qW, .inl (cI, 400, .inl (fun j => nI (lt j))))]) (w1 := [(hT, .inr (1, [.ref qT, .ref qL, .ref qR, .int (nI cnt)])), (qT, .inl (cJ, 1792, .inr (.inl fT))), (qL, .inl (cJ, 7, .inr (.inl fL))), (qR, .inl (cJ, 7, .inr (.inl fR243)))]) hP hD [2, 3, 4, 5] [0, 1] rfl rfl (by decide) (by decide) hk1 hFc hP1 hD1
        generalize H1 = H at hP hS ⊢
        have hP : va_P (dC, dI) vwCl [(h0, .inr (2, [.ref qP, .int (nI tl), .ref qW, .int (nI wn), .ref hT])), (qW, .inl (cI, 400, .inl (fun j => nI (lt j)))), (hT, .inr (1, [.ref qT, .ref qL, .ref qR, .int (nI cnt)])), (qT, .inl (cJ, 1792, .inr (.inl fT))), (qL, .inl (cJ, 7, .inr (.inl fL))), (qR, .inl (cJ, 7, .inr (.inl fR243)))] H := hP
        have hD : va_D A [(h0, .inr (2, [.ref qP, .int (nI tl), .ref qW, .int (nI wn), .ref hT])), (qW, .inl (cI, 400, .inl (fun j => nI (lt j)))), (hT, .inr (1, [.ref qT, .ref qL, .ref qR, .int (nI cnt)])), (qT, .inl (cJ, 1792, .inr (.inl fT))), (qL, .inl (cJ, 7, .inr (.inl fL))), (qR, .inl (cJ, 7, .inr (.inl fR243)))] := hD
        by_cases hz2 : lb fR243 cnt = true
        · skip
          refine wl_asi (y := nI 1) (by rw [hw50, if_pos hz2]; rfl) ?_
          refine lv_if_eq (tgt := 59) hx hb dX2_beginnings_53 (by decide) (fun c53 => ?_) (fun c53 => ?_)
          · first | exact absurd c53 (by decide) | exact absurd (by decide) c53
          · skip
            refine lv_iinc (v := nI (o + 1)) (lv' := [(1, .int (nI (o + 1))), (0, .ref h0), (2, .int (nI i))]) hx hb dX2_beginnings_56 hl (k := 1) rfl (wl_inc _ _ (by decide)) (by decide) rfl (fun ls hl => ?_)
            refine lv_iinc (v := nI (i + 1)) (lv' := [(2, .int (nI (i + 1))), (1, .int (nI (o + 1))), (0, .ref h0)]) hx hb dX2_beginnings_59 hl (k := 2) rfl (wl_inc _ _ (by decide)) (by decide) rfl (fun ls hl => ?_)
            refine lv_goto (tgt := 25) hx hb dX2_beginnings_62 (by decide) ?_
            exact ih25 (i + 1, fR243, o + 1) H locs ls ⟨(show (i + 1) ≤ wn from by omega), (show ∀ k, k < 448 → lb fR243 k = rch (tT ts) (tL ts) lt (i + 1) k from RC_s hTR hg rfl h8 hw43), (show (o + 1) = bg ts lt (i + 1) from bg_s1 hTR hc (RC_s hTR hg rfl h8 hw43) hz2 ho), (show (o + 1) ≤ (i + 1) + 1 from by omega), hP.sub [0, 1, 2, 3, 4, 5] rfl, hD.sub [0, 1, 2, 3, 4, 5] (by decide) rfl, hS, lv_sub hl [2, 1, 0] rfl⟩ (by (try dsimp only); omega)
        · skip
          refine wl_asi (y := nI 0) (by rw [hw50, if_neg hz2]; rfl) ?_
          refine lv_if_eq (tgt := 59) hx hb dX2_beginnings_53 (by decide) (fun c53 => ?_) (fun c53 => ?_)
          rotate_left
          · first | exact absurd c53 (by decide) | exact absurd (by decide) c53
          · skip
            refine lv_iinc (v := nI (i + 1)) (lv' := [(2, .int (nI (i + 1))), (0, .ref h0), (1, .int (nI o))]) hx hb dX2_beginnings_59 hl (k := 2) rfl (wl_inc _ _ (by decide)) (by decide) rfl (fun ls hl => ?_)
            refine lv_goto (tgt := 25) hx hb dX2_beginnings_62 (by decide) ?_
            exact ih25 (i + 1, fR243, o) H locs ls ⟨(show (i + 1) ≤ wn from by omega), (show ∀ k, k < 448 → lb fR243 k = rch (tT ts) (tL ts) lt (i + 1) k from RC_s hTR hg rfl h8 hw43), (show o = bg ts lt (i + 1) from bg_s0 hTR hc (RC_s hTR hg rfl h8 hw43) hz2 ho), (show o ≤ (i + 1) + 1 from by omega), hP.sub [0, 1, 2, 3, 4, 5] rfl, hD.sub [0, 1, 2, 3, 4, 5] (by decide) rfl, hS, lv_sub hl [1, 2, 0] rfl⟩ (by (try dsimp only); omega)
  · skip
    refine wl_asi (y := nI 0) (by rw [hw11, if_neg hz]; rfl) ?_
    refine lv_if_eq (tgt := 21) hx hb dX2_beginnings_14 (by decide) (fun c14 => ?_) (fun c14 => ?_)
    rotate_left
    · first | exact absurd c14 (by decide) | exact absurd (by decide) c14
    · skip
      refine lv_iconst (v := nI 0) hx hb dX2_beginnings_21 (by decide) ?_
      refine lv_istore_n (lv' := [(1, .int (nI 0)), (0, .ref h0)]) hx hb dX2_beginnings_22 rfl hl (by decide) rfl (fun ls hl => ?_)
      refine lv_iconst (v := nI 0) hx hb dX2_beginnings_23 (by decide) ?_
      refine lv_istore_n (lv' := [(2, .int (nI 0)), (1, .int (nI 0)), (0, .ref h0)]) hx hb dX2_beginnings_24 rfl hl (by decide) rfl (fun ls hl => ?_)
      refine wl_loop (σ := Nat × (Nat → Int64) × Nat) (fun z9 => wn - z9.1) (fun z9 H locs ls => (z9.1 ≤ wn) ∧ (∀ k, k < 448 → lb z9.2.1 k = rch (tT ts) (tL ts) lt z9.1 k) ∧ (z9.2.2 = bg ts lt z9.1) ∧ (z9.2.2 ≤ z9.1 + 1) ∧ va_P (dC, dI) vwCl [(h0, .inr (2, [.ref qP, .int (nI tl), .ref qW, .int (nI wn), .ref hT])), (qW, .inl (cI, 400, .inl (fun j => nI (lt j)))), (hT, .inr (1, [.ref qT, .ref qL, .ref qR, .int (nI cnt)])), (qT, .inl (cJ, 1792, .inr (.inl fT))), (qL, .inl (cJ, 7, .inr (.inl fL))), (qR, .inl (cJ, 7, .inr (.inl z9.2.1)))] H ∧ va_D A [(h0, .inr (2, [.ref qP, .int (nI tl), .ref qW, .int (nI wn), .ref hT])), (qW, .inl (cI, 400, .inl (fun j => nI (lt j)))), (hT, .inr (1, [.ref qT, .ref qL, .ref qR, .int (nI cnt)])), (qT, .inl (cJ, 1792, .inr (.inl fT))), (qL, .inl (cJ, 7, .inr (.inl fL))), (qR, .inl (cJ, 7, .inr (.inl z9.2.1)))] ∧ va_S A s.heap H locs ∧ lv_has ls 3 [(0, .ref h0), (1, .int (nI z9.2.2)), (2, .int (nI z9.1))]) ?_ (0, fR24, 0) ⟨(show (0) ≤ wn from Nat.zero_le _), (show ∀ k, k < 448 → lb fR24 k = rch (tT ts) (tL ts) lt (0) k from fun k hk => by rw [hw4 k hk]; rfl), (show (0) = bg ts lt (0) from bg_00 hTR hc hw4 hz), (show (0) ≤ (0) + 1 from by omega), hP.sub [0, 1, 2, 3, 4, 5] rfl, hD.sub [0, 1, 2, 3, 4, 5] (by decide) rfl, hS, lv_sub hl [2, 1, 0] rfl⟩
      intro z9 H locs ls hI ih25
      obtain ⟨i, g, o⟩ := z9
      obtain ⟨hi, hg, ho, ho2, hP, hD, hS, hl⟩ := hI
      try dsimp only at hi hg ho ho2 hP hD hl
      have hP : va_P (dC, dI) vwCl [(h0, .inr (2, [.ref qP, .int (nI tl), .ref qW, .int (nI wn), .ref hT])), (qW, .inl (cI, 400, .inl (fun j => nI (lt j)))), (hT, .inr (1, [.ref qT, .ref qL, .ref qR, .int (nI cnt)])), (qT, .inl (cJ, 1792, .inr (.inl fT))), (qL, .inl (cJ, 7, .inr (.inl fL))), (qR, .inl (cJ, 7, .inr (.inl g)))] H := hP
      have hD : va_D A [(h0, .inr (2, [.ref qP, .int (nI tl), .ref qW, .int (nI wn), .ref hT])), (qW, .inl (cI, 400, .inl (fun j => nI (lt j)))), (hT, .inr (1, [.ref qT, .ref qL, .ref qR, .int (nI cnt)])), (qT, .inl (cJ, 1792, .inr (.inl fT))), (qL, .inl (cJ, 7, .inr (.inl fL))), (qR, .inl (cJ, 7, .inr (.inl g)))] := hD
      have hl : lv_has ls 3 [(0, .ref h0), (1, .int (nI o)), (2, .int (nI i))] := hl
      refine lv_iload_n hx hb dX2_beginnings_25 rfl (lv_at hl 2 rfl) ?_
      refine lv_aload_n hx hb dX2_beginnings_26 rfl (lv_at hl 0 rfl) ?_
      refine va_get (D := (dC, dI)) (ci := 2) (v := .int (nI wn)) (C := RX2) (T := TX2) (N := 5) hx hb hts (by decide +kernel) hown hK hP 0 rfl rfl 3 (by decide) (hts (.fieldLink RX2 48 "WildCards" "letterCount" "I") (by decide +kernel)) (fun _ h9 => h9) rfl dX2_beginnings_27 ?_
      refine wl_icmp_ge (tgt := 65) hx hb dX2_beginnings_30 (by decide) (by omega) (by omega) (fun c30 => ?_) (fun c30 => ?_)
      · skip
        refine lv_iload_n hx hb dX2_beginnings_65 rfl (lv_at hl 1 rfl) ?_
        have hP9 := hP.sub (ws' := [(h0, .inr (2, [.ref qP, .int (nI tl), .ref qW, .int (nI wn), .ref hT])), (qW, .inl (cI, 400, .inl (fun j => nI (lt j)))), (hT, .inr (1, [.ref qT, .ref qL, .ref qR, .int (nI cnt)])), (qT, .inl (cJ, 1792, .inr (.inl fT))), (qL, .inl (cJ, 7, .inr (.inl fL))), (qR, .inl (cJ, 7, .inr (.inl g)))]) [0, 1, 2, 3, 4, 5] rfl
        have hD9 := hD.sub (ws' := [(h0, .inr (2, [.ref qP, .int (nI tl), .ref qW, .int (nI wn), .ref hT])), (qW, .inl (cI, 400, .inl (fun j => nI (lt j)))), (hT, .inr (1, [.ref qT, .ref qL, .ref qR, .int (nI cnt)])), (qT, .inl (cJ, 1792, .inr (.inl fT))), (qL, .inl (cJ, 7, .inr (.inl fL))), (qR, .inl (cJ, 7, .inr (.inl g)))]) [0, 1, 2, 3, 4, 5] (by decide) rfl
        exact W.iret (v := nI o) hx hb hr  (fun t ht hW => ⟨⟨nI o, g, rfl, (show (nI o) = nI (bg ts lt wn) from by rw [ho, show i = wn by omega]), by rw [ht]; exact hP9, va_K.moved hW.alike hK, hD9⟩, hS.F ht⟩) hS.2.2 dX2_beginnings_66
      · skip
        have h8 := hlt i (by omega)
        refine lv_aload_n hx hb dX2_beginnings_33 rfl (lv_at hl 0 rfl) ?_
        refine va_get (D := (dC, dI)) (ci := 2) (v := .ref hT) (C := RX2) (T := TX2) (N := 5) hx hb hts (by decide +kernel) hown hK hP 0 rfl rfl 4 (by decide) (hts (.fieldLink RX2 19 "WildCards" "things" "LWildCards$Things;") (by decide +kernel)) (fun _ h9 => h9) rfl dX2_beginnings_34 ?_
        refine lv_aload_n hx hb dX2_beginnings_37 rfl (lv_at hl 0 rfl) ?_
        refine va_get (D := (dC, dI)) (ci := 2) (v := .ref qW) (C := RX2) (T := TX2) (N := 5) hx hb hts (by decide +kernel) hown hK hP 0 rfl rfl 2 (by decide) (hts (.fieldLink RX2 13 "WildCards" "letters" "[I") (by decide +kernel)) (fun _ h9 => h9) rfl dX2_beginnings_38 ?_
        refine lv_iload_n hx hb dX2_beginnings_41 rfl (lv_at hl 2 rfl) ?_
        refine va_iald hx hb hK hP 1 0 rfl rfl (vp_in_nI (by omega) (by omega)) dX2_beginnings_42 ?_
        refine wl_asi (y := nI (lt i)) (by rw [nI_clamp (by omega)]) ?_
        have hPc := hP.sub (ws' := [(hT, .inr (1, [.ref qT, .ref qL, .ref qR, .int (nI cnt)])), (qT, .inl (cJ, 1792, .inr (.inl fT))), (qL, .inl (cJ, 7, .inr (.inl fL))), (qR, .inl (cJ, 7, .inr (.inl g)))]) [2, 3, 4, 5] rfl
        have hDc := hD.sub (ws' := [(hT, .inr (1, [.ref qT, .ref qL, .ref qR, .int (nI cnt)])), (qT, .inl (cJ, 1792, .inr (.inl fT))), (qL, .inl (cJ, 7, .inr (.inl fL))), (qR, .inl (cJ, 7, .inr (.inl g)))]) [2, 3, 4, 5] (by decide) rfl
        have hFc := va_free (wc := [(hT, .inr (1, [.ref qT, .ref qL, .ref qR, .int (nI cnt)])), (qT, .inl (cJ, 1792, .inr (.inl fT))), (qL, .inl (cJ, 7, .inr (.inl fL))), (qR, .inl (cJ, 7, .inr (.inl g)))]) hD hS hA [2, 3, 4, 5] rfl
        refine va_callv (va_runV (As := [.int (nI (lt i))]) (rest := []) ⟨hx, hb, hml, hown, hts⟩ (c_X1_step l dC dI cI cJ cZ hT qT qL qR H.size cnt fT fL g (lt i) h8) (cwV 1 hts gX2_beginnings_X1_step rfl rfl rfl (by decide +kernel) ⟨Nat.le_of_ble_eq_true rfl, Nat.le_of_ble_eq_true rfl⟩) ⟨fun a U g mk q => by obtain ⟨q0, q1, qP, qK, qD⟩ := q; exact ⟨q0, q1, qP, va_K.moved (u := U) (U := U.calling g mk a) (Vm.Alike.refl U.vm) qK, qD⟩, va_recv hK hPc (ci := 1) (q0 := 0) rfl rfl, fun U hU hW => ⟨rfl, by rw [hU], by rw [hU]; exact hPc, va_K.moved hW.alike hK, hDc.weaken (fun _ _ _ _ => trivial)⟩⟩ rfl rfl hl.1 rfl (lv_room (Nat.le_of_ble_eq_true rfl)) dX2_beginnings_43 ⟨show 0 + 0 + 0 + 0 ≤ 0 from by decide, show 0 + 0 + 0 + 0 ≤ 0 from by decide⟩) hS (fun q _ h => hFc q h) hFc (fun u t H1 locs ht hvm hw43 hB hz1 hk1 hS => ?_)
        obtain ⟨fR243, rfl⟩ : ∃ z, z = u := ⟨_, rfl⟩
        obtain ⟨hP1, hK1, hD1⟩ := hB
        rw [ht] at hP1
        try dsimp only at hw43 hP1 hD1
        obtain ⟨hP, hD⟩ := va_join (wr := [(h0, .inr (2, [.ref qP, .int (nI tl), .ref qW, .int (nI wn), .ref hT])), (qW, .inl (cI, 400, .inl (fun j => nI (lt j))))]) (w1 := [(hT, .inr (1, [.ref qT, .ref qL, .ref qR, .int (nI cnt)])), (qT, .inl (cJ, 1792, .inr (.inl fT))), (qL, .inl (cJ, 7, .inr (.inl fL))), (qR, .inl (cJ, 7, .inr (.inl fR243)))]) hP hD [2, 3, 4, 5] [0, 1] rfl rfl (by decide) (by decide) hk1 hFc hP1 hD1
        generalize H1 = H at hP hS ⊢
        have hP : va_P (dC, dI) vwCl [(h0, .inr (2, [.ref qP, .int (nI tl), .ref qW, .int (nI wn), .ref hT])), (qW, .inl (cI, 400, .inl (fun j => nI (lt j)))), (hT, .inr (1, [.ref qT, .ref qL, .ref qR, .int (nI cnt)])), (qT, .inl (cJ, 1792, .inr (.inl fT))), (qL, .inl (cJ, 7, .inr (.inl fL))), (qR, .inl (cJ, 7, .inr (.inl fR243)))] H := hP
        have hD : va_D A [(h0, .inr (2, [.ref qP, .int (nI tl), .ref qW, .int (nI wn), .ref hT])), (qW, .inl (cI, 400, .inl (fun j => nI (lt j)))), (hT, .inr (1, [.ref qT, .ref qL, .ref qR, .int (nI cnt)])), (qT, .inl (cJ, 1792, .inr (.inl fT))), (qL, .inl (cJ, 7, .inr (.inl fL))), (qR, .inl (cJ, 7, .inr (.inl fR243)))] := hD
        refine lv_aload_n hx hb dX2_beginnings_46 rfl (lv_at hl 0 rfl) ?_
        refine va_get (D := (dC, dI)) (ci := 2) (v := .ref hT) (C := RX2) (T := TX2) (N := 5) hx hb hts (by decide +kernel) hown hK hP 0 rfl rfl 4 (by decide) (hts (.fieldLink RX2 19 "WildCards" "things" "LWildCards$Things;") (by decide +kernel)) (fun _ h9 => h9) rfl dX2_beginnings_47 ?_
        have hPc := hP.sub (ws' := [(hT, .inr (1, [.ref qT, .ref qL, .ref qR, .int (nI cnt)])), (qT, .inl (cJ, 1792, .inr (.inl fT))), (qL, .inl (cJ, 7, .inr (.inl fL))), (qR, .inl (cJ, 7, .inr (.inl fR243)))]) [2, 3, 4, 5] rfl
        have hDc := hD.sub (ws' := [(hT, .inr (1, [.ref qT, .ref qL, .ref qR, .int (nI cnt)])), (qT, .inl (cJ, 1792, .inr (.inl fT))), (qL, .inl (cJ, 7, .inr (.inl fL))), (qR, .inl (cJ, 7, .inr (.inl fR243)))]) [2, 3, 4, 5] (by decide) rfl
        have hFc := va_free (wc := [(hT, .inr (1, [.ref qT, .ref qL, .ref qR, .int (nI cnt)])), (qT, .inl (cJ, 1792, .inr (.inl fT))), (qL, .inl (cJ, 7, .inr (.inl fL))), (qR, .inl (cJ, 7, .inr (.inl fR243)))]) hD hS hA [2, 3, 4, 5] rfl
        refine va_calli (va_runV (As := []) (rest := []) ⟨hx, hb, hml, hown, hts⟩ (c_X1_endIsReached l dC dI cI cJ cZ hT qT qL qR H.size cnt fT fL fR243 (by omega)) (cwV 0 hts gX2_beginnings_X1_endIsReached rfl rfl rfl (by decide +kernel) ⟨Nat.le_of_ble_eq_true rfl, Nat.le_of_ble_eq_true rfl⟩) ⟨fun a U g mk q => by obtain ⟨q0, q1, qP, qK, qD⟩ := q; exact ⟨q0, q1, qP, va_K.moved (u := U) (U := U.calling g mk a) (Vm.Alike.refl U.vm) qK, qD⟩, va_recv hK hPc (ci := 1) (q0 := 0) rfl rfl, fun U hU hW => ⟨rfl, by rw [hU], by rw [hU]; exact hPc, va_K.moved hW.alike hK, hDc.weaken (fun _ _ _ _ => trivial)⟩⟩ rfl rfl hl.1 rfl (lv_room (Nat.le_of_ble_eq_true rfl)) dX2_beginnings_50 ⟨show 0 + 0 + 0 + 0 + 0 ≤ 0 from by decide, show 0 + 0 + 0 + 0 + 0 ≤ 0 from by decide⟩) hS (fun q _ h => hFc q h) hFc (fun r50 u t H1 locs ht hvm hw50 hB hz1 hk1 hS => ?_)
        obtain ⟨hP1, hK1, hD1⟩ := hB
        rw [ht] at hP1
        try dsimp only at hw50 hP1 hD1
        obtain ⟨hP, hD⟩ := va_join (wr := [(h0, .inr (2, [.ref qP, .int (nI tl), .ref qW, .int (nI wn), .ref hT])), (qW, .inl (cI, 400, .inl (fun j => nI (lt j))))]) (w1 := [(hT, .inr (1, [.ref qT, .ref qL, .ref qR, .int (nI cnt)])), (qT, .inl (cJ, 1792, .inr (.inl fT))), (qL, .inl (cJ, 7, .inr (.inl fL))), (qR, .inl (cJ, 7, .inr (.inl fR243)))]) hP hD [2, 3, 4, 5] [0, 1] rfl rfl (by decide) (by decide) hk1 hFc hP1 hD1
        generalize H1 = H at hP hS ⊢
        have hP : va_P (dC, dI) vwCl [(h0, .inr (2, [.ref qP, .int (nI tl), .ref qW, .int (nI wn), .ref hT])), (qW, .inl (cI, 400, .inl (fun j => nI (lt j)))), (hT, .inr (1, [.ref qT, .ref qL, .ref qR, .int (nI cnt)])), (qT, .inl (cJ, 1792, .inr (.inl fT))), (qL, .inl (cJ, 7, .inr (.inl fL))), (qR, .inl (cJ, 7, .inr (.inl fR243)))] H := hP
        have hD : va_D A [(h0, .inr (2, [.ref qP, .int (nI tl), .ref qW, .int (nI wn), .ref hT])), (qW, .inl (cI, 400, .inl (fun j => nI (lt j)))), (hT, .inr (1, [.ref qT, .ref qL, .ref qR, .int (nI cnt)])), (qT, .inl (cJ, 1792, .inr (.inl fT))), (qL, .inl (cJ, 7, .inr (.inl fL))), (qR, .inl (cJ, 7, .inr (.inl fR243)))] := hD
        by_cases hz2 : lb fR243 cnt = true
        · skip
          refine wl_asi (y := nI 1) (by rw [hw50, if_pos hz2]; rfl) ?_
          refine lv_if_eq (tgt := 59) hx hb dX2_beginnings_53 (by decide) (fun c53 => ?_) (fun c53 => ?_)
          · first | exact absurd c53 (by decide) | exact absurd (by decide) c53
          · skip
            refine lv_iinc (v := nI (o + 1)) (lv' := [(1, .int (nI (o + 1))), (0, .ref h0), (2, .int (nI i))]) hx hb dX2_beginnings_56 hl (k := 1) rfl (wl_inc _ _ (by decide)) (by decide) rfl (fun ls hl => ?_)
            refine lv_iinc (v := nI (i + 1)) (lv' := [(2, .int (nI (i + 1))), (1, .int (nI (o + 1))), (0, .ref h0)]) hx hb dX2_beginnings_59 hl (k := 2) rfl (wl_inc _ _ (by decide)) (by decide) rfl (fun ls hl => ?_)
            refine lv_goto (tgt := 25) hx hb dX2_beginnings_62 (by decide) ?_
            exact ih25 (i + 1, fR243, o + 1) H locs ls ⟨(show (i + 1) ≤ wn from by omega), (show ∀ k, k < 448 → lb fR243 k = rch (tT ts) (tL ts) lt (i + 1) k from RC_s hTR hg rfl h8 hw43), (show (o + 1) = bg ts lt (i + 1) from bg_s1 hTR hc (RC_s hTR hg rfl h8 hw43) hz2 ho), (show (o + 1) ≤ (i + 1) + 1 from by omega), hP.sub [0, 1, 2, 3, 4, 5] rfl, hD.sub [0, 1, 2, 3, 4, 5] (by decide) rfl, hS, lv_sub hl [2, 1, 0] rfl⟩ (by (try dsimp only); omega)
        · skip
          refine wl_asi (y := nI 0) (by rw [hw50, if_neg hz2]; rfl) ?_
          refine lv_if_eq (tgt := 59) hx hb dX2_beginnings_53 (by decide) (fun c53 => ?_) (fun c53 => ?_)
          rotate_left
          · first | exact absurd c53 (by decide) | exact absurd (by decide) c53
          · skip
            refine lv_iinc (v := nI (i + 1)) (lv' := [(2, .int (nI (i + 1))), (0, .ref h0), (1, .int (nI o))]) hx hb dX2_beginnings_59 hl (k := 2) rfl (wl_inc _ _ (by decide)) (by decide) rfl (fun ls hl => ?_)
            refine lv_goto (tgt := 25) hx hb dX2_beginnings_62 (by decide) ?_
            exact ih25 (i + 1, fR243, o) H locs ls ⟨(show (i + 1) ≤ wn from by omega), (show ∀ k, k < 448 → lb fR243 k = rch (tT ts) (tL ts) lt (i + 1) k from RC_s hTR hg rfl h8 hw43), (show o = bg ts lt (i + 1) from bg_s0 hTR hc (RC_s hTR hg rfl h8 hw43) hz2 ho), (show o ≤ (i + 1) + 1 from by omega), hP.sub [0, 1, 2, 3, 4, 5] rfl, hD.sub [0, 1, 2, 3, 4, 5] (by decide) rfl, hS, lv_sub hl [1, 2, 0] rfl⟩ (by (try dsimp only); omega)
