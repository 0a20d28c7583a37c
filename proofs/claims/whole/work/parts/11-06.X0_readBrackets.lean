set_option maxHeartbeats 4000000 in
set_option maxRecDepth 100000 in
theorem c_X0_readBrackets (l : Launch) (dC : Nat → ClassId) (dI : Nat → Nat → Nat) (cI cJ cZ : ClassId) (hR qB hT qT qL qR : Nat) (sz : Nat) (L : Nat) (ix : Nat) (a : Nat → Nat) (cnt : Nat) (fT : Nat → Int64) (fL : Nat → Int64) (fR : Nat → Int64) (hL : L ≤ 400) (ha : ∀ j, j < L → a j < 256) (hat : ix ≤ L) (hc : cnt < 448) (hnew : ∀ x, x < 256 → lb fT (448 * x + cnt) = false) : Met l yX0_readBrackets wsX0_readBrackets ({ frames := 3, cells := 0, slots := 0, locals := 70 }) (va_Pc [.ref hR] (fun U => U.heap.size = sz ∧ va_P (dC, dI) vwCl [(hR, .inr (0, [.ref qB, .int (nI L), .ref hT, .int (nI ix)])), (qB, .inl (cI, 400, .inl (fun j => nI (a j)))), (hT, .inr (1, [.ref qT, .ref qL, .ref qR, .int (nI cnt)])), (qT, .inl (cJ, 1792, .inr (.inl fT))), (qL, .inl (cJ, 7, .inr (.inl fL))), (qR, .inl (cJ, 7, .inr (.inl fR)))] U.heap ∧ va_K (dC, dI) vwCl [(cI, .int), (cJ, .long), (cZ, .boolean)] U ∧ va_D (fun _ => True) [(hR, .inr (0, [.ref qB, .int (nI L), .ref hT, .int (nI ix)])), (qB, .inl (cI, 400, .inl (fun j => nI (a j)))), (hT, .inr (1, [.ref qT, .ref qL, .ref qR, .int (nI cnt)])), (qT, .inl (cJ, 1792, .inr (.inl fT))), (qL, .inl (cJ, 7, .inr (.inl fL))), (qR, .inl (cJ, 7, .inr (.inl fR)))])) (va_Qv (fun (u : Nat × (Nat → Int64)) => u.1 = brn a L ix ∧ ∀ x k, x < 256 → k < 448 → lb u.2 (448 * x + k) = if k = cnt then brs a L ix x else lb fT (448 * x + k)) (fun (u : Nat × (Nat → Int64)) (t : State) => va_P (dC, dI) vwCl [(hR, .inr (0, [.ref qB, .int (nI L), .ref hT, .int (nI u.1)])), (qB, .inl (cI, 400, .inl (fun j => nI (a j)))), (hT, .inr (1, [.ref qT, .ref qL, .ref qR, .int (nI cnt)])), (qT, .inl (cJ, 1792, .inr (.inl u.2))), (qL, .inl (cJ, 7, .inr (.inl fL))), (qR, .inl (cJ, 7, .inr (.inl fR)))] t.heap ∧ va_K (dC, dI) vwCl [(cI, .int), (cJ, .long), (cZ, .boolean)] t ∧ va_D (va_A [(hR, .inr (0, [.ref qB, .int (nI L), .ref hT, .int (nI ix)])), (qB, .inl (cI, 400, .inl (fun j => nI (a j)))), (hT, .inr (1, [.ref qT, .ref qL, .ref qR, .int (nI cnt)])), (qT, .inl (cJ, 1792, .inr (.inl fT))), (qL, .inl (cJ, 7, .inr (.inl fL))), (qR, .inl (cJ, 7, .inr (.inl fR)))] sz) [(hR, .inr (0, [.ref qB, .int (nI L), .ref hT, .int (nI u.1)])), (qB, .inl (cI, 400, .inl (fun j => nI (a j)))), (hT, .inr (1, [.ref qT, .ref qL, .ref qR, .int (nI cnt)])), (qT, .inl (cJ, 1792, .inr (.inl u.2))), (qL, .inl (cJ, 7, .inr (.inl fL))), (qR, .inl (cJ, 7, .inr (.inl fR)))]) (va_A [(hR, .inr (0, [.ref qB, .int (nI L), .ref hT, .int (nI ix)])), (qB, .inl (cI, 400, .inl (fun j => nI (a j)))), (hT, .inr (1, [.ref qT, .ref qL, .ref qR, .int (nI cnt)])), (qT, .inl (cJ, 1792, .inr (.inl fT))), (qL, .inl (cJ, 7, .inr (.inl fL))), (qR, .inl (cJ, 7, .inr (.inl fR)))] sz)) 0 0 (va_A [(hR, .inr (0, [.ref qB, .int (nI L), .ref hT, .int (nI ix)])), (qB, .inl (cI, 400, .inl (fun j => nI (a j)))), (hT, .inr (1, [.ref qT, .ref qL, .ref qR, .int (nI cnt)])), (qT, .inl (cJ, 1792, .inr (.inl fT))), (qL, .inl (cJ, 7, .inr (.inl fL))), (qR, .inl (cJ, 7, .inr (.inl fR)))] sz) := by
  refine Met.ofW (cc := cX0_readBrackets) (maxL := 3) (ret := none) (by decide) rfl ?_
  intro p e s m args below meth c s₁ B hml hv
  obtain ⟨rfl, hsz, hP, hK, hD0⟩ := hv
  have hx := B.exec
  have hb := B.bytes
  have hr := B.returns
  have hts := atoms_spec (ws := wsX0_readBrackets) B.pre
  have hown : s.vm.findClass RX0 = some m.cls := findClass_of_methodNamed B.named
  have hlocks := B.notSynchronized
  subst hsz
  have hD := hD0.self (sz := s.heap.size)
  generalize hAe : va_A [(hR, .inr (0, [.ref qB, .int (nI L), .ref hT, .int (nI ix)])), (qB, .inl (cI, 400, .inl (fun j => nI (a j)))), (hT, .inr (1, [.ref qT, .ref qL, .ref qR, .int (nI cnt)])), (qT, .inl (cJ, 1792, .inr (.inl fT))), (qL, .inl (cJ, 7, .inr (.inl fL))), (qR, .inl (cJ, 7, .inr (.inl fR)))] s.heap.size = A at hD ⊢
  have hA : ∀ q : Nat, s.heap.size ≤ q → A q := fun q h => by rw [← hAe]; exact Or.inr h
  have hS : va_S A s.heap s.heap [] := va_S.rf
  have hP : va_P (dC, dI) vwCl [(hR, .inr (0, [.ref qB, .int (nI L), .ref hT, .int (nI ix)])), (qB, .inl (cI, 400, .inl (fun j => nI (a j)))), (hT, .inr (1, [.ref qT, .ref qL, .ref qR, .int (nI cnt)])), (qT, .inl (cJ, 1792, .inr (.inl fT))), (qL, .inl (cJ, 7, .inr (.inl fL))), (qR, .inl (cJ, 7, .inr (.inl fR)))] s.heap := hP
  have hl := lv_entry ([.ref hR]) (n := 3) (Nat.le_of_ble_eq_true rfl)
  rw [lg_entry_eq]
  generalize (lg_sl ([.ref hR]) ++ List.replicate (3 - (lg_sl ([.ref hR])).length) Slot.unset).toArray = ls at hl ⊢
  have hl : lv_has ls 3 [(0, .ref hR)] := hl
  skip
  refine lv_aload_n hx hb dX0_readBrackets_0 rfl (lv_at hl 0 rfl) ?_
  refine lv_aload_n hx hb dX0_readBrackets_1 rfl (lv_at hl 0 rfl) ?_
  refine va_get (D := (dC, dI)) (ci := 0) (v := .int (nI ix)) (C := RX0) (T := TX0) (N := 4) hx hb hts (by decide +kernel) hown hK hP 0 rfl rfl 3 (by decide) (hts (.fieldLink RX0 23 "WildCards$Reader" "at" "I") (by decide +kernel)) (fun _ h9 => h9) rfl dX0_readBrackets_2 ?_
  have hPc := hP.sub (ws' := [(hR, .inr (0, [.ref qB, .int (nI L), .ref hT, .int (nI ix)])), (qB, .inl (cI, 400, .inl (fun j => nI (a j))))]) [0, 1] rfl
  have hDc := hD.sub (ws' := [(hR, .inr (0, [.ref qB, .int (nI L), .ref hT, .int (nI ix)])), (qB, .inl (cI, 400, .inl (fun j => nI (a j))))]) [0, 1] (by decide) rfl
  have hFc := va_free (wc := [(hR, .inr (0, [.ref qB, .int (nI L), .ref hT, .int (nI ix)])), (qB, .inl (cI, 400, .inl (fun j => nI (a j))))]) hD hS hA [0, 1] rfl
  refine va_calli (va_runV (As := [.int (nI ix)]) (rest := []) ⟨hx, hb, hml, hown, hts⟩ (c_X0_byteAt l dC dI cI cJ cZ hR qB hT s.heap.size L ix a ix hL (by omega)) (cwV 1 hts gX0_readBrackets_X0_byteAt rfl rfl rfl (by decide +kernel) ⟨Nat.le_of_ble_eq_true rfl, Nat.le_of_ble_eq_true rfl⟩) ⟨fun a U g mk q => by obtain ⟨q0, q1, qP, qK, qD⟩ := q; exact ⟨q0, q1, qP, va_K.moved (u := U) (U := U.calling g mk a) (Vm.Alike.refl U.vm) qK, qD⟩, va_recv hK hPc (ci := 0) (q0 := 0) rfl rfl, fun U hU hW => ⟨rfl, by rw [hU], by rw [hU]; exact hPc, va_K.moved hW.alike hK, hDc.weaken (fun _ _ _ _ => trivial)⟩⟩ rfl rfl hl.1 rfl (lv_room (Nat.le_of_ble_eq_true rfl)) dX0_readBrackets_5 ⟨show 0 + 0 ≤ 0 from by decide, show 0 + 0 ≤ 0 from by decide⟩) hS (fun q _ h => hFc q h) hFc (fun r5 u t H1 locs ht hvm hw5 hB hz1 hk1 hS => ?_)
  obtain ⟨hP1, hK1, hD1⟩ := hB
  rw [ht] at hP1
  try dsimp only at hw5 hP1 hD1
  obtain ⟨hP, hD⟩ := va_join (wr := [(hT, .inr (1, [.ref qT, .ref qL, .ref qR, .int (nI cnt)])), (qT, .inl (cJ, 1792, .inr (.inl fT))), (qL, .inl (cJ, 7, .inr (.inl fL))), (qR, .inl (cJ, 7, .inr (.inl fR)))]) (w1 := [(hR, .inr (0, [.ref qB, .int (nI L), .ref hT, .int (nI ix)])), (qB, .inl (cI, 400, .inl (fun j => nI (a j))))]) hP hD [0, 1] [2, 3, 4, 5] rfl rfl (by decide) (by decide) hk1 hFc hP1 hD1
  generalize H1 = H at hP hS ⊢
  have hP : va_P (dC, dI) vwCl [(hT, .inr (1, [.ref qT, .ref qL, .ref qR, .int (nI cnt)])), (qT, .inl (cJ, 1792, .inr (.inl fT))), (qL, .inl (cJ, 7, .inr (.inl fL))), (qR, .inl (cJ, 7, .inr (.inl fR))), (hR, .inr (0, [.ref qB, .int (nI L), .ref hT, .int (nI ix)])), (qB, .inl (cI, 400, .inl (fun j => nI (a j))))] H := hP
  have hD : va_D A [(hT, .inr (1, [.ref qT, .ref qL, .ref qR, .int (nI cnt)])), (qT, .inl (cJ, 1792, .inr (.inl fT))), (qL, .inl (cJ, 7, .inr (.inl fL))), (qR, .inl (cJ, 7, .inr (.inl fR))), (hR, .inr (0, [.ref qB, .int (nI L), .ref hT, .int (nI ix)])), (qB, .inl (cI, 400, .inl (fun j => nI (a j))))] := hD
  by_cases hp2 : ix < L
  · skip
    have h8 := ha _ hp2
    refine wl_asi (y := nI (a ix)) (by rw [hw5, if_pos hp2]) ?_
    refine lv_bipush (v := nI 94) hx hb dX0_readBrackets_8 (by decide) ?_
    refine wl_icmp_eq (tgt := 17) hx hb dX0_readBrackets_10 (by decide) (by omega) (by omega) (fun c10 => ?_) (fun c10 => ?_)
    · skip
      refine lv_iconst (v := nI 0) hx hb dX0_readBrackets_17 (by decide) ?_
      refine lv_istore_n (lv' := [(1, .int (nI 0)), (0, .ref hR)]) hx hb dX0_readBrackets_18 rfl hl (by decide) rfl (fun ls hl => ?_)
      refine lv_iload_n hx hb dX0_readBrackets_19 rfl (lv_at hl 0 rfl) ?_
      refine lv_if_ne (tgt := 45) hx hb dX0_readBrackets_20 (by decide) (fun c20 => ?_) (fun c20 => ?_)
      · first | exact absurd c20 (by decide) | exact absurd (by decide) c20
      · skip
        refine lv_aload_n hx hb dX0_readBrackets_23 rfl (lv_at hl 1 rfl) ?_
        refine lv_dup hx hb dX0_readBrackets_24 rfl ?_
        refine va_get (D := (dC, dI)) (ci := 0) (v := .int (nI ix)) (C := RX0) (T := TX0) (N := 4) hx hb hts (by decide +kernel) hown hK hP 4 rfl rfl 3 (by decide) (hts (.fieldLink RX0 23 "WildCards$Reader" "at" "I") (by decide +kernel)) (fun _ h9 => h9) rfl dX0_readBrackets_25 ?_
        refine lv_iconst (v := nI 1) hx hb dX0_readBrackets_28 (by decide) ?_
        refine lv_iadd hx hb dX0_readBrackets_29 ?_
        refine wl_asi (y := nI (ix + 1)) (nI_add _ _) ?_
        refine va_put (D := (dC, dI)) (ci := 0) (v := .int (nI (ix + 1))) (ty := .int) (C := RX0) (T := TX0) (N := 4) hx hb hts (by decide +kernel) tyX0 tyX0_ok nmX0 hown hK hP hD hS 4 rfl rfl 3 (by decide) (hts (.fieldLink RX0 23 "WildCards$Reader" "at" "I") (by decide +kernel)) (fun _ h9 => h9) rfl (by decide +kernel) rfl rfl (Nat.le_of_ble_eq_true rfl) dX0_readBrackets_30 (fun H locs hP hD hS => ?_)
        have hP : va_P (dC, dI) vwCl [(hT, .inr (1, [.ref qT, .ref qL, .ref qR, .int (nI cnt)])), (qT, .inl (cJ, 1792, .inr (.inl fT))), (qL, .inl (cJ, 7, .inr (.inl fL))), (qR, .inl (cJ, 7, .inr (.inl fR))), (hR, .inr (0, [.ref qB, .int (nI L), .ref hT, .int (nI (ix + 1))])), (qB, .inl (cI, 400, .inl (fun j => nI (a j))))] H := hP
        have hD : va_D A [(hT, .inr (1, [.ref qT, .ref qL, .ref qR, .int (nI cnt)])), (qT, .inl (cJ, 1792, .inr (.inl fT))), (qL, .inl (cJ, 7, .inr (.inl fL))), (qR, .inl (cJ, 7, .inr (.inl fR))), (hR, .inr (0, [.ref qB, .int (nI L), .ref hT, .int (nI (ix + 1))])), (qB, .inl (cI, 400, .inl (fun j => nI (a j))))] := hD
        refine lv_aload_n hx hb dX0_readBrackets_33 rfl (lv_at hl 1 rfl) ?_
        refine va_get (D := (dC, dI)) (ci := 0) (v := .ref hT) (C := RX0) (T := TX0) (N := 4) hx hb hts (by decide +kernel) hown hK hP 4 rfl rfl 2 (by decide) (hts (.fieldLink RX0 19 "WildCards$Reader" "things" "LWildCards$Things;") (by decide +kernel)) (fun _ h9 => h9) rfl dX0_readBrackets_34 ?_
        refine lv_iconst (v := nI 0) hx hb dX0_readBrackets_37 (by decide) ?_
        refine lv_sipush (v := nI 255) hx hb dX0_readBrackets_38 (by decide) ?_
        refine lv_iconst (v := nI 1) hx hb dX0_readBrackets_41 (by decide) ?_
        have hPc := hP.sub (ws' := [(hT, .inr (1, [.ref qT, .ref qL, .ref qR, .int (nI cnt)])), (qT, .inl (cJ, 1792, .inr (.inl fT))), (qL, .inl (cJ, 7, .inr (.inl fL))), (qR, .inl (cJ, 7, .inr (.inl fR)))]) [0, 1, 2, 3] rfl
        have hDc := hD.sub (ws' := [(hT, .inr (1, [.ref qT, .ref qL, .ref qR, .int (nI cnt)])), (qT, .inl (cJ, 1792, .inr (.inl fT))), (qL, .inl (cJ, 7, .inr (.inl fL))), (qR, .inl (cJ, 7, .inr (.inl fR)))]) [0, 1, 2, 3] (by decide) rfl
        have hFc := va_free (wc := [(hT, .inr (1, [.ref qT, .ref qL, .ref qR, .int (nI cnt)])), (qT, .inl (cJ, 1792, .inr (.inl fT))), (qL, .inl (cJ, 7, .inr (.inl fL))), (qR, .inl (cJ, 7, .inr (.inl fR)))]) hD hS hA [0, 1, 2, 3] rfl
        refine va_callv (va_runV (As := [.int (nI 0), .int (nI 255), .int (nI 1)]) (rest := []) ⟨hx, hb, hml, hown, hts⟩ (c_X1_tell l dC dI cI cJ cZ hT qT qL qR H.size cnt fT fL fR 0 255 1 (by omega) (by omega) (by omega) (by omega)) (cwV 3 hts gX0_readBrackets_X1_tell rfl rfl rfl (by decide +kernel) ⟨Nat.le_of_ble_eq_true rfl, Nat.le_of_ble_eq_true rfl⟩) ⟨fun a U g mk q => by obtain ⟨q0, q1, qP, qK, qD⟩ := q; exact ⟨q0, q1, qP, va_K.moved (u := U) (U := U.calling g mk a) (Vm.Alike.refl U.vm) qK, qD⟩, va_recv hK hPc (ci := 1) (q0 := 0) rfl rfl, fun U hU hW => ⟨rfl, by rw [hU], by rw [hU]; exact hPc, va_K.moved hW.alike hK, hDc.weaken (fun _ _ _ _ => trivial)⟩⟩ rfl rfl hl.1 rfl (lv_room (Nat.le_of_ble_eq_true rfl)) dX0_readBrackets_42 ⟨show 0 + 0 + 0 ≤ 0 from by decide, show 0 + 0 + 0 ≤ 0 from by decide⟩) hS (fun q _ h => hFc q h) hFc (fun u t H1 locs ht hvm hw42 hB hz1 hk1 hS => ?_)
        obtain ⟨fT242, rfl⟩ : ∃ z, z = u := ⟨_, rfl⟩
        obtain ⟨hP1, hK1, hD1⟩ := hB
        rw [ht] at hP1
        try dsimp only at hw42 hP1 hD1
        obtain ⟨hP, hD⟩ := va_join (wr := [(hR, .inr (0, [.ref qB, .int (nI L), .ref hT, .int (nI (ix + 1))])), (qB, .inl (cI, 400, .inl (fun j => nI (a j))))]) (w1 := [(hT, .inr (1, [.ref qT, .ref qL, .ref qR, .int (nI cnt)])), (qT, .inl (cJ, 1792, .inr (.inl fT242))), (qL, .inl (cJ, 7, .inr (.inl fL))), (qR, .inl (cJ, 7, .inr (.inl fR)))]) hP hD [0, 1, 2, 3] [4, 5] rfl rfl (by decide) (by decide) hk1 hFc hP1 hD1
        generalize H1 = H at hP hS ⊢
        have hP : va_P (dC, dI) vwCl [(hR, .inr (0, [.ref qB, .int (nI L), .ref hT, .int (nI (ix + 1))])), (qB, .inl (cI, 400, .inl (fun j => nI (a j)))), (hT, .inr (1, [.ref qT, .ref qL, .ref qR, .int (nI cnt)])), (qT, .inl (cJ, 1792, .inr (.inl fT242))), (qL, .inl (cJ, 7, .inr (.inl fL))), (qR, .inl (cJ, 7, .inr (.inl fR)))] H := hP
        have hD : va_D A [(hR, .inr (0, [.ref qB, .int (nI L), .ref hT, .int (nI (ix + 1))])), (qB, .inl (cI, 400, .inl (fun j => nI (a j)))), (hT, .inr (1, [.ref qT, .ref qL, .ref qR, .int (nI cnt)])), (qT, .inl (cJ, 1792, .inr (.inl fT242))), (qL, .inl (cJ, 7, .inr (.inl fL))), (qR, .inl (cJ, 7, .inr (.inl fR)))] := hD
        refine lv_iconst (v := nI 0) hx hb dX0_readBrackets_45 (by decide) ?_
        refine lv_istore_n (lv' := [(2, .int (nI 0)), (1, .int (nI 0)), (0, .ref hR)]) hx hb dX0_readBrackets_46 rfl hl (by decide) rfl (fun ls hl => ?_)
        refine wl_loop (σ := Nat × Nat × (Nat → Int64)) (fun z9 => L - z9.1) (fun z9 H locs ls => (z9.1 ≤ L) ∧ (z9.2.1 ≤ L) ∧ (BR a L cnt fT z9.2.2 true (ix + 1) z9.1 z9.2.1) ∧ va_P (dC, dI) vwCl [(hR, .inr (0, [.ref qB, .int (nI L), .ref hT, .int (nI z9.2.1)])), (qB, .inl (cI, 400, .inl (fun j => nI (a j)))), (hT, .inr (1, [.ref qT, .ref qL, .ref qR, .int (nI cnt)])), (qT, .inl (cJ, 1792, .inr (.inl z9.2.2))), (qL, .inl (cJ, 7, .inr (.inl fL))), (qR, .inl (cJ, 7, .inr (.inl fR)))] H ∧ va_D A [(hR, .inr (0, [.ref qB, .int (nI L), .ref hT, .int (nI z9.2.1)])), (qB, .inl (cI, 400, .inl (fun j => nI (a j)))), (hT, .inr (1, [.ref qT, .ref qL, .ref qR, .int (nI cnt)])), (qT, .inl (cJ, 1792, .inr (.inl z9.2.2))), (qL, .inl (cJ, 7, .inr (.inl fL))), (qR, .inl (cJ, 7, .inr (.inl fR)))] ∧ va_S A s.heap H locs ∧ lv_has ls 3 [(0, .ref hR), (1, .int (nI 0)), (2, .int (nI z9.1))]) ?_ (0, ix + 1, fT242) ⟨(show (0) ≤ L from Nat.zero_le _), (show (ix + 1) ≤ L from by omega), (show BR a L cnt fT fT242 true (ix + 1) (0) (ix + 1) from BR_i1 hc hnew hw42), hP.sub [0, 1, 2, 3, 4, 5] rfl, hD.sub [0, 1, 2, 3, 4, 5] (by decide) rfl, hS, lv_sub hl [2, 1, 0] rfl⟩
        intro z9 H locs ls hI ih47
        obtain ⟨rr, jx, g⟩ := z9
        obtain ⟨hr1, hj, hBR, hP, hD, hS, hl⟩ := hI
        try dsimp only at hr1 hj hBR hP hD hl
        have hP : va_P (dC, dI) vwCl [(hR, .inr (0, [.ref qB, .int (nI L), .ref hT, .int (nI jx)])), (qB, .inl (cI, 400, .inl (fun j => nI (a j)))), (hT, .inr (1, [.ref qT, .ref qL, .ref qR, .int (nI cnt)])), (qT, .inl (cJ, 1792, .inr (.inl g))), (qL, .inl (cJ, 7, .inr (.inl fL))), (qR, .inl (cJ, 7, .inr (.inl fR)))] H := hP
        have hD : va_D A [(hR, .inr (0, [.ref qB, .int (nI L), .ref hT, .int (nI jx)])), (qB, .inl (cI, 400, .inl (fun j => nI (a j)))), (hT, .inr (1, [.ref qT, .ref qL, .ref qR, .int (nI cnt)])), (qT, .inl (cJ, 1792, .inr (.inl g))), (qL, .inl (cJ, 7, .inr (.inl fL))), (qR, .inl (cJ, 7, .inr (.inl fR)))] := hD
        have hl : lv_has ls 3 [(0, .ref hR), (1, .int (nI 0)), (2, .int (nI rr))] := hl
        refine lv_iload_n hx hb dX0_readBrackets_47 rfl (lv_at hl 2 rfl) ?_
        refine lv_aload_n hx hb dX0_readBrackets_48 rfl (lv_at hl 0 rfl) ?_
        refine va_get (D := (dC, dI)) (ci := 0) (v := .int (nI L)) (C := RX0) (T := TX0) (N := 4) hx hb hts (by decide +kernel) hown hK hP 0 rfl rfl 1 (by decide) (hts (.fieldLink RX0 15 "WildCards$Reader" "length" "I") (by decide +kernel)) (fun _ h9 => h9) rfl dX0_readBrackets_49 ?_
        refine wl_icmp_ge (tgt := 77) hx hb dX0_readBrackets_52 (by decide) (by omega) (by omega) (fun c52 => ?_) (fun c52 => ?_)
        · skip
          refine lv_aload_n hx hb dX0_readBrackets_77 rfl (lv_at hl 0 rfl) ?_
          refine lv_dup hx hb dX0_readBrackets_78 rfl ?_
          refine va_get (D := (dC, dI)) (ci := 0) (v := .int (nI jx)) (C := RX0) (T := TX0) (N := 4) hx hb hts (by decide +kernel) hown hK hP 0 rfl rfl 3 (by decide) (hts (.fieldLink RX0 23 "WildCards$Reader" "at" "I") (by decide +kernel)) (fun _ h9 => h9) rfl dX0_readBrackets_79 ?_
          refine lv_iconst (v := nI 1) hx hb dX0_readBrackets_82 (by decide) ?_
          refine lv_iadd hx hb dX0_readBrackets_83 ?_
          refine wl_asi (y := nI (jx + 1)) (nI_add _ _) ?_
          refine va_put (D := (dC, dI)) (ci := 0) (v := .int (nI (jx + 1))) (ty := .int) (C := RX0) (T := TX0) (N := 4) hx hb hts (by decide +kernel) tyX0 tyX0_ok nmX0 hown hK hP hD hS 0 rfl rfl 3 (by decide) (hts (.fieldLink RX0 23 "WildCards$Reader" "at" "I") (by decide +kernel)) (fun _ h9 => h9) rfl (by decide +kernel) rfl rfl (Nat.le_of_ble_eq_true rfl) dX0_readBrackets_84 (fun H locs hP hD hS => ?_)
          have hP : va_P (dC, dI) vwCl [(hR, .inr (0, [.ref qB, .int (nI L), .ref hT, .int (nI (jx + 1))])), (qB, .inl (cI, 400, .inl (fun j => nI (a j)))), (hT, .inr (1, [.ref qT, .ref qL, .ref qR, .int (nI cnt)])), (qT, .inl (cJ, 1792, .inr (.inl g))), (qL, .inl (cJ, 7, .inr (.inl fL))), (qR, .inl (cJ, 7, .inr (.inl fR)))] H := hP
          have hD : va_D A [(hR, .inr (0, [.ref qB, .int (nI L), .ref hT, .int (nI (jx + 1))])), (qB, .inl (cI, 400, .inl (fun j => nI (a j)))), (hT, .inr (1, [.ref qT, .ref qL, .ref qR, .int (nI cnt)])), (qT, .inl (cJ, 1792, .inr (.inl g))), (qL, .inl (cJ, 7, .inr (.inl fL))), (qR, .inl (cJ, 7, .inr (.inl fR)))] := hD
          have hP9 := hP.sub (ws' := [(hR, .inr (0, [.ref qB, .int (nI L), .ref hT, .int (nI (jx + 1))])), (qB, .inl (cI, 400, .inl (fun j => nI (a j)))), (hT, .inr (1, [.ref qT, .ref qL, .ref qR, .int (nI cnt)])), (qT, .inl (cJ, 1792, .inr (.inl g))), (qL, .inl (cJ, 7, .inr (.inl fL))), (qR, .inl (cJ, 7, .inr (.inl fR)))]) [0, 1, 2, 3, 4, 5] rfl
          have hD9 := hD.sub (ws' := [(hR, .inr (0, [.ref qB, .int (nI L), .ref hT, .int (nI (jx + 1))])), (qB, .inl (cI, 400, .inl (fun j => nI (a j)))), (hT, .inr (1, [.ref qT, .ref qL, .ref qR, .int (nI cnt)])), (qT, .inl (cJ, 1792, .inr (.inl g))), (qL, .inl (cJ, 7, .inr (.inl fL))), (qR, .inl (cJ, 7, .inr (.inl fR)))]) [0, 1, 2, 3, 4, 5] (by decide) rfl
          exact W.vret hx hb hr (fun t ht hW => ⟨⟨(jx + 1, g), rfl, (show (jx + 1) = brn a L ix ∧ ∀ x k, x < 256 → k < 448 → lb g (448 * x + k) = if k = cnt then brs a L ix x else lb fT (448 * x + k) from ⟨by rw [brn_1 (brg_1 hp2 c10), ← (BR_e hBR (Or.inl c52)).1], br_1 (brg_1 hp2 c10) (BR_e hBR (Or.inl c52)).2.1 (BR_e hBR (Or.inl c52)).2.2⟩), by rw [ht]; exact hP9, va_K.moved hW.alike hK, hD9⟩, hS.F ht⟩) hS.2.2 dX0_readBrackets_87
        · skip
          refine lv_aload_n hx hb dX0_readBrackets_55 rfl (lv_at hl 0 rfl) ?_
          refine lv_aload_n hx hb dX0_readBrackets_56 rfl (lv_at hl 0 rfl) ?_
          refine va_get (D := (dC, dI)) (ci := 0) (v := .int (nI jx)) (C := RX0) (T := TX0) (N := 4) hx hb hts (by decide +kernel) hown hK hP 0 rfl rfl 3 (by decide) (hts (.fieldLink RX0 23 "WildCards$Reader" "at" "I") (by decide +kernel)) (fun _ h9 => h9) rfl dX0_readBrackets_57 ?_
          have hPc := hP.sub (ws' := [(hR, .inr (0, [.ref qB, .int (nI L), .ref hT, .int (nI jx)])), (qB, .inl (cI, 400, .inl (fun j => nI (a j))))]) [0, 1] rfl
          have hDc := hD.sub (ws' := [(hR, .inr (0, [.ref qB, .int (nI L), .ref hT, .int (nI jx)])), (qB, .inl (cI, 400, .inl (fun j => nI (a j))))]) [0, 1] (by decide) rfl
          have hFc := va_free (wc := [(hR, .inr (0, [.ref qB, .int (nI L), .ref hT, .int (nI jx)])), (qB, .inl (cI, 400, .inl (fun j => nI (a j))))]) hD hS hA [0, 1] rfl
          refine va_calli (va_runV (As := [.int (nI jx)]) (rest := []) ⟨hx, hb, hml, hown, hts⟩ (c_X0_bracketsEndAt l dC dI cI cJ cZ hR qB hT H.size L jx a jx hL ha (by omega)) (cwV 1 hts gX0_readBrackets_X0_bracketsEndAt rfl rfl rfl (by decide +kernel) ⟨Nat.le_of_ble_eq_true rfl, Nat.le_of_ble_eq_true rfl⟩) ⟨fun a U g mk q => by obtain ⟨q0, q1, qP, qK, qD⟩ := q; exact ⟨q0, q1, qP, va_K.moved (u := U) (U := U.calling g mk a) (Vm.Alike.refl U.vm) qK, qD⟩, va_recv hK hPc (ci := 0) (q0 := 0) rfl rfl, fun U hU hW => ⟨rfl, by rw [hU], by rw [hU]; exact hPc, va_K.moved hW.alike hK, hDc.weaken (fun _ _ _ _ => trivial)⟩⟩ rfl rfl hl.1 rfl (lv_room (Nat.le_of_ble_eq_true rfl)) dX0_readBrackets_60 ⟨show 0 + 0 + 0 + 0 ≤ 0 from by decide, show 0 + 0 + 0 + 0 ≤ 0 from by decide⟩) hS (fun q _ h => hFc q h) hFc (fun r60 u t H1 locs ht hvm hw60 hB hz1 hk1 hS => ?_)
          obtain ⟨hP1, hK1, hD1⟩ := hB
          rw [ht] at hP1
          try dsimp only at hw60 hP1 hD1
          obtain ⟨hP, hD⟩ := va_join (wr := [(hT, .inr (1, [.ref qT, .ref qL, .ref qR, .int (nI cnt)])), (qT, .inl (cJ, 1792, .inr (.inl g))), (qL, .inl (cJ, 7, .inr (.inl fL))), (qR, .inl (cJ, 7, .inr (.inl fR)))]) (w1 := [(hR, .inr (0, [.ref qB, .int (nI L), .ref hT, .int (nI jx)])), (qB, .inl (cI, 400, .inl (fun j => nI (a j))))]) hP hD [0, 1] [2, 3, 4, 5] rfl rfl (by decide) (by decide) hk1 hFc hP1 hD1
          generalize H1 = H at hP hS ⊢
          have hP : va_P (dC, dI) vwCl [(hT, .inr (1, [.ref qT, .ref qL, .ref qR, .int (nI cnt)])), (qT, .inl (cJ, 1792, .inr (.inl g))), (qL, .inl (cJ, 7, .inr (.inl fL))), (qR, .inl (cJ, 7, .inr (.inl fR))), (hR, .inr (0, [.ref qB, .int (nI L), .ref hT, .int (nI jx)])), (qB, .inl (cI, 400, .inl (fun j => nI (a j))))] H := hP
          have hD : va_D A [(hT, .inr (1, [.ref qT, .ref qL, .ref qR, .int (nI cnt)])), (qT, .inl (cJ, 1792, .inr (.inl g))), (qL, .inl (cJ, 7, .inr (.inl fL))), (qR, .inl (cJ, 7, .inr (.inl fR))), (hR, .inr (0, [.ref qB, .int (nI L), .ref hT, .int (nI jx)])), (qB, .inl (cI, 400, .inl (fun j => nI (a j))))] := hD
          by_cases hb2 : bnd a L jx = true
          · skip
            refine wl_asi (y := nI 1) (by rw [hw60, if_pos hb2]; rfl) ?_
            refine lv_if_ne (tgt := 77) hx hb dX0_readBrackets_63 (by decide) (fun c63 => ?_) (fun c63 => ?_)
            rotate_left
            · first | exact absurd c63 (by decide) | exact absurd (by decide) c63
            · skip
              refine lv_aload_n hx hb dX0_readBrackets_77 rfl (lv_at hl 0 rfl) ?_
              refine lv_dup hx hb dX0_readBrackets_78 rfl ?_
              refine va_get (D := (dC, dI)) (ci := 0) (v := .int (nI jx)) (C := RX0) (T := TX0) (N := 4) hx hb hts (by decide +kernel) hown hK hP 4 rfl rfl 3 (by decide) (hts (.fieldLink RX0 23 "WildCards$Reader" "at" "I") (by decide +kernel)) (fun _ h9 => h9) rfl dX0_readBrackets_79 ?_
              refine lv_iconst (v := nI 1) hx hb dX0_readBrackets_82 (by decide) ?_
              refine lv_iadd hx hb dX0_readBrackets_83 ?_
              refine wl_asi (y := nI (jx + 1)) (nI_add _ _) ?_
              refine va_put (D := (dC, dI)) (ci := 0) (v := .int (nI (jx + 1))) (ty := .int) (C := RX0) (T := TX0) (N := 4) hx hb hts (by decide +kernel) tyX0 tyX0_ok nmX0 hown hK hP hD hS 4 rfl rfl 3 (by decide) (hts (.fieldLink RX0 23 "WildCards$Reader" "at" "I") (by decide +kernel)) (fun _ h9 => h9) rfl (by decide +kernel) rfl rfl (Nat.le_of_ble_eq_true rfl) dX0_readBrackets_84 (fun H locs hP hD hS => ?_)
              have hP : va_P (dC, dI) vwCl [(hT, .inr (1, [.ref qT, .ref qL, .ref qR, .int (nI cnt)])), (qT, .inl (cJ, 1792, .inr (.inl g))), (qL, .inl (cJ, 7, .inr (.inl fL))), (qR, .inl (cJ, 7, .inr (.inl fR))), (hR, .inr (0, [.ref qB, .int (nI L), .ref hT, .int (nI (jx + 1))])), (qB, .inl (cI, 400, .inl (fun j => nI (a j))))] H := hP
              have hD : va_D A [(hT, .inr (1, [.ref qT, .ref qL, .ref qR, .int (nI cnt)])), (qT, .inl (cJ, 1792, .inr (.inl g))), (qL, .inl (cJ, 7, .inr (.inl fL))), (qR, .inl (cJ, 7, .inr (.inl fR))), (hR, .inr (0, [.ref qB, .int (nI L), .ref hT, .int (nI (jx + 1))])), (qB, .inl (cI, 400, .inl (fun j => nI (a j))))] := hD
              have hP9 := hP.sub (ws' := [(hR, .inr (0, [.ref qB, .int (nI L), .ref hT, .int (nI (jx + 1))])), (qB, .inl (cI, 400, .inl (fun j => nI (a j)))), (hT, .inr (1, [.ref qT, .ref qL, .ref qR, .int (nI cnt)])), (qT, .inl (cJ, 1792, .inr (.inl g))), (qL, .inl (cJ, 7, .inr (.inl fL))), (qR, .inl (cJ, 7, .inr (.inl fR)))]) [4, 5, 0, 1, 2, 3] rfl
              have hD9 := hD.sub (ws' := [(hR, .inr (0, [.ref qB, .int (nI L), .ref hT, .int (nI (jx + 1))])), (qB, .inl (cI, 400, .inl (fun j => nI (a j)))), (hT, .inr (1, [.ref qT, .ref qL, .ref qR, .int (nI cnt)])), (qT, .inl (cJ, 1792, .inr (.inl g))), (qL, .inl (cJ, 7, .inr (.inl fL))), (qR, .inl (cJ, 7, .inr (.inl fR)))]) [4, 5, 0, 1, 2, 3] (by decide) rfl
              exact W.vret hx hb hr (fun t ht hW => ⟨⟨(jx + 1, g), rfl, (show (jx + 1) = brn a L ix ∧ ∀ x k, x < 256 → k < 448 → lb g (448 * x + k) = if k = cnt then brs a L ix x else lb fT (448 * x + k) from ⟨by rw [brn_1 (brg_1 hp2 c10), ← (BR_e hBR (Or.inr hb2)).1], br_1 (brg_1 hp2 c10) (BR_e hBR (Or.inr hb2)).2.1 (BR_e hBR (Or.inr hb2)).2.2⟩), by rw [ht]; exact hP9, va_K.moved hW.alike hK, hD9⟩, hS.F ht⟩) hS.2.2 dX0_readBrackets_87
          · skip
            refine wl_asi (y := nI 0) (by rw [hw60, if_neg hb2]; rfl) ?_
            refine lv_if_ne (tgt := 77) hx hb dX0_readBrackets_63 (by decide) (fun c63 => ?_) (fun c63 => ?_)
            · first | exact absurd c63 (by decide) | exact absurd (by decide) c63
            · skip
              refine lv_aload_n hx hb dX0_readBrackets_66 rfl (lv_at hl 0 rfl) ?_
              refine lv_iload_n hx hb dX0_readBrackets_67 rfl (lv_at hl 1 rfl) ?_
              have hPc := hP.sub (ws' := [(hR, .inr (0, [.ref qB, .int (nI L), .ref hT, .int (nI jx)])), (qB, .inl (cI, 400, .inl (fun j => nI (a j)))), (hT, .inr (1, [.ref qT, .ref qL, .ref qR, .int (nI cnt)])), (qT, .inl (cJ, 1792, .inr (.inl g))), (qL, .inl (cJ, 7, .inr (.inl fL))), (qR, .inl (cJ, 7, .inr (.inl fR)))]) [4, 5, 0, 1, 2, 3] rfl
              have hDc := hD.sub (ws' := [(hR, .inr (0, [.ref qB, .int (nI L), .ref hT, .int (nI jx)])), (qB, .inl (cI, 400, .inl (fun j => nI (a j)))), (hT, .inr (1, [.ref qT, .ref qL, .ref qR, .int (nI cnt)])), (qT, .inl (cJ, 1792, .inr (.inl g))), (qL, .inl (cJ, 7, .inr (.inl fL))), (qR, .inl (cJ, 7, .inr (.inl fR)))]) [4, 5, 0, 1, 2, 3] (by decide) rfl
              have hFc := va_free (wc := [(hR, .inr (0, [.ref qB, .int (nI L), .ref hT, .int (nI jx)])), (qB, .inl (cI, 400, .inl (fun j => nI (a j)))), (hT, .inr (1, [.ref qT, .ref qL, .ref qR, .int (nI cnt)])), (qT, .inl (cJ, 1792, .inr (.inl g))), (qL, .inl (cJ, 7, .inr (.inl fL))), (qR, .inl (cJ, 7, .inr (.inl fR)))]) hD hS hA [4, 5, 0, 1, 2, 3] rfl
              refine va_callv (va_runV (As := [.int (nI 0)]) (rest := []) ⟨hx, hb, hml, hown, hts⟩ (c_X0_readTold l dC dI cI cJ cZ hR qB hT qT qL qR H.size L jx a cnt g fL fR 0 hL ha (bnd_f hb2).1 hc (by omega)) (cwV 1 hts gX0_readBrackets_X0_readTold rfl rfl rfl (by decide +kernel) ⟨Nat.le_of_ble_eq_true rfl, Nat.le_of_ble_eq_true rfl⟩) ⟨fun a U g mk q => by obtain ⟨q0, q1, qP, qK, qD⟩ := q; exact ⟨q0, q1, qP, va_K.moved (u := U) (U := U.calling g mk a) (Vm.Alike.refl U.vm) qK, qD⟩, va_recv hK hPc (ci := 0) (q0 := 0) rfl rfl, fun U hU hW => ⟨rfl, by rw [hU], by rw [hU]; exact hPc, va_K.moved hW.alike hK, hDc.weaken (fun _ _ _ _ => trivial)⟩⟩ rfl rfl hl.1 rfl (lv_room (Nat.le_of_ble_eq_true rfl)) dX0_readBrackets_68 ⟨show 0 + 0 + 0 + 0 + 0 ≤ 0 from by decide, show 0 + 0 + 0 + 0 + 0 ≤ 0 from by decide⟩) hS (fun q _ h => hFc q h) hFc (fun u t H1 locs ht hvm hw68 hB hz1 hk1 hS => ?_)
              obtain ⟨ix268, fT268⟩ := u
              obtain ⟨hP1, hK1, hD1⟩ := hB
              rw [ht] at hP1
              try dsimp only at hw68 hP1 hD1
              obtain ⟨hP, hD⟩ := va_join (wr := []) (w1 := [(hR, .inr (0, [.ref qB, .int (nI L), .ref hT, .int (nI ix268)])), (qB, .inl (cI, 400, .inl (fun j => nI (a j)))), (hT, .inr (1, [.ref qT, .ref qL, .ref qR, .int (nI cnt)])), (qT, .inl (cJ, 1792, .inr (.inl fT268))), (qL, .inl (cJ, 7, .inr (.inl fL))), (qR, .inl (cJ, 7, .inr (.inl fR)))]) hP hD [4, 5, 0, 1, 2, 3] [] rfl rfl (by decide) (by decide) hk1 hFc hP1 hD1
              generalize H1 = H at hP hS ⊢
              have hP : va_P (dC, dI) vwCl [(hR, .inr (0, [.ref qB, .int (nI L), .ref hT, .int (nI ix268)])), (qB, .inl (cI, 400, .inl (fun j => nI (a j)))), (hT, .inr (1, [.ref qT, .ref qL, .ref qR, .int (nI cnt)])), (qT, .inl (cJ, 1792, .inr (.inl fT268))), (qL, .inl (cJ, 7, .inr (.inl fL))), (qR, .inl (cJ, 7, .inr (.inl fR)))] H := hP
              have hD : va_D A [(hR, .inr (0, [.ref qB, .int (nI L), .ref hT, .int (nI ix268)])), (qB, .inl (cI, 400, .inl (fun j => nI (a j)))), (hT, .inr (1, [.ref qT, .ref qL, .ref qR, .int (nI cnt)])), (qT, .inl (cJ, 1792, .inr (.inl fT268))), (qL, .inl (cJ, 7, .inr (.inl fL))), (qR, .inl (cJ, 7, .inr (.inl fR)))] := hD
              obtain ⟨rfl, hw68⟩ := hw68
              replace hw68 := And.intro True.intro hw68
              refine lv_iinc (v := nI (rr + 1)) (lv' := [(2, .int (nI (rr + 1))), (0, .ref hR), (1, .int (nI 0))]) hx hb dX0_readBrackets_71 hl (k := 2) rfl (wl_inc _ _ (by decide)) (by decide) rfl (fun ls hl => ?_)
              refine lv_goto (tgt := 47) hx hb dX0_readBrackets_74 (by decide) ?_
              exact ih47 (rr + 1, tnx a L jx, fT268) H locs ls ⟨(show (rr + 1) ≤ L from by omega), (show (tnx a L jx) ≤ L from (tnx_le a (bnd_f hb2).1).1), (show BR a L cnt fT fT268 true (ix + 1) (rr + 1) (tnx a L jx) from BR_s hc hBR (by omega) hb2 hw68.2), hP.sub [0, 1, 2, 3, 4, 5] rfl, hD.sub [0, 1, 2, 3, 4, 5] (by decide) rfl, hS, lv_sub hl [1, 2, 0] rfl⟩ (by (try dsimp only); omega)
    · skip
      refine lv_iconst (v := nI 1) hx hb dX0_readBrackets_13 (by decide) ?_
      refine lv_goto (tgt := 18) hx hb dX0_readBrackets_14 (by decide) ?_
      refine lv_istore_n (lv' := [(1, .int (nI 1)), (0, .ref hR)]) hx hb dX0_readBrackets_18 rfl hl (by decide) rfl (fun ls hl => ?_)
      refine lv_iload_n hx hb dX0_readBrackets_19 rfl (lv_at hl 0 rfl) ?_
      refine lv_if_ne (tgt := 45) hx hb dX0_readBrackets_20 (by decide) (fun c20 => ?_) (fun c20 => ?_)
      rotate_left
      · first | exact absurd c20 (by decide) | exact absurd (by decide) c20
      · skip
        refine lv_iconst (v := nI 0) hx hb dX0_readBrackets_45 (by decide) ?_
        refine lv_istore_n (lv' := [(2, .int (nI 0)), (1, .int (nI 1)), (0, .ref hR)]) hx hb dX0_readBrackets_46 rfl hl (by decide) rfl (fun ls hl => ?_)
        refine wl_loop (σ := Nat × Nat × (Nat → Int64)) (fun z9 => L - z9.1) (fun z9 H locs ls => (z9.1 ≤ L) ∧ (z9.2.1 ≤ L) ∧ (BR a L cnt fT z9.2.2 false ix z9.1 z9.2.1) ∧ va_P (dC, dI) vwCl [(hR, .inr (0, [.ref qB, .int (nI L), .ref hT, .int (nI z9.2.1)])), (qB, .inl (cI, 400, .inl (fun j => nI (a j)))), (hT, .inr (1, [.ref qT, .ref qL, .ref qR, .int (nI cnt)])), (qT, .inl (cJ, 1792, .inr (.inl z9.2.2))), (qL, .inl (cJ, 7, .inr (.inl fL))), (qR, .inl (cJ, 7, .inr (.inl fR)))] H ∧ va_D A [(hR, .inr (0, [.ref qB, .int (nI L), .ref hT, .int (nI z9.2.1)])), (qB, .inl (cI, 400, .inl (fun j => nI (a j)))), (hT, .inr (1, [.ref qT, .ref qL, .ref qR, .int (nI cnt)])), (qT, .inl (cJ, 1792, .inr (.inl z9.2.2))), (qL, .inl (cJ, 7, .inr (.inl fL))), (qR, .inl (cJ, 7, .inr (.inl fR)))] ∧ va_S A s.heap H locs ∧ lv_has ls 3 [(0, .ref hR), (1, .int (nI 1)), (2, .int (nI z9.1))]) ?_ (0, ix, fT) ⟨(show (0) ≤ L from Nat.zero_le _), (show ix ≤ L from hat), (show BR a L cnt fT fT false ix (0) ix from BR_i0 hnew), hP.sub [4, 5, 0, 1, 2, 3] rfl, hD.sub [4, 5, 0, 1, 2, 3] (by decide) rfl, hS, lv_sub hl [2, 1, 0] rfl⟩
        intro z9 H locs ls hI ih47
        obtain ⟨rr, jx, g⟩ := z9
        obtain ⟨hr1, hj, hBR, hP, hD, hS, hl⟩ := hI
        try dsimp only at hr1 hj hBR hP hD hl
        have hP : va_P (dC, dI) vwCl [(hR, .inr (0, [.ref qB, .int (nI L), .ref hT, .int (nI jx)])), (qB, .inl (cI, 400, .inl (fun j => nI (a j)))), (hT, .inr (1, [.ref qT, .ref qL, .ref qR, .int (nI cnt)])), (qT, .inl (cJ, 1792, .inr (.inl g))), (qL, .inl (cJ, 7, .inr (.inl fL))), (qR, .inl (cJ, 7, .inr (.inl fR)))] H := hP
        have hD : va_D A [(hR, .inr (0, [.ref qB, .int (nI L), .ref hT, .int (nI jx)])), (qB, .inl (cI, 400, .inl (fun j => nI (a j)))), (hT, .inr (1, [.ref qT, .ref qL, .ref qR, .int (nI cnt)])), (qT, .inl (cJ, 1792, .inr (.inl g))), (qL, .inl (cJ, 7, .inr (.inl fL))), (qR, .inl (cJ, 7, .inr (.inl fR)))] := hD
        have hl : lv_has ls 3 [(0, .ref hR), (1, .int (nI 1)), (2, .int (nI rr))] := hl
        refine lv_iload_n hx hb dX0_readBrackets_47 rfl (lv_at hl 2 rfl) ?_
        refine lv_aload_n hx hb dX0_readBrackets_48 rfl (lv_at hl 0 rfl) ?_
        refine va_get (D := (dC, dI)) (ci := 0) (v := .int (nI L)) (C := RX0) (T := TX0) (N := 4) hx hb hts (by decide +kernel) hown hK hP 0 rfl rfl 1 (by decide) (hts (.fieldLink RX0 15 "WildCards$Reader" "length" "I") (by decide +kernel)) (fun _ h9 => h9) rfl dX0_readBrackets_49 ?_
        refine wl_icmp_ge (tgt := 77) hx hb dX0_readBrackets_52 (by decide) (by omega) (by omega) (fun c52 => ?_) (fun c52 => ?_)
        · skip
          refine lv_aload_n hx hb dX0_readBrackets_77 rfl (lv_at hl 0 rfl) ?_
          refine lv_dup hx hb dX0_readBrackets_78 rfl ?_
          refine va_get (D := (dC, dI)) (ci := 0) (v := .int (nI jx)) (C := RX0) (T := TX0) (N := 4) hx hb hts (by decide +kernel) hown hK hP 0 rfl rfl 3 (by decide) (hts (.fieldLink RX0 23 "WildCards$Reader" "at" "I") (by decide +kernel)) (fun _ h9 => h9) rfl dX0_readBrackets_79 ?_
          refine lv_iconst (v := nI 1) hx hb dX0_readBrackets_82 (by decide) ?_
          refine lv_iadd hx hb dX0_readBrackets_83 ?_
          refine wl_asi (y := nI (jx + 1)) (nI_add _ _) ?_
          refine va_put (D := (dC, dI)) (ci := 0) (v := .int (nI (jx + 1))) (ty := .int) (C := RX0) (T := TX0) (N := 4) hx hb hts (by decide +kernel) tyX0 tyX0_ok nmX0 hown hK hP hD hS 0 rfl rfl 3 (by decide) (hts (.fieldLink RX0 23 "WildCards$Reader" "at" "I") (by decide +kernel)) (fun _ h9 => h9) rfl (by decide +kernel) rfl rfl (Nat.le_of_ble_eq_true rfl) dX0_readBrackets_84 (fun H locs hP hD hS => ?_)
          have hP : va_P (dC, dI) vwCl [(hR, .inr (0, [.ref qB, .int (nI L), .ref hT, .int (nI (jx + 1))])), (qB, .inl (cI, 400, .inl (fun j => nI (a j)))), (hT, .inr (1, [.ref qT, .ref qL, .ref qR, .int (nI cnt)])), (qT, .inl (cJ, 1792, .inr (.inl g))), (qL, .inl (cJ, 7, .inr (.inl fL))), (qR, .inl (cJ, 7, .inr (.inl fR)))] H := hP
          have hD : va_D A [(hR, .inr (0, [.ref qB, .int (nI L), .ref hT, .int (nI (jx + 1))])), (qB, .inl (cI, 400, .inl (fun j => nI (a j)))), (hT, .inr (1, [.ref qT, .ref qL, .ref qR, .int (nI cnt)])), (qT, .inl (cJ, 1792, .inr (.inl g))), (qL, .inl (cJ, 7, .inr (.inl fL))), (qR, .inl (cJ, 7, .inr (.inl fR)))] := hD
          have hP9 := hP.sub (ws' := [(hR, .inr (0, [.ref qB, .int (nI L), .ref hT, .int (nI (jx + 1))])), (qB, .inl (cI, 400, .inl (fun j => nI (a j)))), (hT, .inr (1, [.ref qT, .ref qL, .ref qR, .int (nI cnt)])), (qT, .inl (cJ, 1792, .inr (.inl g))), (qL, .inl (cJ, 7, .inr (.inl fL))), (qR, .inl (cJ, 7, .inr (.inl fR)))]) [0, 1, 2, 3, 4, 5] rfl
          have hD9 := hD.sub (ws' := [(hR, .inr (0, [.ref qB, .int (nI L), .ref hT, .int (nI (jx + 1))])), (qB, .inl (cI, 400, .inl (fun j => nI (a j)))), (hT, .inr (1, [.ref qT, .ref qL, .ref qR, .int (nI cnt)])), (qT, .inl (cJ, 1792, .inr (.inl g))), (qL, .inl (cJ, 7, .inr (.inl fL))), (qR, .inl (cJ, 7, .inr (.inl fR)))]) [0, 1, 2, 3, 4, 5] (by decide) rfl
          exact W.vret hx hb hr (fun t ht hW => ⟨⟨(jx + 1, g), rfl, (show (jx + 1) = brn a L ix ∧ ∀ x k, x < 256 → k < 448 → lb g (448 * x + k) = if k = cnt then brs a L ix x else lb fT (448 * x + k) from ⟨by rw [brn_0 (brg_b c10), ← (BR_e hBR (Or.inl c52)).1], br_0 (brg_b c10) (BR_e hBR (Or.inl c52)).2.1 (BR_e hBR (Or.inl c52)).2.2⟩), by rw [ht]; exact hP9, va_K.moved hW.alike hK, hD9⟩, hS.F ht⟩) hS.2.2 dX0_readBrackets_87
        · skip
          refine lv_aload_n hx hb dX0_readBrackets_55 rfl (lv_at hl 0 rfl) ?_
          refine lv_aload_n hx hb dX0_readBrackets_56 rfl (lv_at hl 0 rfl) ?_
          refine va_get (D := (dC, dI)) (ci := 0) (v := .int (nI jx)) (C := RX0) (T := TX0) (N := 4) hx hb hts (by decide +kernel) hown hK hP 0 rfl rfl 3 (by decide) (hts (.fieldLink RX0 23 "WildCards$Reader" "at" "I") (by decide +kernel)) (fun _ h9 => h9) rfl dX0_readBrackets_57 ?_
          have hPc := hP.sub (ws' := [(hR, .inr (0, [.ref qB, .int (nI L), .ref hT, .int (nI jx)])), (qB, .inl (cI, 400, .inl (fun j => nI (a j))))]) [0, 1] rfl
          have hDc := hD.sub (ws' := [(hR, .inr (0, [.ref qB, .int (nI L), .ref hT, .int (nI jx)])), (qB, .inl (cI, 400, .inl (fun j => nI (a j))))]) [0, 1] (by decide) rfl
          have hFc := va_free (wc := [(hR, .inr (0, [.ref qB, .int (nI L), .ref hT, .int (nI jx)])), (qB, .inl (cI, 400, .inl (fun j => nI (a j))))]) hD hS hA [0, 1] rfl
          refine va_calli (va_runV (As := [.int (nI jx)]) (rest := []) ⟨hx, hb, hml, hown, hts⟩ (c_X0_bracketsEndAt l dC dI cI cJ cZ hR qB hT H.size L jx a jx hL ha (by omega)) (cwV 1 hts gX0_readBrackets_X0_bracketsEndAt rfl rfl rfl (by decide +kernel) ⟨Nat.le_of_ble_eq_true rfl, Nat.le_of_ble_eq_true rfl⟩) ⟨fun a U g mk q => by obtain ⟨q0, q1, qP, qK, qD⟩ := q; exact ⟨q0, q1, qP, va_K.moved (u := U) (U := U.calling g mk a) (Vm.Alike.refl U.vm) qK, qD⟩, va_recv hK hPc (ci := 0) (q0 := 0) rfl rfl, fun U hU hW => ⟨rfl, by rw [hU], by rw [hU]; exact hPc, va_K.moved hW.alike hK, hDc.weaken (fun _ _ _ _ => trivial)⟩⟩ rfl rfl hl.1 rfl (lv_room (Nat.le_of_ble_eq_true rfl)) dX0_readBrackets_60 ⟨show 0 + 0 + 0 ≤ 0 from by decide, show 0 + 0 + 0 ≤ 0 from by decide⟩) hS (fun q _ h => hFc q h) hFc (fun r60 u t H1 locs ht hvm hw60 hB hz1 hk1 hS => ?_)
          obtain ⟨hP1, hK1, hD1⟩ := hB
          rw [ht] at hP1
          try dsimp only at hw60 hP1 hD1
          obtain ⟨hP, hD⟩ := va_join (wr := [(hT, .inr (1, [.ref qT, .ref qL, .ref qR, .int (nI cnt)])), (qT, .inl (cJ, 1792, .inr (.inl g))), (qL, .inl (cJ, 7, .inr (.inl fL))), (qR, .inl (cJ, 7, .inr (.inl fR)))]) (w1 := [(hR, .inr (0, [.ref qB, .int (nI L), .ref hT, .int (nI jx)])), (qB, .inl (cI, 400, .inl (fun j => nI (a j))))]) hP hD [0, 1] [2, 3, 4, 5] rfl rfl (by decide) (by decide) hk1 hFc hP1 hD1
          generalize H1 = H at hP hS ⊢
          have hP : va_P (dC, dI) vwCl [(hT, .inr (1, [.ref qT, .ref qL, .ref qR, .int (nI cnt)])), (qT, .inl (cJ, 1792, .inr (.inl g))), (qL, .inl (cJ, 7, .inr (.inl fL))), (qR, .inl (cJ, 7, .inr (.inl fR))), (hR, .inr (0, [.ref qB, .int (nI L), .ref hT, .int (nI jx)])), (qB, .inl (cI, 400, .inl (fun j => nI (a j))))] H := hP
          have hD : va_D A [(hT, .inr (1, [.ref qT, .ref qL, .ref qR, .int (nI cnt)])), (qT, .inl (cJ, 1792, .inr (.inl g))), (qL, .inl (cJ, 7, .inr (.inl fL))), (qR, .inl (cJ, 7, .inr (.inl fR))), (hR, .inr (0, [.ref qB, .int (nI L), .ref hT, .int (nI jx)])), (qB, .inl (cI, 400, .inl (fun j => nI (a j))))] := hD
          by_cases hb2 : bnd a L jx = true
          · skip
            refine wl_asi (y := nI 1) (by rw [hw60, if_pos hb2]; rfl) ?_
            refine lv_if_ne (tgt := 77) hx hb dX0_readBrackets_63 (by decide) (fun c63 => ?_) (fun c63 => ?_)
            rotate_left
            · first | exact absurd c63 (by decide) | exact absurd (by decide) c63
            · skip
              refine lv_aload_n hx hb dX0_readBrackets_77 rfl (lv_at hl 0 rfl) ?_
              refine lv_dup hx hb dX0_readBrackets_78 rfl ?_
              refine va_get (D := (dC, dI)) (ci := 0) (v := .int (nI jx)) (C := RX0) (T := TX0) (N := 4) hx hb hts (by decide +kernel) hown hK hP 4 rfl rfl 3 (by decide) (hts (.fieldLink RX0 23 "WildCards$Reader" "at" "I") (by decide +kernel)) (fun _ h9 => h9) rfl dX0_readBrackets_79 ?_
              refine lv_iconst (v := nI 1) hx hb dX0_readBrackets_82 (by decide) ?_
              refine lv_iadd hx hb dX0_readBrackets_83 ?_
              refine wl_asi (y := nI (jx + 1)) (nI_add _ _) ?_
              refine va_put (D := (dC, dI)) (ci := 0) (v := .int (nI (jx + 1))) (ty := .int) (C := RX0) (T := TX0) (N := 4) hx hb hts (by decide +kernel) tyX0 tyX0_ok nmX0 hown hK hP hD hS 4 rfl rfl 3 (by decide) (hts (.fieldLink RX0 23 "WildCards$Reader" "at" "I") (by decide +kernel)) (fun _ h9 => h9) rfl (by decide +kernel) rfl rfl (Nat.le_of_ble_eq_true rfl) dX0_readBrackets_84 (fun H locs hP hD hS => ?_)
              have hP : va_P (dC, dI) vwCl [(hT, .inr (1, [.ref qT, .ref qL, .ref qR, .int (nI cnt)])), (qT, .inl (cJ, 1792, .inr (.inl g))), (qL, .inl (cJ, 7, .inr (.inl fL))), (qR, .inl (cJ, 7, .inr (.inl fR))), (hR, .inr (0, [.ref qB, .int (nI L), .ref hT, .int (nI (jx + 1))])), (qB, .inl (cI, 400, .inl (fun j => nI (a j))))] H := hP
              have hD : va_D A [(hT, .inr (1, [.ref qT, .ref qL, .ref qR, .int (nI cnt)])), (qT, .inl (cJ, 1792, .inr (.inl g))), (qL, .inl (cJ, 7, .inr (.inl fL))), (qR, .inl (cJ, 7, .inr (.inl fR))), (hR, .inr (0, [.ref qB, .int (nI L), .ref hT, .int (nI (jx + 1))])), (qB, .inl (cI, 400, .inl (fun j => nI (a j))))] := hD
              have hP9 := hP.sub (ws' := [(hR, .inr (0, [.ref qB, .int (nI L), .ref hT, .int (nI (jx + 1))])), (qB, .inl (cI, 400, .inl (fun j => nI (a j)))), (hT, .inr (1, [.ref qT, .ref qL, .ref qR, .int (nI cnt)])), (qT, .inl (cJ, 1792, .inr (.inl g))), (qL, .inl (cJ, 7, .inr (.inl fL))), (qR, .inl (cJ, 7, .inr (.inl fR)))]) [4, 5, 0, 1, 2, 3] rfl
              have hD9 := hD.sub (ws' := [(hR, .inr (0, [.ref qB, .int (nI L), .ref hT, .int (nI (jx + 1))])), (qB, .inl (cI, 400, .inl (fun j => nI (a j)))), (hT, .inr (1, [.ref qT, .ref qL, .ref qR, .int (nI cnt)])), (qT, .inl (cJ, 1792, .inr (.inl g))), (qL, .inl (cJ, 7, .inr (.inl fL))), (qR, .inl (cJ, 7, .inr (.inl fR)))]) [4, 5, 0, 1, 2, 3] (by decide) rfl
              exact W.vret hx hb hr (fun t ht hW => ⟨⟨(jx + 1, g), rfl, (show (jx + 1) = brn a L ix ∧ ∀ x k, x < 256 → k < 448 → lb g (448 * x + k) = if k = cnt then brs a L ix x else lb fT (448 * x + k) from ⟨by rw [brn_0 (brg_b c10), ← (BR_e hBR (Or.inr hb2)).1], br_0 (brg_b c10) (BR_e hBR (Or.inr hb2)).2.1 (BR_e hBR (Or.inr hb2)).2.2⟩), by rw [ht]; exact hP9, va_K.moved hW.alike hK, hD9⟩, hS.F ht⟩) hS.2.2 dX0_readBrackets_87
          · skip
            refine wl_asi (y := nI 0) (by rw [hw60, if_neg hb2]; rfl) ?_
            refine lv_if_ne (tgt := 77) hx hb dX0_readBrackets_63 (by decide) (fun c63 => ?_) (fun c63 => ?_)
            · first | exact absurd c63 (by decide) | exact absurd (by decide) c63
            · skip
              refine lv_aload_n hx hb dX0_readBrackets_66 rfl (lv_at hl 0 rfl) ?_
              refine lv_iload_n hx hb dX0_readBrackets_67 rfl (lv_at hl 1 rfl) ?_
              have hPc := hP.sub (ws' := [(hR, .inr (0, [.ref qB, .int (nI L), .ref hT, .int (nI jx)])), (qB, .inl (cI, 400, .inl (fun j => nI (a j)))), (hT, .inr (1, [.ref qT, .ref qL, .ref qR, .int (nI cnt)])), (qT, .inl (cJ, 1792, .inr (.inl g))), (qL, .inl (cJ, 7, .inr (.inl fL))), (qR, .inl (cJ, 7, .inr (.inl fR)))]) [4, 5, 0, 1, 2, 3] rfl
              have hDc := hD.sub (ws' := [(hR, .inr (0, [.ref qB, .int (nI L), .ref hT, .int (nI jx)])), (qB, .inl (cI, 400, .inl (fun j => nI (a j)))), (hT, .inr (1, [.ref qT, .ref qL, .ref qR, .int (nI cnt)])), (qT, .inl (cJ, 1792, .inr (.inl g))), (qL, .inl (cJ, 7, .inr (.inl fL))), (qR, .inl (cJ, 7, .inr (.inl fR)))]) [4, 5, 0, 1, 2, 3] (by decide) rfl
              have hFc := va_free (wc := [(hR, .inr (0, [.ref qB, .int (nI L), .ref hT, .int (nI jx)])), (qB, .inl (cI, 400, .inl (fun j => nI (a j)))), (hT, .inr (1, [.ref qT, .ref qL, .ref qR, .int (nI cnt)])), (qT, .inl (cJ, 1792, .inr (.inl g))), (qL, .inl (cJ, 7, .inr (.inl fL))), (qR, .inl (cJ, 7, .inr (.inl fR)))]) hD hS hA [4, 5, 0, 1, 2, 3] rfl
              refine va_callv (va_runV (As := [.int (nI 1)]) (rest := []) ⟨hx, hb, hml, hown, hts⟩ (c_X0_readTold l dC dI cI cJ cZ hR qB hT qT qL qR H.size L jx a cnt g fL fR 1 hL ha (bnd_f hb2).1 hc (by omega)) (cwV 1 hts gX0_readBrackets_X0_readTold rfl rfl rfl (by decide +kernel) ⟨Nat.le_of_ble_eq_true rfl, Nat.le_of_ble_eq_true rfl⟩) ⟨fun a U g mk q => by obtain ⟨q0, q1, qP, qK, qD⟩ := q; exact ⟨q0, q1, qP, va_K.moved (u := U) (U := U.calling g mk a) (Vm.Alike.refl U.vm) qK, qD⟩, va_recv hK hPc (ci := 0) (q0 := 0) rfl rfl, fun U hU hW => ⟨rfl, by rw [hU], by rw [hU]; exact hPc, va_K.moved hW.alike hK, hDc.weaken (fun _ _ _ _ => trivial)⟩⟩ rfl rfl hl.1 rfl (lv_room (Nat.le_of_ble_eq_true rfl)) dX0_readBrackets_68 ⟨show 0 + 0 + 0 + 0 ≤ 0 from by decide, show 0 + 0 + 0 + 0 ≤ 0 from by decide⟩) hS (fun q _ h => hFc q h) hFc (fun u t H1 locs ht hvm hw68 hB hz1 hk1 hS => ?_)
              obtain ⟨ix268, fT268⟩ := u
              obtain ⟨hP1, hK1, hD1⟩ := hB
              rw [ht] at hP1
              try dsimp only at hw68 hP1 hD1
              obtain ⟨hP, hD⟩ := va_join (wr := []) (w1 := [(hR, .inr (0, [.ref qB, .int (nI L), .ref hT, .int (nI ix268)])), (qB, .inl (cI, 400, .inl (fun j => nI (a j)))), (hT, .inr (1, [.ref qT, .ref qL, .ref qR, .int (nI cnt)])), (qT, .inl (cJ, 1792, .inr (.inl fT268))), (qL, .inl (cJ, 7, .inr (.inl fL))), (qR, .inl (cJ, 7, .inr (.inl fR)))]) hP hD [4, 5, 0, 1, 2, 3] [] rfl rfl (by decide) (by decide) hk1 hFc hP1 hD1
              generalize H1 = H at hP hS ⊢
              have hP : va_P (dC, dI) vwCl [(hR, .inr (0, [.ref qB, .int (nI L), .ref hT, .int (nI ix268)])), (qB, .inl (cI, 400, .inl (fun j => nI (a j)))), (hT, .inr (1, [.ref qT, .ref qL, .ref qR, .int (nI cnt)])), (qT, .inl (cJ, 1792, .inr (.inl fT268))), (qL, .inl (cJ, 7, .inr (.inl fL))), (qR, .inl (cJ, 7, .inr (.inl fR)))] H := hP
              have hD : va_D A [(hR, .inr (0, [.ref qB, .int (nI L), .ref hT, .int (nI ix268)])), (qB, .inl (cI, 400, .inl (fun j => nI (a j)))), (hT, .inr (1, [.ref qT, .ref qL, .ref qR, .int (nI cnt)])), (qT, .inl (cJ, 1792, .inr (.inl fT268))), (qL, .inl (cJ, 7, .inr (.inl fL))), (qR, .inl (cJ, 7, .inr (.inl fR)))] := hD
              obtain ⟨rfl, hw68⟩ := hw68
              replace hw68 := And.intro True.intro hw68
              refine lv_iinc (v := nI (rr + 1)) (lv' := [(2, .int (nI (rr + 1))), (0, .ref hR), (1, .int (nI 1))]) hx hb dX0_readBrackets_71 hl (k := 2) rfl (wl_inc _ _ (by decide)) (by decide) rfl (fun ls hl => ?_)
              refine lv_goto (tgt := 47) hx hb dX0_readBrackets_74 (by decide) ?_
              exact ih47 (rr + 1, tnx a L jx, fT268) H locs ls ⟨(show (rr + 1) ≤ L from by omega), (show (tnx a L jx) ≤ L from (tnx_le a (bnd_f hb2).1).1), (show BR a L cnt fT fT268 false ix (rr + 1) (tnx a L jx) from BR_s hc hBR (by omega) hb2 hw68.2), hP.sub [0, 1, 2, 3, 4, 5] rfl, hD.sub [0, 1, 2, 3, 4, 5] (by decide) rfl, hS, lv_sub hl [1, 2, 0] rfl⟩ (by (try dsimp only); omega)
  · skip
    refine wl_asi (y := (-1)) (by rw [hw5, if_neg hp2]) ?_
    refine lv_bipush (v := nI 94) hx hb dX0_readBrackets_8 (by decide) ?_
    refine lv_icmp_eq (tgt := 17) hx hb dX0_readBrackets_10 (by decide) (fun c10 => ?_) (fun c10 => ?_)
    · skip
      exact absurd c10 (by decide)
    · skip
      refine lv_iconst (v := nI 1) hx hb dX0_readBrackets_13 (by decide) ?_
      refine lv_goto (tgt := 18) hx hb dX0_readBrackets_14 (by decide) ?_
      refine lv_istore_n (lv' := [(1, .int (nI 1)), (0, .ref hR)]) hx hb dX0_readBrackets_18 rfl hl (by decide) rfl (fun ls hl => ?_)
      refine lv_iload_n hx hb dX0_readBrackets_19 rfl (lv_at hl 0 rfl) ?_
      refine lv_if_ne (tgt := 45) hx hb dX0_readBrackets_20 (by decide) (fun c20 => ?_) (fun c20 => ?_)
      rotate_left
      · first | exact absurd c20 (by decide) | exact absurd (by decide) c20
      · skip
        refine lv_iconst (v := nI 0) hx hb dX0_readBrackets_45 (by decide) ?_
        refine lv_istore_n (lv' := [(2, .int (nI 0)), (1, .int (nI 1)), (0, .ref hR)]) hx hb dX0_readBrackets_46 rfl hl (by decide) rfl (fun ls hl => ?_)
        refine wl_loop (σ := Nat × Nat × (Nat → Int64)) (fun z9 => L - z9.1) (fun z9 H locs ls => (z9.1 ≤ L) ∧ (z9.2.1 ≤ L) ∧ (BR a L cnt fT z9.2.2 false ix z9.1 z9.2.1) ∧ va_P (dC, dI) vwCl [(hR, .inr (0, [.ref qB, .int (nI L), .ref hT, .int (nI z9.2.1)])), (qB, .inl (cI, 400, .inl (fun j => nI (a j)))), (hT, .inr (1, [.ref qT, .ref qL, .ref qR, .int (nI cnt)])), (qT, .inl (cJ, 1792, .inr (.inl z9.2.2))), (qL, .inl (cJ, 7, .inr (.inl fL))), (qR, .inl (cJ, 7, .inr (.inl fR)))] H ∧ va_D A [(hR, .inr (0, [.ref qB, .int (nI L), .ref hT, .int (nI z9.2.1)])), (qB, .inl (cI, 400, .inl (fun j => nI (a j)))), (hT, .inr (1, [.ref qT, .ref qL, .ref qR, .int (nI cnt)])), (qT, .inl (cJ, 1792, .inr (.inl z9.2.2))), (qL, .inl (cJ, 7, .inr (.inl fL))), (qR, .inl (cJ, 7, .inr (.inl fR)))] ∧ va_S A s.heap H locs ∧ lv_has ls 3 [(0, .ref hR), (1, .int (nI 1)), (2, .int (nI z9.1))]) ?_ (0, ix, fT) ⟨(show (0) ≤ L from Nat.zero_le _), (show ix ≤ L from hat), (show BR a L cnt fT fT false ix (0) ix from BR_i0 hnew), hP.sub [4, 5, 0, 1, 2, 3] rfl, hD.sub [4, 5, 0, 1, 2, 3] (by decide) rfl, hS, lv_sub hl [2, 1, 0] rfl⟩
        intro z9 H locs ls hI ih47
        obtain ⟨rr, jx, g⟩ := z9
        obtain ⟨hr1, hj, hBR, hP, hD, hS, hl⟩ := hI
        try dsimp only at hr1 hj hBR hP hD hl
        have hP : va_P (dC, dI) vwCl [(hR, .inr (0, [.ref qB, .int (nI L), .ref hT, .int (nI jx)])), (qB, .inl (cI, 400, .inl (fun j => nI (a j)))), (hT, .inr (1, [.ref qT, .ref qL, .ref qR, .int (nI cnt)])), (qT, .inl (cJ, 1792, .inr (.inl g))), (qL, .inl (cJ, 7, .inr (.inl fL))), (qR, .inl (cJ, 7, .inr (.inl fR)))] H := hP
        have hD : va_D A [(hR, .inr (0, [.ref qB, .int (nI L), .ref hT, .int (nI jx)])), (qB, .inl (cI, 400, .inl (fun j => nI (a j)))), (hT, .inr (1, [.ref qT, .ref qL, .ref qR, .int (nI cnt)])), (qT, .inl (cJ, 1792, .inr (.inl g))), (qL, .inl (cJ, 7, .inr (.inl fL))), (qR, .inl (cJ, 7, .inr (.inl fR)))] := hD
        have hl : lv_has ls 3 [(0, .ref hR), (1, .int (nI 1)), (2, .int (nI rr))] := hl
        refine lv_iload_n hx hb dX0_readBrackets_47 rfl (lv_at hl 2 rfl) ?_
        refine lv_aload_n hx hb dX0_readBrackets_48 rfl (lv_at hl 0 rfl) ?_
        refine va_get (D := (dC, dI)) (ci := 0) (v := .int (nI L)) (C := RX0) (T := TX0) (N := 4) hx hb hts (by decide +kernel) hown hK hP 0 rfl rfl 1 (by decide) (hts (.fieldLink RX0 15 "WildCards$Reader" "length" "I") (by decide +kernel)) (fun _ h9 => h9) rfl dX0_readBrackets_49 ?_
        refine wl_icmp_ge (tgt := 77) hx hb dX0_readBrackets_52 (by decide) (by omega) (by omega) (fun c52 => ?_) (fun c52 => ?_)
        · skip
          refine lv_aload_n hx hb dX0_readBrackets_77 rfl (lv_at hl 0 rfl) ?_
          refine lv_dup hx hb dX0_readBrackets_78 rfl ?_
          refine va_get (D := (dC, dI)) (ci := 0) (v := .int (nI jx)) (C := RX0) (T := TX0) (N := 4) hx hb hts (by decide +kernel) hown hK hP 0 rfl rfl 3 (by decide) (hts (.fieldLink RX0 23 "WildCards$Reader" "at" "I") (by decide +kernel)) (fun _ h9 => h9) rfl dX0_readBrackets_79 ?_
          refine lv_iconst (v := nI 1) hx hb dX0_readBrackets_82 (by decide) ?_
          refine lv_iadd hx hb dX0_readBrackets_83 ?_
          refine wl_asi (y := nI (jx + 1)) (nI_add _ _) ?_
          refine va_put (D := (dC, dI)) (ci := 0) (v := .int (nI (jx + 1))) (ty := .int) (C := RX0) (T := TX0) (N := 4) hx hb hts (by decide +kernel) tyX0 tyX0_ok nmX0 hown hK hP hD hS 0 rfl rfl 3 (by decide) (hts (.fieldLink RX0 23 "WildCards$Reader" "at" "I") (by decide +kernel)) (fun _ h9 => h9) rfl (by decide +kernel) rfl rfl (Nat.le_of_ble_eq_true rfl) dX0_readBrackets_84 (fun H locs hP hD hS => ?_)
          have hP : va_P (dC, dI) vwCl [(hR, .inr (0, [.ref qB, .int (nI L), .ref hT, .int (nI (jx + 1))])), (qB, .inl (cI, 400, .inl (fun j => nI (a j)))), (hT, .inr (1, [.ref qT, .ref qL, .ref qR, .int (nI cnt)])), (qT, .inl (cJ, 1792, .inr (.inl g))), (qL, .inl (cJ, 7, .inr (.inl fL))), (qR, .inl (cJ, 7, .inr (.inl fR)))] H := hP
          have hD : va_D A [(hR, .inr (0, [.ref qB, .int (nI L), .ref hT, .int (nI (jx + 1))])), (qB, .inl (cI, 400, .inl (fun j => nI (a j)))), (hT, .inr (1, [.ref qT, .ref qL, .ref qR, .int (nI cnt)])), (qT, .inl (cJ, 1792, .inr (.inl g))), (qL, .inl (cJ, 7, .inr (.inl fL))), (qR, .inl (cJ, 7, .inr (.inl fR)))] := hD
          have hP9 := hP.sub (ws' := [(hR, .inr (0, [.ref qB, .int (nI L), .ref hT, .int (nI (jx + 1))])), (qB, .inl (cI, 400, .inl (fun j => nI (a j)))), (hT, .inr (1, [.ref qT, .ref qL, .ref qR, .int (nI cnt)])), (qT, .inl (cJ, 1792, .inr (.inl g))), (qL, .inl (cJ, 7, .inr (.inl fL))), (qR, .inl (cJ, 7, .inr (.inl fR)))]) [0, 1, 2, 3, 4, 5] rfl
          have hD9 := hD.sub (ws' := [(hR, .inr (0, [.ref qB, .int (nI L), .ref hT, .int (nI (jx + 1))])), (qB, .inl (cI, 400, .inl (fun j => nI (a j)))), (hT, .inr (1, [.ref qT, .ref qL, .ref qR, .int (nI cnt)])), (qT, .inl (cJ, 1792, .inr (.inl g))), (qL, .inl (cJ, 7, .inr (.inl fL))), (qR, .inl (cJ, 7, .inr (.inl fR)))]) [0, 1, 2, 3, 4, 5] (by decide) rfl
          exact W.vret hx hb hr (fun t ht hW => ⟨⟨(jx + 1, g), rfl, (show (jx + 1) = brn a L ix ∧ ∀ x k, x < 256 → k < 448 → lb g (448 * x + k) = if k = cnt then brs a L ix x else lb fT (448 * x + k) from ⟨by rw [brn_0 (brg_a hp2), ← (BR_e hBR (Or.inl c52)).1], br_0 (brg_a hp2) (BR_e hBR (Or.inl c52)).2.1 (BR_e hBR (Or.inl c52)).2.2⟩), by rw [ht]; exact hP9, va_K.moved hW.alike hK, hD9⟩, hS.F ht⟩) hS.2.2 dX0_readBrackets_87
        · skip
          refine lv_aload_n hx hb dX0_readBrackets_55 rfl (lv_at hl 0 rfl) ?_
          refine lv_aload_n hx hb dX0_readBrackets_56 rfl (lv_at hl 0 rfl) ?_
          refine va_get (D := (dC, dI)) (ci := 0) (v := .int (nI jx)) (C := RX0) (T := TX0) (N := 4) hx hb hts (by decide +kernel) hown hK hP 0 rfl rfl 3 (by decide) (hts (.fieldLink RX0 23 "WildCards$Reader" "at" "I") (by decide +kernel)) (fun _ h9 => h9) rfl dX0_readBrackets_57 ?_
          have hPc := hP.sub (ws' := [(hR, .inr (0, [.ref qB, .int (nI L), .ref hT, .int (nI jx)])), (qB, .inl (cI, 400, .inl (fun j => nI (a j))))]) [0, 1] rfl
          have hDc := hD.sub (ws' := [(hR, .inr (0, [.ref qB, .int (nI L), .ref hT, .int (nI jx)])), (qB, .inl (cI, 400, .inl (fun j => nI (a j))))]) [0, 1] (by decide) rfl
          have hFc := va_free (wc := [(hR, .inr (0, [.ref qB, .int (nI L), .ref hT, .int (nI jx)])), (qB, .inl (cI, 400, .inl (fun j => nI (a j))))]) hD hS hA [0, 1] rfl
          refine va_calli (va_runV (As := [.int (nI jx)]) (rest := []) ⟨hx, hb, hml, hown, hts⟩ (c_X0_bracketsEndAt l dC dI cI cJ cZ hR qB hT H.size L jx a jx hL ha (by omega)) (cwV 1 hts gX0_readBrackets_X0_bracketsEndAt rfl rfl rfl (by decide +kernel) ⟨Nat.le_of_ble_eq_true rfl, Nat.le_of_ble_eq_true rfl⟩) ⟨fun a U g mk q => by obtain ⟨q0, q1, qP, qK, qD⟩ := q; exact ⟨q0, q1, qP, va_K.moved (u := U) (U := U.calling g mk a) (Vm.Alike.refl U.vm) qK, qD⟩, va_recv hK hPc (ci := 0) (q0 := 0) rfl rfl, fun U hU hW => ⟨rfl, by rw [hU], by rw [hU]; exact hPc, va_K.moved hW.alike hK, hDc.weaken (fun _ _ _ _ => trivial)⟩⟩ rfl rfl hl.1 rfl (lv_room (Nat.le_of_ble_eq_true rfl)) dX0_readBrackets_60 ⟨show 0 + 0 + 0 ≤ 0 from by decide, show 0 + 0 + 0 ≤ 0 from by decide⟩) hS (fun q _ h => hFc q h) hFc (fun r60 u t H1 locs ht hvm hw60 hB hz1 hk1 hS => ?_)
          obtain ⟨hP1, hK1, hD1⟩ := hB
          rw [ht] at hP1
          try dsimp only at hw60 hP1 hD1
          obtain ⟨hP, hD⟩ := va_join (wr := [(hT, .inr (1, [.ref qT, .ref qL, .ref qR, .int (nI cnt)])), (qT, .inl (cJ, 1792, .inr (.inl g))), (qL, .inl (cJ, 7, .inr (.inl fL))), (qR, .inl (cJ, 7, .inr (.inl fR)))]) (w1 := [(hR, .inr (0, [.ref qB, .int (nI L), .ref hT, .int (nI jx)])), (qB, .inl (cI, 400, .inl (fun j => nI (a j))))]) hP hD [0, 1] [2, 3, 4, 5] rfl rfl (by decide) (by decide) hk1 hFc hP1 hD1
          generalize H1 = H at hP hS ⊢
          have hP : va_P (dC, dI) vwCl [(hT, .inr (1, [.ref qT, .ref qL, .ref qR, .int (nI cnt)])), (qT, .inl (cJ, 1792, .inr (.inl g))), (qL, .inl (cJ, 7, .inr (.inl fL))), (qR, .inl (cJ, 7, .inr (.inl fR))), (hR, .inr (0, [.ref qB, .int (nI L), .ref hT, .int (nI jx)])), (qB, .inl (cI, 400, .inl (fun j => nI (a j))))] H := hP
          have hD : va_D A [(hT, .inr (1, [.ref qT, .ref qL, .ref qR, .int (nI cnt)])), (qT, .inl (cJ, 1792, .inr (.inl g))), (qL, .inl (cJ, 7, .inr (.inl fL))), (qR, .inl (cJ, 7, .inr (.inl fR))), (hR, .inr (0, [.ref qB, .int (nI L), .ref hT, .int (nI jx)])), (qB, .inl (cI, 400, .inl (fun j => nI (a j))))] := hD
          by_cases hb2 : bnd a L jx = true
          · skip
            refine wl_asi (y := nI 1) (by rw [hw60, if_pos hb2]; rfl) ?_
            refine lv_if_ne (tgt := 77) hx hb dX0_readBrackets_63 (by decide) (fun c63 => ?_) (fun c63 => ?_)
            rotate_left
            · first | exact absurd c63 (by decide) | exact absurd (by decide) c63
            · skip
              refine lv_aload_n hx hb dX0_readBrackets_77 rfl (lv_at hl 0 rfl) ?_
              refine lv_dup hx hb dX0_readBrackets_78 rfl ?_
              refine va_get (D := (dC, dI)) (ci := 0) (v := .int (nI jx)) (C := RX0) (T := TX0) (N := 4) hx hb hts (by decide +kernel) hown hK hP 4 rfl rfl 3 (by decide) (hts (.fieldLink RX0 23 "WildCards$Reader" "at" "I") (by decide +kernel)) (fun _ h9 => h9) rfl dX0_readBrackets_79 ?_
              refine lv_iconst (v := nI 1) hx hb dX0_readBrackets_82 (by decide) ?_
              refine lv_iadd hx hb dX0_readBrackets_83 ?_
              refine wl_asi (y := nI (jx + 1)) (nI_add _ _) ?_
              refine va_put (D := (dC, dI)) (ci := 0) (v := .int (nI (jx + 1))) (ty := .int) (C := RX0) (T := TX0) (N := 4) hx hb hts (by decide +kernel) tyX0 tyX0_ok nmX0 hown hK hP hD hS 4 rfl rfl 3 (by decide) (hts (.fieldLink RX0 23 "WildCards$Reader" "at" "I") (by decide +kernel)) (fun _ h9 => h9) rfl (by decide +kernel) rfl rfl (Nat.le_of_ble_eq_true rfl) dX0_readBrackets_84 (fun H locs hP hD hS => ?_)
              have hP : va_P (dC, dI) vwCl [(hT, .inr (1, [.ref qT, .ref qL, .ref qR, .int (nI cnt)])), (qT, .inl (cJ, 1792, .inr (.inl g))), (qL, .inl (cJ, 7, .inr (.inl fL))), (qR, .inl (cJ, 7, .inr (.inl fR))), (hR, .inr (0, [.ref qB, .int (nI L), .ref hT, .int (nI (jx + 1))])), (qB, .inl (cI, 400, .inl (fun j => nI (a j))))] H := hP
              have hD : va_D A [(hT, .inr (1, [.ref qT, .ref qL, .ref qR, .int (nI cnt)])), (qT, .inl (cJ, 1792, .inr (.inl g))), (qL, .inl (cJ, 7, .inr (.inl fL))), (qR, .inl (cJ, 7, .inr (.inl fR))), (hR, .inr (0, [.ref qB, .int (nI L), .ref hT, .int (nI (jx + 1))])), (qB, .inl (cI, 400, .inl (fun j => nI (a j))))] := hD
              have hP9 := hP.sub (ws' := [(hR, .inr (0, [.ref qB, .int (nI L), .ref hT, .int (nI (jx + 1))])), (qB, .inl (cI, 400, .inl (fun j => nI (a j)))), (hT, .inr (1, [.ref qT, .ref qL, .ref qR, .int (nI cnt)])), (qT, .inl (cJ, 1792, .inr (.inl g))), (qL, .inl (cJ, 7, .inr (.inl fL))), (qR, .inl (cJ, 7, .inr (.inl fR)))]) [4, 5, 0, 1, 2, 3] rfl
              have hD9 := hD.sub (ws' := [(hR, .inr (0, [.ref qB, .int (nI L), .ref hT, .int (nI (jx + 1))])), (qB, .inl (cI, 400, .inl (fun j => nI (a j)))), (hT, .inr (1, [.ref qT, .ref qL, .ref qR, .int (nI cnt)])), (qT, .inl (cJ, 1792, .inr (.inl g))), (qL, .inl (cJ, 7, .inr (.inl fL))), (qR, .inl (cJ, 7, .inr (.inl fR)))]) [4, 5, 0, 1, 2, 3] (by decide) rfl
              exact W.vret hx hb hr (fun t ht hW => ⟨⟨(jx + 1, g), rfl, (show (jx + 1) = brn a L ix ∧ ∀ x k, x < 256 → k < 448 → lb g (448 * x + k) = if k = cnt then brs a L ix x else lb fT (448 * x + k) from ⟨by rw [brn_0 (brg_a hp2), ← (BR_e hBR (Or.inr hb2)).1], br_0 (brg_a hp2) (BR_e hBR (Or.inr hb2)).2.1 (BR_e hBR (Or.inr hb2)).2.2⟩), by rw [ht]; exact hP9, va_K.moved hW.alike hK, hD9⟩, hS.F ht⟩) hS.2.2 dX0_readBrackets_87
          · skip
            refine wl_asi (y := nI 0) (by rw [hw60, if_neg hb2]; rfl) ?_
            refine lv_if_ne (tgt := 77) hx hb dX0_readBrackets_63 (by decide) (fun c63 => ?_) (fun c63 => ?_)
            · first | exact absurd c63 (by decide) | exact absurd (by decide) c63
            · skip
              refine lv_aload_n hx hb dX0_readBrackets_66 rfl (lv_at hl 0 rfl) ?_
              refine lv_iload_n hx hb dX0_readBrackets_67 rfl (lv_at hl 1 rfl) ?_
              have hPc := hP.sub (ws' := [(hR, .inr (0, [.ref qB, .int (nI L), .ref hT, .int (nI jx)])), (qB, .inl (cI, 400, .inl (fun j => nI (a j)))), (hT, .inr (1, [.ref qT, .ref qL, .ref qR, .int (nI cnt)])), (qT, .inl (cJ, 1792, .inr (.inl g))), (qL, .inl (cJ, 7, .inr (.inl fL))), (qR, .inl (cJ, 7, .inr (.inl fR)))]) [4, 5, 0, 1, 2, 3] rfl
              have hDc := hD.sub (ws' := [(hR, .inr (0, [.ref qB, .int (nI L), .ref hT, .int (nI jx)])), (qB, .inl (cI, 400, .inl (fun j => nI (a j)))), (hT, .inr (1, [.ref qT, .ref qL, .ref qR, .int (nI cnt)])), (qT, .inl (cJ, 1792, .inr (.inl g))), (qL, .inl (cJ, 7, .inr (.inl fL))), (qR, .inl (cJ, 7, .inr (.inl fR)))]) [4, 5, 0, 1, 2, 3] (by decide) rfl
              have hFc := va_free (wc := [(hR, .inr (0, [.ref qB, .int (nI L), .ref hT, .int (nI jx)])), (qB, .inl (cI, 400, .inl (fun j => nI (a j)))), (hT, .inr (1, [.ref qT, .ref qL, .ref qR, .int (nI cnt)])), (qT, .inl (cJ, 1792, .inr (.inl g))), (qL, .inl (cJ, 7, .inr (.inl fL))), (qR, .inl (cJ, 7, .inr (.inl fR)))]) hD hS hA [4, 5, 0, 1, 2, 3] rfl
              refine va_callv (va_runV (As := [.int (nI 1)]) (rest := []) ⟨hx, hb, hml, hown, hts⟩ (c_X0_readTold l dC dI cI cJ cZ hR qB hT qT qL qR H.size L jx a cnt g fL fR 1 hL ha (bnd_f hb2).1 hc (by omega)) (cwV 1 hts gX0_readBrackets_X0_readTold rfl rfl rfl (by decide +kernel) ⟨Nat.le_of_ble_eq_true rfl, Nat.le_of_ble_eq_true rfl⟩) ⟨fun a U g mk q => by obtain ⟨q0, q1, qP, qK, qD⟩ := q; exact ⟨q0, q1, qP, va_K.moved (u := U) (U := U.calling g mk a) (Vm.Alike.refl U.vm) qK, qD⟩, va_recv hK hPc (ci := 0) (q0 := 0) rfl rfl, fun U hU hW => ⟨rfl, by rw [hU], by rw [hU]; exact hPc, va_K.moved hW.alike hK, hDc.weaken (fun _ _ _ _ => trivial)⟩⟩ rfl rfl hl.1 rfl (lv_room (Nat.le_of_ble_eq_true rfl)) dX0_readBrackets_68 ⟨show 0 + 0 + 0 + 0 ≤ 0 from by decide, show 0 + 0 + 0 + 0 ≤ 0 from by decide⟩) hS (fun q _ h => hFc q h) hFc (fun u t H1 locs ht hvm hw68 hB hz1 hk1 hS => ?_)
              obtain ⟨ix268, fT268⟩ := u
              obtain ⟨hP1, hK1, hD1⟩ := hB
              rw [ht] at hP1
              try dsimp only at hw68 hP1 hD1
              obtain ⟨hP, hD⟩ := va_join (wr := []) (w1 := [(hR, .inr (0, [.ref qB, .int (nI L), .ref hT, .int (nI ix268)])), (qB, .inl (cI, 400, .inl (fun j => nI (a j)))), (hT, .inr (1, [.ref qT, .ref qL, .ref qR, .int (nI cnt)])), (qT, .inl (cJ, 1792, .inr (.inl fT268))), (qL, .inl (cJ, 7, .inr (.inl fL))), (qR, .inl (cJ, 7, .inr (.inl fR)))]) hP hD [4, 5, 0, 1, 2, 3] [] rfl rfl (by decide) (by decide) hk1 hFc hP1 hD1
              generalize H1 = H at hP hS ⊢
              have hP : va_P (dC, dI) vwCl [(hR, .inr (0, [.ref qB, .int (nI L), .ref hT, .int (nI ix268)])), (qB, .inl (cI, 400, .inl (fun j => nI (a j)))), (hT, .inr (1, [.ref qT, .ref qL, .ref qR, .int (nI cnt)])), (qT, .inl (cJ, 1792, .inr (.inl fT268))), (qL, .inl (cJ, 7, .inr (.inl fL))), (qR, .inl (cJ, 7, .inr (.inl fR)))] H := hP
              have hD : va_D A [(hR, .inr (0, [.ref qB, .int (nI L), .ref hT, .int (nI ix268)])), (qB, .inl (cI, 400, .inl (fun j => nI (a j)))), (hT, .inr (1, [.ref qT, .ref qL, .ref qR, .int (nI cnt)])), (qT, .inl (cJ, 1792, .inr (.inl fT268))), (qL, .inl (cJ, 7, .inr (.inl fL))), (qR, .inl (cJ, 7, .inr (.inl fR)))] := hD
              obtain ⟨rfl, hw68⟩ := hw68
              replace hw68 := And.intro True.intro hw68
              refine lv_iinc (v := nI (rr + 1)) (lv' := [(2, .int (nI (rr + 1))), (0, .ref hR), (1, .int (nI 1))]) hx hb dX0_readBrackets_71 hl (k := 2) rfl (wl_inc _ _ (by decide)) (by decide) rfl (fun ls hl => ?_)
              refine lv_goto (tgt := 47) hx hb dX0_readBrackets_74 (by decide) ?_
              exact ih47 (rr + 1, tnx a L jx, fT268) H locs ls ⟨(show (rr + 1) ≤ L from by omega), (show (tnx a L jx) ≤ L from (tnx_le a (bnd_f hb2).1).1), (show BR a L cnt fT fT268 false ix (rr + 1) (tnx a L jx) from BR_s hc hBR (by omega) hb2 hw68.2), hP.sub [0, 1, 2, 3, 4, 5] rfl, hD.sub [0, 1, 2, 3, 4, 5] (by decide) rfl, hS, lv_sub hl [1, 2, 0] rfl⟩ (by (try dsimp only); omega)
