set_option maxHeartbeats 4000000 in
set_option maxRecDepth 100000 in
theorem c_M_fitsPart (l : Launch) (dC : Nat → ClassId) (dI : Nat → Nat → Nat) (cI cJ cZ : ClassId) (m0 kt kp kw kf : Nat) (sz : Nat) (tl : Nat) (L : Nat) (wn : Nat) (en : Nat) (td : Nat) (a : Nat → Nat) (lt : Nat → Nat) (F : Nat → Bool) (f : Int32) (n : Int32) (hL : L ≤ 400) (ha : ∀ j, j < L → a j < 256) (hwn : wn ≤ 400) (hlt : ∀ j, j < wn → lt j < 256) : Met l yM_fitsPart wsM_fitsPart ({ frames := 4, cells := 0, slots := 0, locals := 94 }) (va_Pc [.ref m0, .int f, .int n] (fun U => U.heap.size = sz ∧ va_P (dC, dI) vwCl [(m0, .inr (3, [.ref kt, .ref kp, .ref kw, .int (nI tl), .int (nI L), .int (nI wn), .int (nI en), .int (nI td), .ref kf])), (kp, .inl (cI, 400, .inl (fun j => nI (a j)))), (kw, .inl (cI, 400, .inl (fun j => nI (lt j)))), (kf, .inl (cZ, 401, .inl (fun j => nI (bN (F j)))))] U.heap ∧ va_K (dC, dI) vwCl [(cI, .int), (cJ, .long), (cZ, .boolean)] U ∧ va_D (fun _ => True) [(m0, .inr (3, [.ref kt, .ref kp, .ref kw, .int (nI tl), .int (nI L), .int (nI wn), .int (nI en), .int (nI td), .ref kf])), (kp, .inl (cI, 400, .inl (fun j => nI (a j)))), (kw, .inl (cI, 400, .inl (fun j => nI (lt j)))), (kf, .inl (cZ, 401, .inl (fun j => nI (bN (F j)))))])) (va_Qi (fun (r : Int32) (u : Nat × Nat × (Nat → Bool)) => r = if (okp f n wn && fz (ths a L L 0) (fun j => lt (f.toNatClampNeg + j)) n.toNatClampNeg) = true then 1 else 0) (fun (u : Nat × Nat × (Nat → Bool)) (t : State) => va_P (dC, dI) vwCl [(m0, .inr (3, [.ref kt, .ref kp, .ref kw, .int (nI tl), .int (nI L), .int (nI wn), .int (nI u.1), .int (nI u.2.1), .ref kf])), (kp, .inl (cI, 400, .inl (fun j => nI (a j)))), (kw, .inl (cI, 400, .inl (fun j => nI (lt j)))), (kf, .inl (cZ, 401, .inl (fun j => nI (bN (u.2.2 j)))))] t.heap ∧ va_K (dC, dI) vwCl [(cI, .int), (cJ, .long), (cZ, .boolean)] t ∧ va_D (va_A [(m0, .inr (3, [.ref kt, .ref kp, .ref kw, .int (nI tl), .int (nI L), .int (nI wn), .int (nI en), .int (nI td), .ref kf])), (kp, .inl (cI, 400, .inl (fun j => nI (a j)))), (kw, .inl (cI, 400, .inl (fun j => nI (lt j)))), (kf, .inl (cZ, 401, .inl (fun j => nI (bN (F j)))))] sz) [(m0, .inr (3, [.ref kt, .ref kp, .ref kw, .int (nI tl), .int (nI L), .int (nI wn), .int (nI u.1), .int (nI u.2.1), .ref kf])), (kp, .inl (cI, 400, .inl (fun j => nI (a j)))), (kw, .inl (cI, 400, .inl (fun j => nI (lt j)))), (kf, .inl (cZ, 401, .inl (fun j => nI (bN (u.2.2 j)))))]) (va_A [(m0, .inr (3, [.ref kt, .ref kp, .ref kw, .int (nI tl), .int (nI L), .int (nI wn), .int (nI en), .int (nI td), .ref kf])), (kp, .inl (cI, 400, .inl (fun j => nI (a j)))), (kw, .inl (cI, 400, .inl (fun j => nI (lt j)))), (kf, .inl (cZ, 401, .inl (fun j => nI (bN (F j)))))] sz)) 0 0 (va_A [(m0, .inr (3, [.ref kt, .ref kp, .ref kw, .int (nI tl), .int (nI L), .int (nI wn), .int (nI en), .int (nI td), .ref kf])), (kp, .inl (cI, 400, .inl (fun j => nI (a j)))), (kw, .inl (cI, 400, .inl (fun j => nI (lt j)))), (kf, .inl (cZ, 401, .inl (fun j => nI (bN (F j)))))] sz) := by
  refine Met.ofW (cc := cM_fitsPart) (maxL := 3) (ret := (some .boolean)) (by decide) rfl ?_
  intro p e s m args below meth c s₁ B hml hv
  obtain ⟨rfl, hsz, hP, hK, hD0⟩ := hv
  have hx := B.exec
  have hb := B.bytes
  have hr := B.returns
  have hts := atoms_spec (ws := wsM_fitsPart) B.pre
  have hown : s.vm.findClass RX3 = some m.cls := findClass_of_methodNamed B.named
  have hlocks := B.notSynchronized
  subst hsz
  have hD := hD0.self (sz := s.heap.size)
  generalize hAe : va_A [(m0, .inr (3, [.ref kt, .ref kp, .ref kw, .int (nI tl), .int (nI L), .int (nI wn), .int (nI en), .int (nI td), .ref kf])), (kp, .inl (cI, 400, .inl (fun j => nI (a j)))), (kw, .inl (cI, 400, .inl (fun j => nI (lt j)))), (kf, .inl (cZ, 401, .inl (fun j => nI (bN (F j)))))] s.heap.size = A at hD ⊢
  have hA : ∀ q : Nat, s.heap.size ≤ q → A q := fun q h => by rw [← hAe]; exact Or.inr h
  have hS : va_S A s.heap s.heap [] := va_S.rf
  have hP : va_P (dC, dI) vwCl [(m0, .inr (3, [.ref kt, .ref kp, .ref kw, .int (nI tl), .int (nI L), .int (nI wn), .int (nI en), .int (nI td), .ref kf])), (kp, .inl (cI, 400, .inl (fun j => nI (a j)))), (kw, .inl (cI, 400, .inl (fun j => nI (lt j)))), (kf, .inl (cZ, 401, .inl (fun j => nI (bN (F j)))))] s.heap := hP
  have hl := lv_entry ([.ref m0, .int f, .int n]) (n := 3) (Nat.le_of_ble_eq_true rfl)
  rw [lg_entry_eq]
  generalize (lg_sl ([.ref m0, .int f, .int n]) ++ List.replicate (3 - (lg_sl ([.ref m0, .int f, .int n])).length) Slot.unset).toArray = ls at hl ⊢
  have hl : lv_has ls 3 [(0, .ref m0), (1, .int f), (2, .int n)] := hl
  skip
  refine lv_iload_n hx hb dM_fitsPart_0 rfl (lv_at hl 1 rfl) ?_
  refine lv_if_lt (tgt := 26) hx hb dM_fitsPart_1 (by decide) (fun c1 => ?_) (fun c1 => ?_)
  · skip
    refine lv_iconst (v := nI 0) hx hb dM_fitsPart_26 (by decide) ?_
    have hP9 := hP.sub (ws' := [(m0, .inr (3, [.ref kt, .ref kp, .ref kw, .int (nI tl), .int (nI L), .int (nI wn), .int (nI en), .int (nI td), .ref kf])), (kp, .inl (cI, 400, .inl (fun j => nI (a j)))), (kw, .inl (cI, 400, .inl (fun j => nI (lt j)))), (kf, .inl (cZ, 401, .inl (fun j => nI (bN (F j)))))]) [0, 1, 2, 3] rfl
    have hD9 := hD.sub (ws' := [(m0, .inr (3, [.ref kt, .ref kp, .ref kw, .int (nI tl), .int (nI L), .int (nI wn), .int (nI en), .int (nI td), .ref kf])), (kp, .inl (cI, 400, .inl (fun j => nI (a j)))), (kw, .inl (cI, 400, .inl (fun j => nI (lt j)))), (kf, .inl (cZ, 401, .inl (fun j => nI (bN (F j)))))]) [0, 1, 2, 3] (by decide) rfl
    exact W.zret (v := nI 0) hx hb hr (by decide) (fun t ht hW => ⟨⟨nI 0, (en, td, F), rfl, (show (nI 0) = if (okp f n wn && fz (ths a L L 0) (fun j => lt (f.toNatClampNeg + j)) n.toNatClampNeg) = true then 1 else 0 from okp_a c1), by rw [ht]; exact hP9, va_K.moved hW.alike hK, hD9⟩, hS.F ht⟩) hS.2.2 dM_fitsPart_27
  · skip
    refine lv_iload_n hx hb dM_fitsPart_4 rfl (lv_at hl 2 rfl) ?_
    refine lv_if_lt (tgt := 26) hx hb dM_fitsPart_5 (by decide) (fun c5 => ?_) (fun c5 => ?_)
    · skip
      refine lv_iconst (v := nI 0) hx hb dM_fitsPart_26 (by decide) ?_
      have hP9 := hP.sub (ws' := [(m0, .inr (3, [.ref kt, .ref kp, .ref kw, .int (nI tl), .int (nI L), .int (nI wn), .int (nI en), .int (nI td), .ref kf])), (kp, .inl (cI, 400, .inl (fun j => nI (a j)))), (kw, .inl (cI, 400, .inl (fun j => nI (lt j)))), (kf, .inl (cZ, 401, .inl (fun j => nI (bN (F j)))))]) [0, 1, 2, 3] rfl
      have hD9 := hD.sub (ws' := [(m0, .inr (3, [.ref kt, .ref kp, .ref kw, .int (nI tl), .int (nI L), .int (nI wn), .int (nI en), .int (nI td), .ref kf])), (kp, .inl (cI, 400, .inl (fun j => nI (a j)))), (kw, .inl (cI, 400, .inl (fun j => nI (lt j)))), (kf, .inl (cZ, 401, .inl (fun j => nI (bN (F j)))))]) [0, 1, 2, 3] (by decide) rfl
      exact W.zret (v := nI 0) hx hb hr (by decide) (fun t ht hW => ⟨⟨nI 0, (en, td, F), rfl, (show (nI 0) = if (okp f n wn && fz (ths a L L 0) (fun j => lt (f.toNatClampNeg + j)) n.toNatClampNeg) = true then 1 else 0 from okp_b c5), by rw [ht]; exact hP9, va_K.moved hW.alike hK, hD9⟩, hS.F ht⟩) hS.2.2 dM_fitsPart_27
    · skip
      refine lv_iload_n hx hb dM_fitsPart_8 rfl (lv_at hl 1 rfl) ?_
      refine lv_aload_n hx hb dM_fitsPart_9 rfl (lv_at hl 0 rfl) ?_
      refine va_get (D := (dC, dI)) (ci := 3) (v := .int (nI wn)) (C := RX3) (T := TX3) (N := 9) hx hb hts (by decide +kernel) hown hK hP 0 rfl rfl 5 (by decide) (hts (.fieldLink RX3 34 "WildCardsModel" "length" "I") (by decide +kernel)) (fun _ h9 => h9) rfl dM_fitsPart_10 ?_
      refine lv_icmp_gt (tgt := 26) hx hb dM_fitsPart_13 (by decide) (fun c13 => ?_) (fun c13 => ?_)
      · skip
        refine lv_iconst (v := nI 0) hx hb dM_fitsPart_26 (by decide) ?_
        have hP9 := hP.sub (ws' := [(m0, .inr (3, [.ref kt, .ref kp, .ref kw, .int (nI tl), .int (nI L), .int (nI wn), .int (nI en), .int (nI td), .ref kf])), (kp, .inl (cI, 400, .inl (fun j => nI (a j)))), (kw, .inl (cI, 400, .inl (fun j => nI (lt j)))), (kf, .inl (cZ, 401, .inl (fun j => nI (bN (F j)))))]) [0, 1, 2, 3] rfl
        have hD9 := hD.sub (ws' := [(m0, .inr (3, [.ref kt, .ref kp, .ref kw, .int (nI tl), .int (nI L), .int (nI wn), .int (nI en), .int (nI td), .ref kf])), (kp, .inl (cI, 400, .inl (fun j => nI (a j)))), (kw, .inl (cI, 400, .inl (fun j => nI (lt j)))), (kf, .inl (cZ, 401, .inl (fun j => nI (bN (F j)))))]) [0, 1, 2, 3] (by decide) rfl
        exact W.zret (v := nI 0) hx hb hr (by decide) (fun t ht hW => ⟨⟨nI 0, (en, td, F), rfl, (show (nI 0) = if (okp f n wn && fz (ths a L L 0) (fun j => lt (f.toNatClampNeg + j)) n.toNatClampNeg) = true then 1 else 0 from okp_g hwn c5 c13), by rw [ht]; exact hP9, va_K.moved hW.alike hK, hD9⟩, hS.F ht⟩) hS.2.2 dM_fitsPart_27
      · skip
        refine lv_iload_n hx hb dM_fitsPart_16 rfl (lv_at hl 2 rfl) ?_
        refine lv_aload_n hx hb dM_fitsPart_17 rfl (lv_at hl 0 rfl) ?_
        refine va_get (D := (dC, dI)) (ci := 3) (v := .int (nI wn)) (C := RX3) (T := TX3) (N := 9) hx hb hts (by decide +kernel) hown hK hP 0 rfl rfl 5 (by decide) (hts (.fieldLink RX3 34 "WildCardsModel" "length" "I") (by decide +kernel)) (fun _ h9 => h9) rfl dM_fitsPart_18 ?_
        refine lv_iload_n hx hb dM_fitsPart_21 rfl (lv_at hl 1 rfl) ?_
        refine lv_isub hx hb dM_fitsPart_22 ?_
        refine lv_icmp_le (tgt := 28) hx hb dM_fitsPart_23 (by decide) (fun c23 => ?_) (fun c23 => ?_)
        · skip
          obtain ⟨i, k, ef, ek, hik⟩ := okp_d hwn c1 c5 c23
          refine lv_aload_n hx hb dM_fitsPart_28 rfl (lv_at hl 0 rfl) ?_
          refine lv_iload_n hx hb dM_fitsPart_29 rfl (lv_at hl 1 rfl) ?_
          refine wl_asi (y := nI i) (ef) ?_
          refine lv_iload_n hx hb dM_fitsPart_30 rfl (lv_at hl 2 rfl) ?_
          refine wl_asi (y := nI k) (ek) ?_
          have hPc := hP.sub (ws' := [(m0, .inr (3, [.ref kt, .ref kp, .ref kw, .int (nI tl), .int (nI L), .int (nI wn), .int (nI en), .int (nI td), .ref kf])), (kp, .inl (cI, 400, .inl (fun j => nI (a j)))), (kw, .inl (cI, 400, .inl (fun j => nI (lt j)))), (kf, .inl (cZ, 401, .inl (fun j => nI (bN (F j)))))]) [0, 1, 2, 3] rfl
          have hDc := hD.sub (ws' := [(m0, .inr (3, [.ref kt, .ref kp, .ref kw, .int (nI tl), .int (nI L), .int (nI wn), .int (nI en), .int (nI td), .ref kf])), (kp, .inl (cI, 400, .inl (fun j => nI (a j)))), (kw, .inl (cI, 400, .inl (fun j => nI (lt j)))), (kf, .inl (cZ, 401, .inl (fun j => nI (bN (F j)))))]) [0, 1, 2, 3] (by decide) rfl
          have hFc := va_free (wc := [(m0, .inr (3, [.ref kt, .ref kp, .ref kw, .int (nI tl), .int (nI L), .int (nI wn), .int (nI en), .int (nI td), .ref kf])), (kp, .inl (cI, 400, .inl (fun j => nI (a j)))), (kw, .inl (cI, 400, .inl (fun j => nI (lt j)))), (kf, .inl (cZ, 401, .inl (fun j => nI (bN (F j)))))]) hD hS hA [0, 1, 2, 3] rfl
          refine va_callv (va_runV (As := [.int (nI i), .int (nI k)]) (rest := []) ⟨hx, hb, hml, hown, hts⟩ (c_M_reckon l dC dI cI cJ cZ m0 kt kp kw kf s.heap.size tl L wn en td a lt F i k hL ha hwn hlt hik) (cwV 2 hts gM_fitsPart_M_reckon rfl rfl rfl (by decide +kernel) ⟨Nat.le_of_ble_eq_true rfl, Nat.le_of_ble_eq_true rfl⟩) ⟨fun a U g mk q => by obtain ⟨q0, q1, qP, qK, qD⟩ := q; exact ⟨q0, q1, qP, va_K.moved (u := U) (U := U.calling g mk a) (Vm.Alike.refl U.vm) qK, qD⟩, va_recv hK hPc (ci := 3) (q0 := 0) rfl rfl, fun U hU hW => ⟨rfl, by rw [hU], by rw [hU]; exact hPc, va_K.moved hW.alike hK, hDc.weaken (fun _ _ _ _ => trivial)⟩⟩ rfl rfl hl.1 rfl (lv_room (Nat.le_of_ble_eq_true rfl)) dM_fitsPart_31 ⟨show 0 + 0 ≤ 0 from by decide, show 0 + 0 ≤ 0 from by decide⟩) hS (fun q _ h => hFc q h) hFc (fun u t H1 locs ht hvm hw31 hB hz1 hk1 hS => ?_)
          obtain ⟨en231, td231, F231⟩ := u
          obtain ⟨hP1, hK1, hD1⟩ := hB
          rw [ht] at hP1
          try dsimp only at hw31 hP1 hD1
          obtain ⟨hP, hD⟩ := va_join (wr := []) (w1 := [(m0, .inr (3, [.ref kt, .ref kp, .ref kw, .int (nI tl), .int (nI L), .int (nI wn), .int (nI en231), .int (nI td231), .ref kf])), (kp, .inl (cI, 400, .inl (fun j => nI (a j)))), (kw, .inl (cI, 400, .inl (fun j => nI (lt j)))), (kf, .inl (cZ, 401, .inl (fun j => nI (bN (F231 j)))))]) hP hD [0, 1, 2, 3] [] rfl rfl (by decide) (by decide) hk1 hFc hP1 hD1
          generalize H1 = H at hP hS ⊢
          have hP : va_P (dC, dI) vwCl [(m0, .inr (3, [.ref kt, .ref kp, .ref kw, .int (nI tl), .int (nI L), .int (nI wn), .int (nI en231), .int (nI td231), .ref kf])), (kp, .inl (cI, 400, .inl (fun j => nI (a j)))), (kw, .inl (cI, 400, .inl (fun j => nI (lt j)))), (kf, .inl (cZ, 401, .inl (fun j => nI (bN (F231 j)))))] H := hP
          have hD : va_D A [(m0, .inr (3, [.ref kt, .ref kp, .ref kw, .int (nI tl), .int (nI L), .int (nI wn), .int (nI en231), .int (nI td231), .ref kf])), (kp, .inl (cI, 400, .inl (fun j => nI (a j)))), (kw, .inl (cI, 400, .inl (fun j => nI (lt j)))), (kf, .inl (cZ, 401, .inl (fun j => nI (bN (F231 j)))))] := hD
          refine lv_aload_n hx hb dM_fitsPart_34 rfl (lv_at hl 0 rfl) ?_
          refine va_get (D := (dC, dI)) (ci := 3) (v := .ref kf) (C := RX3) (T := TX3) (N := 9) hx hb hts (by decide +kernel) hown hK hP 0 rfl rfl 8 (by decide) (hts (.fieldLink RX3 19 "WildCardsModel" "fit" "[Z") (by decide +kernel)) (fun _ h9 => h9) rfl dM_fitsPart_35 ?_
          refine lv_iload_n hx hb dM_fitsPart_38 rfl (lv_at hl 2 rfl) ?_
          refine wl_asi (y := nI k) (ek) ?_
          refine va_zald hx hb hK hP 3 2 rfl rfl (vp_in_nI (by omega) (by omega)) dM_fitsPart_39 ?_
          refine wl_asi (y := nI (bN (F231 k))) (by rw [nI_clamp (by omega)]) ?_
          have hP9 := hP.sub (ws' := [(m0, .inr (3, [.ref kt, .ref kp, .ref kw, .int (nI tl), .int (nI L), .int (nI wn), .int (nI en231), .int (nI td231), .ref kf])), (kp, .inl (cI, 400, .inl (fun j => nI (a j)))), (kw, .inl (cI, 400, .inl (fun j => nI (lt j)))), (kf, .inl (cZ, 401, .inl (fun j => nI (bN (F231 j)))))]) [0, 1, 2, 3] rfl
          have hD9 := hD.sub (ws' := [(m0, .inr (3, [.ref kt, .ref kp, .ref kw, .int (nI tl), .int (nI L), .int (nI wn), .int (nI en231), .int (nI td231), .ref kf])), (kp, .inl (cI, 400, .inl (fun j => nI (a j)))), (kw, .inl (cI, 400, .inl (fun j => nI (lt j)))), (kf, .inl (cZ, 401, .inl (fun j => nI (bN (F231 j)))))]) [0, 1, 2, 3] (by decide) rfl
          exact W.zret (v := nI (bN (F231 k))) hx hb hr (wl_bool (bN_if _)) (fun t ht hW => ⟨⟨nI (bN (F231 k)), (en231, td231, F231), rfl, (show (nI (bN (F231 k))) = if (okp f n wn && fz (ths a L L 0) (fun j => lt (f.toNatClampNeg + j)) n.toNatClampNeg) = true then 1 else 0 from okp_1 ef ek hik hwn (by rw [show i + k - i = k by omega, ← hw31 k (Nat.le_refl _)]; exact bN_if _)), by rw [ht]; exact hP9, va_K.moved hW.alike hK, hD9⟩, hS.F ht⟩) hS.2.2 dM_fitsPart_40
        · skip
          refine lv_iconst (v := nI 0) hx hb dM_fitsPart_26 (by decide) ?_
          have hP9 := hP.sub (ws' := [(m0, .inr (3, [.ref kt, .ref kp, .ref kw, .int (nI tl), .int (nI L), .int (nI wn), .int (nI en), .int (nI td), .ref kf])), (kp, .inl (cI, 400, .inl (fun j => nI (a j)))), (kw, .inl (cI, 400, .inl (fun j => nI (lt j)))), (kf, .inl (cZ, 401, .inl (fun j => nI (bN (F j)))))]) [0, 1, 2, 3] rfl
          have hD9 := hD.sub (ws' := [(m0, .inr (3, [.ref kt, .ref kp, .ref kw, .int (nI tl), .int (nI L), .int (nI wn), .int (nI en), .int (nI td), .ref kf])), (kp, .inl (cI, 400, .inl (fun j => nI (a j)))), (kw, .inl (cI, 400, .inl (fun j => nI (lt j)))), (kf, .inl (cZ, 401, .inl (fun j => nI (bN (F j)))))]) [0, 1, 2, 3] (by decide) rfl
          exact W.zret (v := nI 0) hx hb hr (by decide) (fun t ht hW => ⟨⟨nI 0, (en, td, F), rfl, (show (nI 0) = if (okp f n wn && fz (ths a L L 0) (fun j => lt (f.toNatClampNeg + j)) n.toNatClampNeg) = true then 1 else 0 from okp_c hwn c1 c5 c23), by rw [ht]; exact hP9, va_K.moved hW.alike hK, hD9⟩, hS.F ht⟩) hS.2.2 dM_fitsPart_27
