set_option maxHeartbeats 4000000 in
set_option maxRecDepth 100000 in
theorem c_M_beginnings (l : Launch) (dC : Nat → ClassId) (dI : Nat → Nat → Nat) (cI cJ cZ : ClassId) (m0 kt kp kw kf : Nat) (sz : Nat) (tl : Nat) (L : Nat) (wn : Nat) (en : Nat) (td : Nat) (a : Nat → Nat) (lt : Nat → Nat) (F : Nat → Bool) (hL : L ≤ 400) (ha : ∀ j, j < L → a j < 256) (hwn : wn ≤ 400) (hlt : ∀ j, j < wn → lt j < 256) : Met l yM_beginnings wsM_beginnings ({ frames := 4, cells := 0, slots := 0, locals := 94 }) (va_Pc [.ref m0] (fun U => U.heap.size = sz ∧ va_P (dC, dI) vwCl [(m0, .inr (3, [.ref kt, .ref kp, .ref kw, .int (nI tl), .int (nI L), .int (nI wn), .int (nI en), .int (nI td), .ref kf])), (kp, .inl (cI, 400, .inl (fun j => nI (a j)))), (kw, .inl (cI, 400, .inl (fun j => nI (lt j)))), (kf, .inl (cZ, 401, .inl (fun j => nI (bN (F j)))))] U.heap ∧ va_K (dC, dI) vwCl [(cI, .int), (cJ, .long), (cZ, .boolean)] U ∧ va_D (fun _ => True) [(m0, .inr (3, [.ref kt, .ref kp, .ref kw, .int (nI tl), .int (nI L), .int (nI wn), .int (nI en), .int (nI td), .ref kf])), (kp, .inl (cI, 400, .inl (fun j => nI (a j)))), (kw, .inl (cI, 400, .inl (fun j => nI (lt j)))), (kf, .inl (cZ, 401, .inl (fun j => nI (bN (F j)))))])) (va_Qi (fun (r : Int32) (u : Nat × Nat × (Nat → Bool)) => r = nI (bg (ths a L L 0) (fun j => lt (0 + j)) wn)) (fun (u : Nat × Nat × (Nat → Bool)) (t : State) => va_P (dC, dI) vwCl [(m0, .inr (3, [.ref kt, .ref kp, .ref kw, .int (nI tl), .int (nI L), .int (nI wn), .int (nI u.1), .int (nI u.2.1), .ref kf])), (kp, .inl (cI, 400, .inl (fun j => nI (a j)))), (kw, .inl (cI, 400, .inl (fun j => nI (lt j)))), (kf, .inl (cZ, 401, .inl (fun j => nI (bN (u.2.2 j)))))] t.heap ∧ va_K (dC, dI) vwCl [(cI, .int), (cJ, .long), (cZ, .boolean)] t ∧ va_D (va_A [(m0, .inr (3, [.ref kt, .ref kp, .ref kw, .int (nI tl), .int (nI L), .int (nI wn), .int (nI en), .int (nI td), .ref kf])), (kp, .inl (cI, 400, .inl (fun j => nI (a j)))), (kw, .inl (cI, 400, .inl (fun j => nI (lt j)))), (kf, .inl (cZ, 401, .inl (fun j => nI (bN (F j)))))] sz) [(m0, .inr (3, [.ref kt, .ref kp, .ref kw, .int (nI tl), .int (nI L), .int (nI wn), .int (nI u.1), .int (nI u.2.1), .ref kf])), (kp, .inl (cI, 400, .inl (fun j => nI (a j)))), (kw, .inl (cI, 400, .inl (fun j => nI (lt j)))), (kf, .inl (cZ, 401, .inl (fun j => nI (bN (u.2.2 j)))))]) (va_A [(m0, .inr (3, [.ref kt, .ref kp, .ref kw, .int (nI tl), .int (nI L), .int (nI wn), .int (nI en), .int (nI td), .ref kf])), (kp, .inl (cI, 400, .inl (fun j => nI (a j)))), (kw, .inl (cI, 400, .inl (fun j => nI (lt j)))), (kf, .inl (cZ, 401, .inl (fun j => nI (bN (F j)))))] sz)) 0 0 (va_A [(m0, .inr (3, [.ref kt, .ref kp, .ref kw, .int (nI tl), .int (nI L), .int (nI wn), .int (nI en), .int (nI td), .ref kf])), (kp, .inl (cI, 400, .inl (fun j => nI (a j)))), (kw, .inl (cI, 400, .inl (fun j => nI (lt j)))), (kf, .inl (cZ, 401, .inl (fun j => nI (bN (F j)))))] sz) := by
  refine Met.ofW (cc := cM_beginnings) (maxL := 3) (ret := (some .int)) (by decide) rfl ?_
  intro p e s m args below meth c s₁ B hml hv
  obtain ⟨rfl, hsz, hP, hK, hD0⟩ := hv
  have hx := B.exec
  have hb := B.bytes
  have hr := B.returns
  have hts := atoms_spec (ws := wsM_beginnings) B.pre
  have hown : s.vm.findClass RX3 = some m.cls := findClass_of_methodNamed B.named
  have hlocks := B.notSynchronized
  subst hsz
  have hD := hD0.self (sz := s.heap.size)
  generalize hAe : va_A [(m0, .inr (3, [.ref kt, .ref kp, .ref kw, .int (nI tl), .int (nI L), .int (nI wn), .int (nI en), .int (nI td), .ref kf])), (kp, .inl (cI, 400, .inl (fun j => nI (a j)))), (kw, .inl (cI, 400, .inl (fun j => nI (lt j)))), (kf, .inl (cZ, 401, .inl (fun j => nI (bN (F j)))))] s.heap.size = A at hD ⊢
  have hA : ∀ q : Nat, s.heap.size ≤ q → A q := fun q h => by rw [← hAe]; exact Or.inr h
  have hS : va_S A s.heap s.heap [] := va_S.rf
  have hP : va_P (dC, dI) vwCl [(m0, .inr (3, [.ref kt, .ref kp, .ref kw, .int (nI tl), .int (nI L), .int (nI wn), .int (nI en), .int (nI td), .ref kf])), (kp, .inl (cI, 400, .inl (fun j => nI (a j)))), (kw, .inl (cI, 400, .inl (fun j => nI (lt j)))), (kf, .inl (cZ, 401, .inl (fun j => nI (bN (F j)))))] s.heap := hP
  have hl := lv_entry ([.ref m0]) (n := 3) (Nat.le_of_ble_eq_true rfl)
  rw [lg_entry_eq]
  generalize (lg_sl ([.ref m0]) ++ List.replicate (3 - (lg_sl ([.ref m0])).length) Slot.unset).toArray = ls at hl ⊢
  have hl : lv_has ls 3 [(0, .ref m0)] := hl
  skip
  refine lv_aload_n hx hb dM_beginnings_0 rfl (lv_at hl 0 rfl) ?_
  refine lv_iconst (v := nI 0) hx hb dM_beginnings_1 (by decide) ?_
  refine lv_aload_n hx hb dM_beginnings_2 rfl (lv_at hl 0 rfl) ?_
  refine va_get (D := (dC, dI)) (ci := 3) (v := .int (nI wn)) (C := RX3) (T := TX3) (N := 9) hx hb hts (by decide +kernel) hown hK hP 0 rfl rfl 5 (by decide) (hts (.fieldLink RX3 34 "WildCardsModel" "length" "I") (by decide +kernel)) (fun _ h9 => h9) rfl dM_beginnings_3 ?_
  have hPc := hP.sub (ws' := [(m0, .inr (3, [.ref kt, .ref kp, .ref kw, .int (nI tl), .int (nI L), .int (nI wn), .int (nI en), .int (nI td), .ref kf])), (kp, .inl (cI, 400, .inl (fun j => nI (a j)))), (kw, .inl (cI, 400, .inl (fun j => nI (lt j)))), (kf, .inl (cZ, 401, .inl (fun j => nI (bN (F j)))))]) [0, 1, 2, 3] rfl
  have hDc := hD.sub (ws' := [(m0, .inr (3, [.ref kt, .ref kp, .ref kw, .int (nI tl), .int (nI L), .int (nI wn), .int (nI en), .int (nI td), .ref kf])), (kp, .inl (cI, 400, .inl (fun j => nI (a j)))), (kw, .inl (cI, 400, .inl (fun j => nI (lt j)))), (kf, .inl (cZ, 401, .inl (fun j => nI (bN (F j)))))]) [0, 1, 2, 3] (by decide) rfl
  have hFc := va_free (wc := [(m0, .inr (3, [.ref kt, .ref kp, .ref kw, .int (nI tl), .int (nI L), .int (nI wn), .int (nI en), .int (nI td), .ref kf])), (kp, .inl (cI, 400, .inl (fun j => nI (a j)))), (kw, .inl (cI, 400, .inl (fun j => nI (lt j)))), (kf, .inl (cZ, 401, .inl (fun j => nI (bN (F j)))))]) hD hS hA [0, 1, 2, 3] rfl
  refine va_callv (va_runV (As := [.int (nI 0), .int (nI wn)]) (rest := []) ⟨hx, hb, hml, hown, hts⟩ (c_M_reckon l dC dI cI cJ cZ m0 kt kp kw kf s.heap.size tl L wn en td a lt F 0 wn hL ha hwn hlt (by omega)) (cwV 2 hts gM_beginnings_M_reckon rfl rfl rfl (by decide +kernel) ⟨Nat.le_of_ble_eq_true rfl, Nat.le_of_ble_eq_true rfl⟩) ⟨fun a U g mk q => by obtain ⟨q0, q1, qP, qK, qD⟩ := q; exact ⟨q0, q1, qP, va_K.moved (u := U) (U := U.calling g mk a) (Vm.Alike.refl U.vm) qK, qD⟩, va_recv hK hPc (ci := 3) (q0 := 0) rfl rfl, fun U hU hW => ⟨rfl, by rw [hU], by rw [hU]; exact hPc, va_K.moved hW.alike hK, hDc.weaken (fun _ _ _ _ => trivial)⟩⟩ rfl rfl hl.1 rfl (lv_room (Nat.le_of_ble_eq_true rfl)) dM_beginnings_6 ⟨show 0 + 0 ≤ 0 from by decide, show 0 + 0 ≤ 0 from by decide⟩) hS (fun q _ h => hFc q h) hFc (fun u t H1 locs ht hvm hw6 hB hz1 hk1 hS => ?_)
  obtain ⟨en26, td26, F26⟩ := u
  obtain ⟨hP1, hK1, hD1⟩ := hB
  rw [ht] at hP1
  try dsimp only at hw6 hP1 hD1
  obtain ⟨hP, hD⟩ := va_join (wr := []) (w1 := [(m0, .inr (3, [.ref kt, .ref kp, .ref kw, .int (nI tl), .int (nI L), .int (nI wn), .int (nI en26), .int (nI td26), .ref kf])), (kp, .inl (cI, 400, .inl (fun j => nI (a j)))), (kw, .inl (cI, 400, .inl (fun j => nI (lt j)))), (kf, .inl (cZ, 401, .inl (fun j => nI (bN (F26 j)))))]) hP hD [0, 1, 2, 3] [] rfl rfl (by decide) (by decide) hk1 hFc hP1 hD1
  generalize H1 = H at hP hS ⊢
  have hP : va_P (dC, dI) vwCl [(m0, .inr (3, [.ref kt, .ref kp, .ref kw, .int (nI tl), .int (nI L), .int (nI wn), .int (nI en26), .int (nI td26), .ref kf])), (kp, .inl (cI, 400, .inl (fun j => nI (a j)))), (kw, .inl (cI, 400, .inl (fun j => nI (lt j)))), (kf, .inl (cZ, 401, .inl (fun j => nI (bN (F26 j)))))] H := hP
  have hD : va_D A [(m0, .inr (3, [.ref kt, .ref kp, .ref kw, .int (nI tl), .int (nI L), .int (nI wn), .int (nI en26), .int (nI td26), .ref kf])), (kp, .inl (cI, 400, .inl (fun j => nI (a j)))), (kw, .inl (cI, 400, .inl (fun j => nI (lt j)))), (kf, .inl (cZ, 401, .inl (fun j => nI (bN (F26 j)))))] := hD
  refine lv_iconst (v := nI 0) hx hb dM_beginnings_9 (by decide) ?_
  refine lv_istore_n (lv' := [(1, .int (nI 0)), (0, .ref m0)]) hx hb dM_beginnings_10 rfl hl (by decide) rfl (fun ls hl => ?_)
  refine lv_iconst (v := nI 0) hx hb dM_beginnings_11 (by decide) ?_
  refine lv_istore_n (lv' := [(2, .int (nI 0)), (1, .int (nI 0)), (0, .ref m0)]) hx hb dM_beginnings_12 rfl hl (by decide) rfl (fun ls hl => ?_)
  refine wl_loop (σ := Nat × Nat) (fun z9 => wn + 1 - z9.1) (fun z9 H locs ls => (z9.1 ≤ wn + 1) ∧ (bc (ths a L L 0) (fun j => lt (0 + j)) z9.1 z9.2) ∧ (z9.2 ≤ z9.1) ∧ va_P (dC, dI) vwCl [(m0, .inr (3, [.ref kt, .ref kp, .ref kw, .int (nI tl), .int (nI L), .int (nI wn), .int (nI en26), .int (nI td26), .ref kf])), (kp, .inl (cI, 400, .inl (fun j => nI (a j)))), (kw, .inl (cI, 400, .inl (fun j => nI (lt j)))), (kf, .inl (cZ, 401, .inl (fun j => nI (bN (F26 j)))))] H ∧ va_D A [(m0, .inr (3, [.ref kt, .ref kp, .ref kw, .int (nI tl), .int (nI L), .int (nI wn), .int (nI en26), .int (nI td26), .ref kf])), (kp, .inl (cI, 400, .inl (fun j => nI (a j)))), (kw, .inl (cI, 400, .inl (fun j => nI (lt j)))), (kf, .inl (cZ, 401, .inl (fun j => nI (bN (F26 j)))))] ∧ va_S A s.heap H locs ∧ lv_has ls 3 [(0, .ref m0), (1, .int (nI z9.2)), (2, .int (nI z9.1))]) ?_ (0, 0) ⟨(show (0) ≤ wn + 1 from Nat.zero_le _), (show bc (ths a L L 0) (fun j => lt (0 + j)) (0) (0) from rfl), (show (0) ≤ (0) from Nat.le_refl _), hP.sub [0, 1, 2, 3] rfl, hD.sub [0, 1, 2, 3] (by decide) rfl, hS, lv_sub hl [2, 1, 0] rfl⟩
  intro z9 H locs ls hI ih13
  obtain ⟨jj, o⟩ := z9
  obtain ⟨hj, ho, ho2, hP, hD, hS, hl⟩ := hI
  try dsimp only at hj ho ho2 hP hD hl
  have hP : va_P (dC, dI) vwCl [(m0, .inr (3, [.ref kt, .ref kp, .ref kw, .int (nI tl), .int (nI L), .int (nI wn), .int (nI en26), .int (nI td26), .ref kf])), (kp, .inl (cI, 400, .inl (fun j => nI (a j)))), (kw, .inl (cI, 400, .inl (fun j => nI (lt j)))), (kf, .inl (cZ, 401, .inl (fun j => nI (bN (F26 j)))))] H := hP
  have hD : va_D A [(m0, .inr (3, [.ref kt, .ref kp, .ref kw, .int (nI tl), .int (nI L), .int (nI wn), .int (nI en26), .int (nI td26), .ref kf])), (kp, .inl (cI, 400, .inl (fun j => nI (a j)))), (kw, .inl (cI, 400, .inl (fun j => nI (lt j)))), (kf, .inl (cZ, 401, .inl (fun j => nI (bN (F26 j)))))] := hD
  have hl : lv_has ls 3 [(0, .ref m0), (1, .int (nI o)), (2, .int (nI jj))] := hl
  have hb3 := bN_lt (F26 jj)
  refine lv_iload_n hx hb dM_beginnings_13 rfl (lv_at hl 2 rfl) ?_
  refine lv_aload_n hx hb dM_beginnings_14 rfl (lv_at hl 0 rfl) ?_
  refine va_get (D := (dC, dI)) (ci := 3) (v := .int (nI wn)) (C := RX3) (T := TX3) (N := 9) hx hb hts (by decide +kernel) hown hK hP 0 rfl rfl 5 (by decide) (hts (.fieldLink RX3 34 "WildCardsModel" "length" "I") (by decide +kernel)) (fun _ h9 => h9) rfl dM_beginnings_15 ?_
  refine wl_icmp_gt (tgt := 44) hx hb dM_beginnings_18 (by decide) (by omega) (by omega) (fun c18 => ?_) (fun c18 => ?_)
  · skip
    refine lv_iload_n hx hb dM_beginnings_44 rfl (lv_at hl 1 rfl) ?_
    have hP9 := hP.sub (ws' := [(m0, .inr (3, [.ref kt, .ref kp, .ref kw, .int (nI tl), .int (nI L), .int (nI wn), .int (nI en26), .int (nI td26), .ref kf])), (kp, .inl (cI, 400, .inl (fun j => nI (a j)))), (kw, .inl (cI, 400, .inl (fun j => nI (lt j)))), (kf, .inl (cZ, 401, .inl (fun j => nI (bN (F26 j)))))]) [0, 1, 2, 3] rfl
    have hD9 := hD.sub (ws' := [(m0, .inr (3, [.ref kt, .ref kp, .ref kw, .int (nI tl), .int (nI L), .int (nI wn), .int (nI en26), .int (nI td26), .ref kf])), (kp, .inl (cI, 400, .inl (fun j => nI (a j)))), (kw, .inl (cI, 400, .inl (fun j => nI (lt j)))), (kf, .inl (cZ, 401, .inl (fun j => nI (bN (F26 j)))))]) [0, 1, 2, 3] (by decide) rfl
    exact W.iret (v := nI o) hx hb hr  (fun t ht hW => ⟨⟨nI o, (en26, td26, F26), rfl, (show (nI o) = nI (bg (ths a L L 0) (fun j => lt (0 + j)) wn) from bc_e ho (by omega)), by rw [ht]; exact hP9, va_K.moved hW.alike hK, hD9⟩, hS.F ht⟩) hS.2.2 dM_beginnings_45
  · skip
    refine lv_iload_n hx hb dM_beginnings_21 rfl (lv_at hl 1 rfl) ?_
    refine lv_aload_n hx hb dM_beginnings_22 rfl (lv_at hl 0 rfl) ?_
    refine va_get (D := (dC, dI)) (ci := 3) (v := .ref kf) (C := RX3) (T := TX3) (N := 9) hx hb hts (by decide +kernel) hown hK hP 0 rfl rfl 8 (by decide) (hts (.fieldLink RX3 19 "WildCardsModel" "fit" "[Z") (by decide +kernel)) (fun _ h9 => h9) rfl dM_beginnings_23 ?_
    refine lv_iload_n hx hb dM_beginnings_26 rfl (lv_at hl 2 rfl) ?_
    refine va_zald hx hb hK hP 3 2 rfl rfl (vp_in_nI (by omega) (by omega)) dM_beginnings_27 ?_
    refine wl_asi (y := nI (bN (F26 jj))) (by rw [nI_clamp (by omega)]) ?_
    refine wl_if_eq (tgt := 35) hx hb dM_beginnings_28 (by decide) (by omega) (fun c28 => ?_) (fun c28 => ?_)
    · skip
      refine lv_iconst (v := nI 0) hx hb dM_beginnings_35 (by decide) ?_
      refine lv_iadd hx hb dM_beginnings_36 ?_
      refine wl_asi (y := nI (o + 0)) (nI_add _ _) ?_
      refine lv_istore_n (lv' := [(1, .int (nI (o + 0))), (0, .ref m0), (2, .int (nI jj))]) hx hb dM_beginnings_37 rfl hl (by decide) rfl (fun ls hl => ?_)
      refine lv_iinc (v := nI (jj + 1)) (lv' := [(2, .int (nI (jj + 1))), (1, .int (nI (o + 0))), (0, .ref m0)]) hx hb dM_beginnings_38 hl (k := 2) rfl (wl_inc _ _ (by decide)) (by decide) rfl (fun ls hl => ?_)
      refine lv_goto (tgt := 13) hx hb dM_beginnings_41 (by decide) ?_
      exact ih13 (jj + 1, o + 0) H locs ls ⟨(show (jj + 1) ≤ wn + 1 from by omega), (show bc (ths a L L 0) (fun j => lt (0 + j)) (jj + 1) (o + 0) from bc_0 ho (hw6 jj (by omega)) (bN_z c28)), (show (o + 0) ≤ (jj + 1) from by omega), hP.sub [0, 1, 2, 3] rfl, hD.sub [0, 1, 2, 3] (by decide) rfl, hS, lv_sub hl [2, 1, 0] rfl⟩ (by (try dsimp only); omega)
    · skip
      refine lv_iconst (v := nI 1) hx hb dM_beginnings_31 (by decide) ?_
      refine lv_goto (tgt := 36) hx hb dM_beginnings_32 (by decide) ?_
      refine lv_iadd hx hb dM_beginnings_36 ?_
      refine wl_asi (y := nI (o + 1)) (nI_add _ _) ?_
      refine lv_istore_n (lv' := [(1, .int (nI (o + 1))), (0, .ref m0), (2, .int (nI jj))]) hx hb dM_beginnings_37 rfl hl (by decide) rfl (fun ls hl => ?_)
      refine lv_iinc (v := nI (jj + 1)) (lv' := [(2, .int (nI (jj + 1))), (1, .int (nI (o + 1))), (0, .ref m0)]) hx hb dM_beginnings_38 hl (k := 2) rfl (wl_inc _ _ (by decide)) (by decide) rfl (fun ls hl => ?_)
      refine lv_goto (tgt := 13) hx hb dM_beginnings_41 (by decide) ?_
      exact ih13 (jj + 1, o + 1) H locs ls ⟨(show (jj + 1) ≤ wn + 1 from by omega), (show bc (ths a L L 0) (fun j => lt (0 + j)) (jj + 1) (o + 1) from bc_1 ho (hw6 jj (by omega)) (bN_nz c28)), (show (o + 1) ≤ (jj + 1) from by omega), hP.sub [0, 1, 2, 3] rfl, hD.sub [0, 1, 2, 3] (by decide) rfl, hS, lv_sub hl [2, 1, 0] rfl⟩ (by (try dsimp only); omega)
