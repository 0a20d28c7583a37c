set_option maxHeartbeats 4000000 in
set_option maxRecDepth 100000 in
theorem c_X1_start (l : Launch) (dC : Nat → ClassId) (dI : Nat → Nat → Nat) (cI cJ cZ : ClassId) (hT qT qL qR : Nat) (sz : Nat) (cnt : Nat) (fT : Nat → Int64) (fL : Nat → Int64) (fR : Nat → Int64) : Met l yX1_start wsX1_start ({ frames := 1, cells := 0, slots := 0, locals := 24 }) (va_Pc [.ref hT] (fun U => U.heap.size = sz ∧ va_P (dC, dI) vwCl [(hT, .inr (1, [.ref qT, .ref qL, .ref qR, .int (nI cnt)])), (qT, .inl (cJ, 1792, .inr (.inl fT))), (qL, .inl (cJ, 7, .inr (.inl fL))), (qR, .inl (cJ, 7, .inr (.inl fR)))] U.heap ∧ va_K (dC, dI) vwCl [(cI, .int), (cJ, .long), (cZ, .boolean)] U ∧ va_D (fun _ => True) [(hT, .inr (1, [.ref qT, .ref qL, .ref qR, .int (nI cnt)])), (qT, .inl (cJ, 1792, .inr (.inl fT))), (qL, .inl (cJ, 7, .inr (.inl fL))), (qR, .inl (cJ, 7, .inr (.inl fR)))])) (va_Qv (fun (u : (Nat → Int64)) => ∀ k, k < 448 → lb u k = decide (k = 0)) (fun (u : (Nat → Int64)) (t : State) => va_P (dC, dI) vwCl [(hT, .inr (1, [.ref qT, .ref qL, .ref qR, .int (nI cnt)])), (qT, .inl (cJ, 1792, .inr (.inl fT))), (qL, .inl (cJ, 7, .inr (.inl fL))), (qR, .inl (cJ, 7, .inr (.inl u)))] t.heap ∧ va_K (dC, dI) vwCl [(cI, .int), (cJ, .long), (cZ, .boolean)] t ∧ va_D (va_A [(hT, .inr (1, [.ref qT, .ref qL, .ref qR, .int (nI cnt)])), (qT, .inl (cJ, 1792, .inr (.inl fT))), (qL, .inl (cJ, 7, .inr (.inl fL))), (qR, .inl (cJ, 7, .inr (.inl fR)))] sz) [(hT, .inr (1, [.ref qT, .ref qL, .ref qR, .int (nI cnt)])), (qT, .inl (cJ, 1792, .inr (.inl fT))), (qL, .inl (cJ, 7, .inr (.inl fL))), (qR, .inl (cJ, 7, .inr (.inl u)))]) (va_A [(hT, .inr (1, [.ref qT, .ref qL, .ref qR, .int (nI cnt)])), (qT, .inl (cJ, 1792, .inr (.inl fT))), (qL, .inl (cJ, 7, .inr (.inl fL))), (qR, .inl (cJ, 7, .inr (.inl fR)))] sz)) 0 0 (va_A [(hT, .inr (1, [.ref qT, .ref qL, .ref qR, .int (nI cnt)])), (qT, .inl (cJ, 1792, .inr (.inl fT))), (qL, .inl (cJ, 7, .inr (.inl fL))), (qR, .inl (cJ, 7, .inr (.inl fR)))] sz) := by
  refine Met.ofW (cc := cX1_start) (maxL := 1) (ret := none) (by decide) rfl ?_
  intro p e s m args below meth c s₁ B hml hv
  obtain ⟨rfl, hsz, hP, hK, hD0⟩ := hv
  have hx := B.exec
  have hb := B.bytes
  have hr := B.returns
  have hts := atoms_spec (ws := wsX1_start) B.pre
  have hown : s.vm.findClass RX1 = some m.cls := findClass_of_methodNamed B.named
  have hlocks := B.notSynchronized
  subst hsz
  have hD := hD0.self (sz := s.heap.size)
  generalize hAe : va_A [(hT, .inr (1, [.ref qT, .ref qL, .ref qR, .int (nI cnt)])), (qT, .inl (cJ, 1792, .inr (.inl fT))), (qL, .inl (cJ, 7, .inr (.inl fL))), (qR, .inl (cJ, 7, .inr (.inl fR)))] s.heap.size = A at hD ⊢
  have hA : ∀ q : Nat, s.heap.size ≤ q → A q := fun q h => by rw [← hAe]; exact Or.inr h
  have hS : va_S A s.heap s.heap [] := va_S.rf
  have hP : va_P (dC, dI) vwCl [(hT, .inr (1, [.ref qT, .ref qL, .ref qR, .int (nI cnt)])), (qT, .inl (cJ, 1792, .inr (.inl fT))), (qL, .inl (cJ, 7, .inr (.inl fL))), (qR, .inl (cJ, 7, .inr (.inl fR)))] s.heap := hP
  have hl := lv_entry ([.ref hT]) (n := 1) (Nat.le_of_ble_eq_true rfl)
  rw [lg_entry_eq]
  generalize (lg_sl ([.ref hT]) ++ List.replicate (1 - (lg_sl ([.ref hT])).length) Slot.unset).toArray = ls at hl ⊢
  have hl : lv_has ls 1 [(0, .ref hT)] := hl
  skip
  refine lv_aload_n hx hb dX1_start_0 rfl (lv_at hl 0 rfl) ?_
  refine va_get (D := (dC, dI)) (ci := 1) (v := .ref qR) (C := RX1) (T := TX1) (N := 4) hx hb hts (by decide +kernel) hown hK hP 0 rfl rfl 2 (by decide) (hts (.fieldLink RX1 18 "WildCards$Things" "reached" "[J") (by decide +kernel)) (fun _ h9 => h9) rfl dX1_start_1 ?_
  refine lv_lconst (v := 0) hx hb dX1_start_4 (by decide) ?_
  have hPc := hP.sub (ws' := [(qR, .inl (cJ, 7, .inr (.inl fR)))]) [3] rfl
  have hDc := hD.sub (ws' := [(qR, .inl (cJ, 7, .inr (.inl fR)))]) [3] (by decide) rfl
  have hFc := va_free (wc := [(qR, .inl (cJ, 7, .inr (.inl fR)))]) hD hS hA [3] rfl
  refine va_callv (va_runS (As := [.ref qR, .long 0]) (rest := []) ⟨hx, hb, hml, hown, hts⟩ (c_J7_fill_d0a16 l dC dI cI cJ cZ qR s.heap.size 7 fR 0 (by omega)) (va_cwS 2 hts gX1_start_J7_fill_d0a16 rfl rfl rfl (by decide +kernel) ⟨Nat.le_of_ble_eq_true rfl, Nat.le_of_ble_eq_true rfl⟩) ⟨fun a U g mk q => by obtain ⟨q0, q1, qP, qK, qD⟩ := q; exact ⟨q0, q1, qP, va_K.moved (u := U) (U := U.calling g mk a) (Vm.Alike.refl U.vm) qK, qD⟩, fun U hU hW => ⟨rfl, by rw [hU], by rw [hU]; exact hPc, va_K.moved hW.alike hK, hDc.weaken (fun _ _ _ _ => trivial)⟩⟩ rfl rfl hl.1 rfl (lv_room (Nat.le_of_ble_eq_true rfl)) dX1_start_5 ⟨show 0 + 0 ≤ 0 from by decide, show 0 + 0 ≤ 0 from by decide⟩) hS (fun q _ h => hFc q h) hFc (fun u t H1 locs ht hvm hw5 hB hz1 hk1 hS => ?_)
  obtain ⟨f25, rfl⟩ : ∃ z, z = u := ⟨_, rfl⟩
  obtain ⟨hP1, hK1, hD1⟩ := hB
  rw [ht] at hP1
  try dsimp only at hw5 hP1 hD1
  obtain ⟨hP, hD⟩ := va_join (wr := [(hT, .inr (1, [.ref qT, .ref qL, .ref qR, .int (nI cnt)])), (qT, .inl (cJ, 1792, .inr (.inl fT))), (qL, .inl (cJ, 7, .inr (.inl fL)))]) (w1 := [(qR, .inl (cJ, 7, .inr (.inl f25)))]) hP hD [3] [0, 1, 2] rfl rfl (by decide) (by decide) hk1 hFc hP1 hD1
  generalize H1 = H at hP hS ⊢
  have hP : va_P (dC, dI) vwCl [(hT, .inr (1, [.ref qT, .ref qL, .ref qR, .int (nI cnt)])), (qT, .inl (cJ, 1792, .inr (.inl fT))), (qL, .inl (cJ, 7, .inr (.inl fL))), (qR, .inl (cJ, 7, .inr (.inl f25)))] H := hP
  have hD : va_D A [(hT, .inr (1, [.ref qT, .ref qL, .ref qR, .int (nI cnt)])), (qT, .inl (cJ, 1792, .inr (.inl fT))), (qL, .inl (cJ, 7, .inr (.inl fL))), (qR, .inl (cJ, 7, .inr (.inl f25)))] := hD
  refine lv_aload_n hx hb dX1_start_8 rfl (lv_at hl 0 rfl) ?_
  refine va_get (D := (dC, dI)) (ci := 1) (v := .ref qR) (C := RX1) (T := TX1) (N := 4) hx hb hts (by decide +kernel) hown hK hP 0 rfl rfl 2 (by decide) (hts (.fieldLink RX1 18 "WildCards$Things" "reached" "[J") (by decide +kernel)) (fun _ h9 => h9) rfl dX1_start_9 ?_
  refine lv_iconst (v := nI 0) hx hb dX1_start_12 (by decide) ?_
  refine lv_lconst (v := 1) hx hb dX1_start_13 (by decide) ?_
  refine va_last hx hb hK hP hD hS 3 1 rfl rfl (vp_in_nI (by omega) (by omega)) dX1_start_14 (fun H locs hP hD hS => ?_)
  rw [nI_clamp (by omega)] at hP hD
  have hP : va_P (dC, dI) vwCl [(hT, .inr (1, [.ref qT, .ref qL, .ref qR, .int (nI cnt)])), (qT, .inl (cJ, 1792, .inr (.inl fT))), (qL, .inl (cJ, 7, .inr (.inl fL))), (qR, .inl (cJ, 7, .inr (.inl (vp_updL f25 0 1))))] H := hP
  have hD : va_D A [(hT, .inr (1, [.ref qT, .ref qL, .ref qR, .int (nI cnt)])), (qT, .inl (cJ, 1792, .inr (.inl fT))), (qL, .inl (cJ, 7, .inr (.inl fL))), (qR, .inl (cJ, 7, .inr (.inl (vp_updL f25 0 1))))] := hD
  have hP9 := hP.sub (ws' := [(hT, .inr (1, [.ref qT, .ref qL, .ref qR, .int (nI cnt)])), (qT, .inl (cJ, 1792, .inr (.inl fT))), (qL, .inl (cJ, 7, .inr (.inl fL))), (qR, .inl (cJ, 7, .inr (.inl (vp_updL f25 0 1))))]) [0, 1, 2, 3] rfl
  have hD9 := hD.sub (ws' := [(hT, .inr (1, [.ref qT, .ref qL, .ref qR, .int (nI cnt)])), (qT, .inl (cJ, 1792, .inr (.inl fT))), (qL, .inl (cJ, 7, .inr (.inl fL))), (qR, .inl (cJ, 7, .inr (.inl (vp_updL f25 0 1))))]) [0, 1, 2, 3] (by decide) rfl
  exact W.vret hx hb hr (fun t ht hW => ⟨⟨vp_updL f25 0 1, rfl, (show ∀ k, k < 448 → lb (vp_updL f25 0 1) k = decide (k = 0) from sr_in hw5), by rw [ht]; exact hP9, va_K.moved hW.alike hK, hD9⟩, hS.F ht⟩) hS.2.2 dX1_start_15
