set_option maxHeartbeats 4000000 in
set_option maxRecDepth 100000 in
theorem c_M_reckon (l : Launch) (dC : Nat → ClassId) (dI : Nat → Nat → Nat) (cI cJ cZ : ClassId) (m0 kt kp kw kf : Nat) (sz : Nat) (tl : Nat) (L : Nat) (wn : Nat) (en : Nat) (td : Nat) (a : Nat → Nat) (lt : Nat → Nat) (F : Nat → Bool) (fr : Nat) (n : Nat) (hL : L ≤ 400) (ha : ∀ j, j < L → a j < 256) (hwn : wn ≤ 400) (hlt : ∀ j, j < wn → lt j < 256) (hn : fr + n ≤ wn) : Met l yM_reckon wsM_reckon ({ frames := 3, cells := 0, slots := 0, locals := 70 }) (va_Pc [.ref m0, .int (nI fr), .int (nI n)] (fun U => U.heap.size = sz ∧ va_P (dC, dI) vwCl [(m0, .inr (3, [.ref kt, .ref kp, .ref kw, .int (nI tl), .int (nI L), .int (nI wn), .int (nI en), .int (nI td), .ref kf])), (kp, .inl (cI, 400, .inl (fun j => nI (a j)))), (kw, .inl (cI, 400, .inl (fun j => nI (lt j)))), (kf, .inl (cZ, 401, .inl (fun j => nI (bN (F j)))))] U.heap ∧ va_K (dC, dI) vwCl [(cI, .int), (cJ, .long), (cZ, .boolean)] U ∧ va_D (fun _ => True) [(m0, .inr (3, [.ref kt, .ref kp, .ref kw, .int (nI tl), .int (nI L), .int (nI wn), .int (nI en), .int (nI td), .ref kf])), (kp, .inl (cI, 400, .inl (fun j => nI (a j)))), (kw, .inl (cI, 400, .inl (fun j => nI (lt j)))), (kf, .inl (cZ, 401, .inl (fun j => nI (bN (F j)))))])) (va_Qv (fun (u : Nat × Nat × (Nat → Bool)) => ∀ j, j ≤ n → u.2.2 j = fz (ths a L L 0) (fun j => lt (fr + j)) j) (fun (u : Nat × Nat × (Nat → Bool)) (t : State) => va_P (dC, dI) vwCl [(m0, .inr (3, [.ref kt, .ref kp, .ref kw, .int (nI tl), .int (nI L), .int (nI wn), .int (nI u.1), .int (nI u.2.1), .ref kf])), (kp, .inl (cI, 400, .inl (fun j => nI (a j)))), (kw, .inl (cI, 400, .inl (fun j => nI (lt j)))), (kf, .inl (cZ, 401, .inl (fun j => nI (bN (u.2.2 j)))))] t.heap ∧ va_K (dC, dI) vwCl [(cI, .int), (cJ, .long), (cZ, .boolean)] t ∧ va_D (va_A [(m0, .inr (3, [.ref kt, .ref kp, .ref kw, .int (nI tl), .int (nI L), .int (nI wn), .int (nI en), .int (nI td), .ref kf])), (kp, .inl (cI, 400, .inl (fun j => nI (a j)))), (kw, .inl (cI, 400, .inl (fun j => nI (lt j)))), (kf, .inl (cZ, 401, .inl (fun j => nI (bN (F j)))))] sz) [(m0, .inr (3, [.ref kt, .ref kp, .ref kw, .int (nI tl), .int (nI L), .int (nI wn), .int (nI u.1), .int (nI u.2.1), .ref kf])), (kp, .inl (cI, 400, .inl (fun j => nI (a j)))), (kw, .inl (cI, 400, .inl (fun j => nI (lt j)))), (kf, .inl (cZ, 401, .inl (fun j => nI (bN (u.2.2 j)))))]) (va_A [(m0, .inr (3, [.ref kt, .ref kp, .ref kw, .int (nI tl), .int (nI L), .int (nI wn), .int (nI en), .int (nI td), .ref kf])), (kp, .inl (cI, 400, .inl (fun j => nI (a j)))), (kw, .inl (cI, 400, .inl (fun j => nI (lt j)))), (kf, .inl (cZ, 401, .inl (fun j => nI (bN (F j)))))] sz)) 0 0 (va_A [(m0, .inr (3, [.ref kt, .ref kp, .ref kw, .int (nI tl), .int (nI L), .int (nI wn), .int (nI en), .int (nI td), .ref kf])), (kp, .inl (cI, 400, .inl (fun j => nI (a j)))), (kw, .inl (cI, 400, .inl (fun j => nI (lt j)))), (kf, .inl (cZ, 401, .inl (fun j => nI (bN (F j)))))] sz) := by
  refine Met.ofW (cc := cM_reckon) (maxL := 5) (ret := none) (by decide) rfl ?_
  intro p e s m args below meth c s₁ B hml hv
  obtain ⟨rfl, hsz, hP, hK, hD0⟩ := hv
  have hx := B.exec
  have hb := B.bytes
  have hr := B.returns
  have hts := atoms_spec (ws := wsM_reckon) B.pre
  have hown : s.vm.findClass RX3 = some m.cls := findClass_of_methodNamed B.named
  have hlocks := B.notSynchronized
  subst hsz
  have hD := hD0.self (sz := s.heap.size)
  generalize hAe : va_A [(m0, .inr (3, [.ref kt, .ref kp, .ref kw, .int (nI tl), .int (nI L), .int (nI wn), .int (nI en), .int (nI td), .ref kf])), (kp, .inl (cI, 400, .inl (fun j => nI (a j)))), (kw, .inl (cI, 400, .inl (fun j => nI (lt j)))), (kf, .inl (cZ, 401, .inl (fun j => nI (bN (F j)))))] s.heap.size = A at hD ⊢
  have hA : ∀ q : Nat, s.heap.size ≤ q → A q := fun q h => by rw [← hAe]; exact Or.inr h
  have hS : va_S A s.heap s.heap [] := va_S.rf
  have hP : va_P (dC, dI) vwCl [(m0, .inr (3, [.ref kt, .ref kp, .ref kw, .int (nI tl), .int (nI L), .int (nI wn), .int (nI en), .int (nI td), .ref kf])), (kp, .inl (cI, 400, .inl (fun j => nI (a j)))), (kw, .inl (cI, 400, .inl (fun j => nI (lt j)))), (kf, .inl (cZ, 401, .inl (fun j => nI (bN (F j)))))] s.heap := hP
  have hl := lv_entry ([.ref m0, .int (nI fr), .int (nI n)]) (n := 5) (Nat.le_of_ble_eq_true rfl)
  rw [lg_entry_eq]
  generalize (lg_sl ([.ref m0, .int (nI fr), .int (nI n)]) ++ List.replicate (5 - (lg_sl ([.ref m0, .int (nI fr), .int (nI n)])).length) Slot.unset).toArray = ls at hl ⊢
  have hl : lv_has ls 5 [(0, .ref m0), (1, .int (nI fr)), (2, .int (nI n))] := hl
  skip
  refine lv_aload_n hx hb dM_reckon_0 rfl (lv_at hl 0 rfl) ?_
  refine va_get (D := (dC, dI)) (ci := 3) (v := .ref kf) (C := RX3) (T := TX3) (N := 9) hx hb hts (by decide +kernel) hown hK hP 0 rfl rfl 8 (by decide) (hts (.fieldLink RX3 19 "WildCardsModel" "fit" "[Z") (by decide +kernel)) (fun _ h9 => h9) rfl dM_reckon_1 ?_
  refine lv_iconst (v := nI 0) hx hb dM_reckon_4 (by decide) ?_
  refine lv_iconst (v := nI 1) hx hb dM_reckon_5 (by decide) ?_
  refine va_zast hx hb hK hP hD hS 3 2 rfl rfl (vp_in_nI (by omega) (by omega)) dM_reckon_6 (fun H locs hP hD hS => ?_)
  rw [nI_clamp (by omega)] at hP hD
  rw [wl_updB1] at hP hD
  have hP : va_P (dC, dI) vwCl [(m0, .inr (3, [.ref kt, .ref kp, .ref kw, .int (nI tl), .int (nI L), .int (nI wn), .int (nI en), .int (nI td), .ref kf])), (kp, .inl (cI, 400, .inl (fun j => nI (a j)))), (kw, .inl (cI, 400, .inl (fun j => nI (lt j)))), (kf, .inl (cZ, 401, .inl (fun j => nI (bN ((va_up F 0 true) j)))))] H := hP
  have hD : va_D A [(m0, .inr (3, [.ref kt, .ref kp, .ref kw, .int (nI tl), .int (nI L), .int (nI wn), .int (nI en), .int (nI td), .ref kf])), (kp, .inl (cI, 400, .inl (fun j => nI (a j)))), (kw, .inl (cI, 400, .inl (fun j => nI (lt j)))), (kf, .inl (cZ, 401, .inl (fun j => nI (bN ((va_up F 0 true) j)))))] := hD
  refine lv_iconst (v := nI 1) hx hb dM_reckon_7 (by decide) ?_
  refine lv_istore_n (lv' := [(3, .int (nI 1)), (0, .ref m0), (1, .int (nI fr)), (2, .int (nI n))]) hx hb dM_reckon_8 rfl hl (by decide) rfl (fun ls hl => ?_)
  refine wl_loop (σ := Nat × (Nat → Bool)) (fun z9 => n + 1 - z9.1) (fun z9 H locs ls => (1 ≤ z9.1) ∧ (z9.1 ≤ n + 1) ∧ (∀ i, i < z9.1 → z9.2 i = decide (i = 0)) ∧ va_P (dC, dI) vwCl [(m0, .inr (3, [.ref kt, .ref kp, .ref kw, .int (nI tl), .int (nI L), .int (nI wn), .int (nI en), .int (nI td), .ref kf])), (kp, .inl (cI, 400, .inl (fun j => nI (a j)))), (kw, .inl (cI, 400, .inl (fun j => nI (lt j)))), (kf, .inl (cZ, 401, .inl (fun j => nI (bN (z9.2 j)))))] H ∧ va_D A [(m0, .inr (3, [.ref kt, .ref kp, .ref kw, .int (nI tl), .int (nI L), .int (nI wn), .int (nI en), .int (nI td), .ref kf])), (kp, .inl (cI, 400, .inl (fun j => nI (a j)))), (kw, .inl (cI, 400, .inl (fun j => nI (lt j)))), (kf, .inl (cZ, 401, .inl (fun j => nI (bN (z9.2 j)))))] ∧ va_S A s.heap H locs ∧ lv_has ls 5 [(0, .ref m0), (1, .int (nI fr)), (2, .int (nI n)), (3, .int (nI z9.1))]) ?_ (1, va_up F 0 true) ⟨(show 1 ≤ (1) from Nat.le_refl _), (show (1) ≤ n + 1 from by omega), (show ∀ i, i < (1) → (va_up F 0 true) i = decide (i = 0) from rk_i F), hP.sub [0, 1, 2, 3] rfl, hD.sub [0, 1, 2, 3] (by decide) rfl, hS, lv_sub hl [1, 2, 3, 0] rfl⟩
  intro z9 H locs ls hI ih9
  obtain ⟨jj, g⟩ := z9
  obtain ⟨hj1, hj, hg, hP, hD, hS, hl⟩ := hI
  try dsimp only at hj1 hj hg hP hD hl
  have hP : va_P (dC, dI) vwCl [(m0, .inr (3, [.ref kt, .ref kp, .ref kw, .int (nI tl), .int (nI L), .int (nI wn), .int (nI en), .int (nI td), .ref kf])), (kp, .inl (cI, 400, .inl (fun j => nI (a j)))), (kw, .inl (cI, 400, .inl (fun j => nI (lt j)))), (kf, .inl (cZ, 401, .inl (fun j => nI (bN (g j)))))] H := hP
  have hD : va_D A [(m0, .inr (3, [.ref kt, .ref kp, .ref kw, .int (nI tl), .int (nI L), .int (nI wn), .int (nI en), .int (nI td), .ref kf])), (kp, .inl (cI, 400, .inl (fun j => nI (a j)))), (kw, .inl (cI, 400, .inl (fun j => nI (lt j)))), (kf, .inl (cZ, 401, .inl (fun j => nI (bN (g j)))))] := hD
  have hl : lv_has ls 5 [(0, .ref m0), (1, .int (nI fr)), (2, .int (nI n)), (3, .int (nI jj))] := hl
  refine lv_iload_n hx hb dM_reckon_9 rfl (lv_at hl 3 rfl) ?_
  refine lv_iload_n hx hb dM_reckon_10 rfl (lv_at hl 2 rfl) ?_
  refine wl_icmp_gt (tgt := 27) hx hb dM_reckon_11 (by decide) (by omega) (by omega) (fun c11 => ?_) (fun c11 => ?_)
  · skip
    refine lv_iconst (v := nI 0) hx hb dM_reckon_27 (by decide) ?_
    refine lv_istore_n (lv' := [(3, .int (nI 0)), (0, .ref m0), (1, .int (nI fr)), (2, .int (nI n))]) hx hb dM_reckon_28 rfl hl (by decide) rfl (fun ls hl => ?_)
    refine wl_loop (σ := Nat × Nat × (List (Option (Nat → Bool))) × (Nat → Bool) × Nat × Nat) (fun z9 => L - z9.1) (fun z9 H locs ls => (z9.2.1 ≤ z9.1) ∧ (z9.1 ≤ L) ∧ (ths a L L 0 = z9.2.2.1 ++ ths a L (L - z9.2.1) z9.1) ∧ (∀ i, i ≤ n → z9.2.2.2.1 i = fz z9.2.2.1 (fun j => lt (fr + j)) i) ∧ va_P (dC, dI) vwCl [(m0, .inr (3, [.ref kt, .ref kp, .ref kw, .int (nI tl), .int (nI L), .int (nI wn), .int (nI z9.2.2.2.2.1), .int (nI z9.2.2.2.2.2), .ref kf])), (kp, .inl (cI, 400, .inl (fun j => nI (a j)))), (kw, .inl (cI, 400, .inl (fun j => nI (lt j)))), (kf, .inl (cZ, 401, .inl (fun j => nI (bN (z9.2.2.2.1 j)))))] H ∧ va_D A [(m0, .inr (3, [.ref kt, .ref kp, .ref kw, .int (nI tl), .int (nI L), .int (nI wn), .int (nI z9.2.2.2.2.1), .int (nI z9.2.2.2.2.2), .ref kf])), (kp, .inl (cI, 400, .inl (fun j => nI (a j)))), (kw, .inl (cI, 400, .inl (fun j => nI (lt j)))), (kf, .inl (cZ, 401, .inl (fun j => nI (bN (z9.2.2.2.1 j)))))] ∧ va_S A s.heap H locs ∧ lv_has ls 5 [(0, .ref m0), (1, .int (nI fr)), (2, .int (nI n)), (3, .int (nI z9.1))]) ?_ (0, 0, [], g, en, td) ⟨(show (0) ≤ (0) from Nat.le_refl _), (show (0) ≤ L from Nat.zero_le _), (show ths a L L 0 = ([]) ++ ths a L (L - (0)) (0) from rfl), (show ∀ i, i ≤ n → g i = fz ([]) (fun j => lt (fr + j)) i from fun i hi => by rw [fz_nil]; exact hg i (by omega)), hP.sub [0, 1, 2, 3] rfl, hD.sub [0, 1, 2, 3] (by decide) rfl, hS, lv_sub hl [1, 2, 3, 0] rfl⟩
    intro z9 H locs ls hI ih29
    obtain ⟨at_, rr, ts, G, en, td⟩ := z9
    obtain ⟨hr0, hat, hths, hG, hP, hD, hS, hl⟩ := hI
    try dsimp only at hr0 hat hths hG hP hD hl
    have hP : va_P (dC, dI) vwCl [(m0, .inr (3, [.ref kt, .ref kp, .ref kw, .int (nI tl), .int (nI L), .int (nI wn), .int (nI en), .int (nI td), .ref kf])), (kp, .inl (cI, 400, .inl (fun j => nI (a j)))), (kw, .inl (cI, 400, .inl (fun j => nI (lt j)))), (kf, .inl (cZ, 401, .inl (fun j => nI (bN (G j)))))] H := hP
    have hD : va_D A [(m0, .inr (3, [.ref kt, .ref kp, .ref kw, .int (nI tl), .int (nI L), .int (nI wn), .int (nI en), .int (nI td), .ref kf])), (kp, .inl (cI, 400, .inl (fun j => nI (a j)))), (kw, .inl (cI, 400, .inl (fun j => nI (lt j)))), (kf, .inl (cZ, 401, .inl (fun j => nI (bN (G j)))))] := hD
    have hl : lv_has ls 5 [(0, .ref m0), (1, .int (nI fr)), (2, .int (nI n)), (3, .int (nI at_))] := hl
    refine lv_iload_n hx hb dM_reckon_29 rfl (lv_at hl 3 rfl) ?_
    refine lv_aload_n hx hb dM_reckon_30 rfl (lv_at hl 0 rfl) ?_
    refine va_get (D := (dC, dI)) (ci := 3) (v := .int (nI L)) (C := RX3) (T := TX3) (N := 9) hx hb hts (by decide +kernel) hown hK hP 0 rfl rfl 4 (by decide) (hts (.fieldLink RX3 31 "WildCardsModel" "size" "I") (by decide +kernel)) (fun _ h9 => h9) rfl dM_reckon_31 ?_
    refine wl_icmp_ge (tgt := 182) hx hb dM_reckon_34 (by decide) (by omega) (by omega) (fun c34 => ?_) (fun c34 => ?_)
    · skip
      have hP9 := hP.sub (ws' := [(m0, .inr (3, [.ref kt, .ref kp, .ref kw, .int (nI tl), .int (nI L), .int (nI wn), .int (nI en), .int (nI td), .ref kf])), (kp, .inl (cI, 400, .inl (fun j => nI (a j)))), (kw, .inl (cI, 400, .inl (fun j => nI (lt j)))), (kf, .inl (cZ, 401, .inl (fun j => nI (bN (G j)))))]) [0, 1, 2, 3] rfl
      have hD9 := hD.sub (ws' := [(m0, .inr (3, [.ref kt, .ref kp, .ref kw, .int (nI tl), .int (nI L), .int (nI wn), .int (nI en), .int (nI td), .ref kf])), (kp, .inl (cI, 400, .inl (fun j => nI (a j)))), (kw, .inl (cI, 400, .inl (fun j => nI (lt j)))), (kf, .inl (cZ, 401, .inl (fun j => nI (bN (G j)))))]) [0, 1, 2, 3] (by decide) rfl
      exact W.vret hx hb hr (fun t ht hW => ⟨⟨(en, td, G), rfl, (show ∀ j, j ≤ n → G j = fz (ths a L L 0) (fun j => lt (fr + j)) j from by rw [ths_e hths (Or.inr c34)]; exact hG), by rw [ht]; exact hP9, va_K.moved hW.alike hK, hD9⟩, hS.F ht⟩) hS.2.2 dM_reckon_182
    · skip
      have h8 := ha at_ c34
      refine lv_aload_n hx hb dM_reckon_37 rfl (lv_at hl 0 rfl) ?_
      refine va_get (D := (dC, dI)) (ci := 3) (v := .ref kp) (C := RX3) (T := TX3) (N := 9) hx hb hts (by decide +kernel) hown hK hP 0 rfl rfl 1 (by decide) (hts (.fieldLink RX3 13 "WildCardsModel" "pattern" "[I") (by decide +kernel)) (fun _ h9 => h9) rfl dM_reckon_38 ?_
      refine lv_iload_n hx hb dM_reckon_41 rfl (lv_at hl 3 rfl) ?_
      refine va_iald hx hb hK hP 1 0 rfl rfl (vp_in_nI (by omega) (by omega)) dM_reckon_42 ?_
      refine wl_asi (y := nI (a at_)) (by rw [nI_clamp (by omega)]) ?_
      refine lv_bipush (v := nI 42) hx hb dM_reckon_43 (by decide) ?_
      refine wl_icmp_ne (tgt := 103) hx hb dM_reckon_45 (by decide) (by omega) (by omega) (fun c45 => ?_) (fun c45 => ?_)
      · skip
        refine lv_iload_n hx hb dM_reckon_103 rfl (lv_at hl 2 rfl) ?_
        refine lv_istore (lv' := [(4, .int (nI n)), (0, .ref m0), (1, .int (nI fr)), (2, .int (nI n)), (3, .int (nI at_))]) hx hb dM_reckon_104 hl (by decide) rfl (fun ls hl => ?_)
        refine wl_loop (σ := Nat × (Nat → Bool) × Nat × Nat) (fun z9 => z9.1) (fun z9 H locs ls => (z9.1 ≤ n) ∧ (∀ i, i ≤ z9.1 → z9.2.1 i = fz ts (fun j => lt (fr + j)) i) ∧ (∀ i, z9.1 < i → i ≤ n → z9.2.1 i = fz (ts ++ [thv a L at_]) (fun j => lt (fr + j)) i) ∧ va_P (dC, dI) vwCl [(m0, .inr (3, [.ref kt, .ref kp, .ref kw, .int (nI tl), .int (nI L), .int (nI wn), .int (nI z9.2.2.1), .int (nI z9.2.2.2), .ref kf])), (kp, .inl (cI, 400, .inl (fun j => nI (a j)))), (kw, .inl (cI, 400, .inl (fun j => nI (lt j)))), (kf, .inl (cZ, 401, .inl (fun j => nI (bN (z9.2.1 j)))))] H ∧ va_D A [(m0, .inr (3, [.ref kt, .ref kp, .ref kw, .int (nI tl), .int (nI L), .int (nI wn), .int (nI z9.2.2.1), .int (nI z9.2.2.2), .ref kf])), (kp, .inl (cI, 400, .inl (fun j => nI (a j)))), (kw, .inl (cI, 400, .inl (fun j => nI (lt j)))), (kf, .inl (cZ, 401, .inl (fun j => nI (bN (z9.2.1 j)))))] ∧ va_S A s.heap H locs ∧ lv_has ls 5 [(0, .ref m0), (1, .int (nI fr)), (2, .int (nI n)), (3, .int (nI at_)), (4, .int (nI z9.1))]) ?_ (n, G, en, td) ⟨(show n ≤ n from Nat.le_refl _), (show ∀ i, i ≤ n → G i = fz ts (fun j => lt (fr + j)) i from hG), (show ∀ i, n < i → i ≤ n → G i = fz (ts ++ [thv a L at_]) (fun j => lt (fr + j)) i from fun i h1 h2 => absurd h2 (by omega)), hP.sub [0, 1, 2, 3] rfl, hD.sub [0, 1, 2, 3] (by decide) rfl, hS, lv_sub hl [1, 2, 3, 4, 0] rfl⟩
        intro z9 H locs ls hI ih106
        obtain ⟨jj, g, en, td⟩ := z9
        obtain ⟨hj, hd1, hd2, hP, hD, hS, hl⟩ := hI
        try dsimp only at hj hd1 hd2 hP hD hl
        have hP : va_P (dC, dI) vwCl [(m0, .inr (3, [.ref kt, .ref kp, .ref kw, .int (nI tl), .int (nI L), .int (nI wn), .int (nI en), .int (nI td), .ref kf])), (kp, .inl (cI, 400, .inl (fun j => nI (a j)))), (kw, .inl (cI, 400, .inl (fun j => nI (lt j)))), (kf, .inl (cZ, 401, .inl (fun j => nI (bN (g j)))))] H := hP
        have hD : va_D A [(m0, .inr (3, [.ref kt, .ref kp, .ref kw, .int (nI tl), .int (nI L), .int (nI wn), .int (nI en), .int (nI td), .ref kf])), (kp, .inl (cI, 400, .inl (fun j => nI (a j)))), (kw, .inl (cI, 400, .inl (fun j => nI (lt j)))), (kf, .inl (cZ, 401, .inl (fun j => nI (bN (g j)))))] := hD
        have hl : lv_has ls 5 [(0, .ref m0), (1, .int (nI fr)), (2, .int (nI n)), (3, .int (nI at_)), (4, .int (nI jj))] := hl
        have hb2 := bN_lt (g (jj - 1))
        refine lv_iload hx hb dM_reckon_106 (lv_at hl 4 rfl) ?_
        refine wl_if_le (tgt := 160) hx hb dM_reckon_108 (by decide) (by omega) (fun c108 => ?_) (fun c108 => ?_)
        · skip
          refine lv_aload_n hx hb dM_reckon_160 rfl (lv_at hl 0 rfl) ?_
          refine va_get (D := (dC, dI)) (ci := 3) (v := .ref kf) (C := RX3) (T := TX3) (N := 9) hx hb hts (by decide +kernel) hown hK hP 0 rfl rfl 8 (by decide) (hts (.fieldLink RX3 19 "WildCardsModel" "fit" "[Z") (by decide +kernel)) (fun _ h9 => h9) rfl dM_reckon_161 ?_
          refine lv_iconst (v := nI 0) hx hb dM_reckon_164 (by decide) ?_
          refine lv_iconst (v := nI 0) hx hb dM_reckon_165 (by decide) ?_
          refine va_zast hx hb hK hP hD hS 3 2 rfl rfl (vp_in_nI (by omega) (by omega)) dM_reckon_166 (fun H locs hP hD hS => ?_)
          rw [nI_clamp (by omega)] at hP hD
          rw [wl_updB0] at hP hD
          have hP : va_P (dC, dI) vwCl [(m0, .inr (3, [.ref kt, .ref kp, .ref kw, .int (nI tl), .int (nI L), .int (nI wn), .int (nI en), .int (nI td), .ref kf])), (kp, .inl (cI, 400, .inl (fun j => nI (a j)))), (kw, .inl (cI, 400, .inl (fun j => nI (lt j)))), (kf, .inl (cZ, 401, .inl (fun j => nI (bN ((va_up g 0 false) j)))))] H := hP
          have hD : va_D A [(m0, .inr (3, [.ref kt, .ref kp, .ref kw, .int (nI tl), .int (nI L), .int (nI wn), .int (nI en), .int (nI td), .ref kf])), (kp, .inl (cI, 400, .inl (fun j => nI (a j)))), (kw, .inl (cI, 400, .inl (fun j => nI (lt j)))), (kf, .inl (cZ, 401, .inl (fun j => nI (bN ((va_up g 0 false) j)))))] := hD
          refine lv_aload_n hx hb dM_reckon_167 rfl (lv_at hl 0 rfl) ?_
          refine lv_iload_n hx hb dM_reckon_168 rfl (lv_at hl 3 rfl) ?_
          refine lv_iconst (v := nI 0) hx hb dM_reckon_169 (by decide) ?_
          have hPc := hP.sub (ws' := [(m0, .inr (3, [.ref kt, .ref kp, .ref kw, .int (nI tl), .int (nI L), .int (nI wn), .int (nI en), .int (nI td), .ref kf])), (kp, .inl (cI, 400, .inl (fun j => nI (a j))))]) [0, 1] rfl
          have hDc := hD.sub (ws' := [(m0, .inr (3, [.ref kt, .ref kp, .ref kw, .int (nI tl), .int (nI L), .int (nI wn), .int (nI en), .int (nI td), .ref kf])), (kp, .inl (cI, 400, .inl (fun j => nI (a j))))]) [0, 1] (by decide) rfl
          have hFc := va_free (wc := [(m0, .inr (3, [.ref kt, .ref kp, .ref kw, .int (nI tl), .int (nI L), .int (nI wn), .int (nI en), .int (nI td), .ref kf])), (kp, .inl (cI, 400, .inl (fun j => nI (a j))))]) hD hS hA [0, 1] rfl
          refine va_calli (va_runV (As := [.int (nI at_), .int (nI 0)]) (rest := []) ⟨hx, hb, hml, hown, hts⟩ (c_M_suits l dC dI cI cJ cZ m0 kt kp kw kf H.size tl L wn en td a at_ 0 hL ha c34 (by omega) c45) (cwV 2 hts gM_reckon_M_suits rfl rfl rfl (by decide +kernel) ⟨Nat.le_of_ble_eq_true rfl, Nat.le_of_ble_eq_true rfl⟩) ⟨fun a U g mk q => by obtain ⟨q0, q1, qP, qK, qD⟩ := q; exact ⟨q0, q1, qP, va_K.moved (u := U) (U := U.calling g mk a) (Vm.Alike.refl U.vm) qK, qD⟩, va_recv hK hPc (ci := 3) (q0 := 0) rfl rfl, fun U hU hW => ⟨rfl, by rw [hU], by rw [hU]; exact hPc, va_K.moved hW.alike hK, hDc.weaken (fun _ _ _ _ => trivial)⟩⟩ rfl rfl hl.1 rfl (lv_room (Nat.le_of_ble_eq_true rfl)) dM_reckon_170 ⟨show 0 + 0 ≤ 0 from by decide, show 0 + 0 ≤ 0 from by decide⟩) hS (fun q _ h => hFc q h) hFc (fun r170 u t H1 locs ht hvm hw170 hB hz1 hk1 hS => ?_)
          obtain ⟨en2170, td2170⟩ := u
          obtain ⟨hP1, hK1, hD1⟩ := hB
          rw [ht] at hP1
          try dsimp only at hw170 hP1 hD1
          obtain ⟨hP, hD⟩ := va_join (wr := [(kw, .inl (cI, 400, .inl (fun j => nI (lt j)))), (kf, .inl (cZ, 401, .inl (fun j => nI (bN ((va_up g 0 false) j)))))]) (w1 := [(m0, .inr (3, [.ref kt, .ref kp, .ref kw, .int (nI tl), .int (nI L), .int (nI wn), .int (nI en2170), .int (nI td2170), .ref kf])), (kp, .inl (cI, 400, .inl (fun j => nI (a j))))]) hP hD [0, 1] [2, 3] rfl rfl (by decide) (by decide) hk1 hFc hP1 hD1
          generalize H1 = H at hP hS ⊢
          have hP : va_P (dC, dI) vwCl [(kw, .inl (cI, 400, .inl (fun j => nI (lt j)))), (kf, .inl (cZ, 401, .inl (fun j => nI (bN ((va_up g 0 false) j))))), (m0, .inr (3, [.ref kt, .ref kp, .ref kw, .int (nI tl), .int (nI L), .int (nI wn), .int (nI en2170), .int (nI td2170), .ref kf])), (kp, .inl (cI, 400, .inl (fun j => nI (a j))))] H := hP
          have hD : va_D A [(kw, .inl (cI, 400, .inl (fun j => nI (lt j)))), (kf, .inl (cZ, 401, .inl (fun j => nI (bN ((va_up g 0 false) j))))), (m0, .inr (3, [.ref kt, .ref kp, .ref kw, .int (nI tl), .int (nI L), .int (nI wn), .int (nI en2170), .int (nI td2170), .ref kf])), (kp, .inl (cI, 400, .inl (fun j => nI (a j))))] := hD
          obtain ⟨rfl, hw170⟩ := hw170
          refine lv_pop hx hb dM_reckon_173 rfl ?_
          refine lv_aload_n hx hb dM_reckon_174 rfl (lv_at hl 0 rfl) ?_
          refine va_get (D := (dC, dI)) (ci := 3) (v := .int (nI (min (thn a L at_) L))) (C := RX3) (T := TX3) (N := 9) hx hb hts (by decide +kernel) hown hK hP 2 rfl rfl 6 (by decide) (hts (.fieldLink RX3 44 "WildCardsModel" "end" "I") (by decide +kernel)) (fun _ h9 => h9) rfl dM_reckon_175 ?_
          refine lv_istore_n (lv' := [(3, .int (nI (min (thn a L at_) L))), (0, .ref m0), (1, .int (nI fr)), (2, .int (nI n)), (4, .int (nI jj))]) hx hb dM_reckon_178 rfl hl (by decide) rfl (fun ls hl => ?_)
          refine lv_goto (tgt := 29) hx hb dM_reckon_179 (by decide) ?_
          exact ih29 (min (thn a L at_) L, rr + 1, ts ++ [thv a L at_], va_up g 0 false, min (thn a L at_) L, td2170) H locs ls ⟨(show (rr + 1) ≤ (min (thn a L at_) L) from rk_en hr0 c34), (show (min (thn a L at_) L) ≤ L from Nat.min_le_right _ _), (show ths a L L 0 = (ts ++ [thv a L at_]) ++ ths a L (L - (rr + 1)) (min (thn a L at_) L) from rk_to hr0 hths c34), (show ∀ i, i ≤ n → (va_up g 0 false) i = fz (ts ++ [thv a L at_]) (fun j => lt (fr + j)) i from rk_f c45 (fun i h1 h2 => hd2 i (by omega) h2)), hP.sub [2, 3, 0, 1] rfl, hD.sub [2, 3, 0, 1] (by decide) rfl, hS, lv_sub hl [1, 2, 3, 0] rfl⟩ (by have := thn_le a c34; (try dsimp only); omega)
        · skip
          refine lv_aload_n hx hb dM_reckon_111 rfl (lv_at hl 0 rfl) ?_
          refine va_get (D := (dC, dI)) (ci := 3) (v := .ref kf) (C := RX3) (T := TX3) (N := 9) hx hb hts (by decide +kernel) hown hK hP 0 rfl rfl 8 (by decide) (hts (.fieldLink RX3 19 "WildCardsModel" "fit" "[Z") (by decide +kernel)) (fun _ h9 => h9) rfl dM_reckon_112 ?_
          refine lv_iload hx hb dM_reckon_115 (lv_at hl 4 rfl) ?_
          refine lv_aload_n hx hb dM_reckon_117 rfl (lv_at hl 0 rfl) ?_
          refine va_get (D := (dC, dI)) (ci := 3) (v := .ref kf) (C := RX3) (T := TX3) (N := 9) hx hb hts (by decide +kernel) hown hK hP 0 rfl rfl 8 (by decide) (hts (.fieldLink RX3 19 "WildCardsModel" "fit" "[Z") (by decide +kernel)) (fun _ h9 => h9) rfl dM_reckon_118 ?_
          refine lv_iload hx hb dM_reckon_121 (lv_at hl 4 rfl) ?_
          refine lv_iconst (v := nI 1) hx hb dM_reckon_123 (by decide) ?_
          refine lv_isub hx hb dM_reckon_124 ?_
          refine wl_asi (y := nI (jj - 1)) (pk_sub (by omega)) ?_
          refine va_zald hx hb hK hP 3 2 rfl rfl (vp_in_nI (by omega) (by omega)) dM_reckon_125 ?_
          refine wl_asi (y := nI (bN (g (jj - 1)))) (by rw [nI_clamp (by omega)]) ?_
          refine wl_if_eq (tgt := 152) hx hb dM_reckon_126 (by decide) (by omega) (fun c126 => ?_) (fun c126 => ?_)
          · skip
            refine lv_iconst (v := nI 0) hx hb dM_reckon_152 (by decide) ?_
            refine va_zast hx hb hK hP hD hS 3 2 rfl rfl (vp_in_nI (by omega) (by omega)) dM_reckon_153 (fun H locs hP hD hS => ?_)
            rw [nI_clamp (by omega)] at hP hD
            rw [wl_updB0] at hP hD
            have hP : va_P (dC, dI) vwCl [(m0, .inr (3, [.ref kt, .ref kp, .ref kw, .int (nI tl), .int (nI L), .int (nI wn), .int (nI en), .int (nI td), .ref kf])), (kp, .inl (cI, 400, .inl (fun j => nI (a j)))), (kw, .inl (cI, 400, .inl (fun j => nI (lt j)))), (kf, .inl (cZ, 401, .inl (fun j => nI (bN ((va_up g jj false) j)))))] H := hP
            have hD : va_D A [(m0, .inr (3, [.ref kt, .ref kp, .ref kw, .int (nI tl), .int (nI L), .int (nI wn), .int (nI en), .int (nI td), .ref kf])), (kp, .inl (cI, 400, .inl (fun j => nI (a j)))), (kw, .inl (cI, 400, .inl (fun j => nI (lt j)))), (kf, .inl (cZ, 401, .inl (fun j => nI (bN ((va_up g jj false) j)))))] := hD
            refine lv_iinc (v := nI (jj - 1)) (lv' := [(4, .int (nI (jj - 1))), (0, .ref m0), (1, .int (nI fr)), (2, .int (nI n)), (3, .int (nI at_))]) hx hb dM_reckon_154 hl (k := 4) rfl (wl_dec c108) (by decide) rfl (fun ls hl => ?_)
            refine lv_goto (tgt := 106) hx hb dM_reckon_157 (by decide) ?_
            exact ih106 (jj - 1, va_up g jj false, en, td) H locs ls ⟨(show (jj - 1) ≤ n from by omega), (show ∀ i, i ≤ (jj - 1) → (va_up g jj false) i = fz ts (fun j => lt (fr + j)) i from fun i hi => by rw [va_up_ne _ _ (by omega)]; exact hd1 i (by omega)), (show ∀ i, (jj - 1) < i → i ≤ n → (va_up g jj false) i = fz (ts ++ [thv a L at_]) (fun j => lt (fr + j)) i from rk_d0 c108 c45 hd1 hd2 (bN_z c126)), hP.sub [0, 1, 2, 3] rfl, hD.sub [0, 1, 2, 3] (by decide) rfl, hS, lv_sub hl [1, 2, 3, 4, 0] rfl⟩ (by (try dsimp only); omega)
          · skip
            refine lv_aload_n hx hb dM_reckon_129 rfl (lv_at hl 0 rfl) ?_
            refine lv_iload_n hx hb dM_reckon_130 rfl (lv_at hl 3 rfl) ?_
            refine lv_aload_n hx hb dM_reckon_131 rfl (lv_at hl 0 rfl) ?_
            refine va_get (D := (dC, dI)) (ci := 3) (v := .ref kw) (C := RX3) (T := TX3) (N := 9) hx hb hts (by decide +kernel) hown hK hP 0 rfl rfl 2 (by decide) (hts (.fieldLink RX3 16 "WildCardsModel" "word" "[I") (by decide +kernel)) (fun _ h9 => h9) rfl dM_reckon_132 ?_
            refine lv_iload_n hx hb dM_reckon_135 rfl (lv_at hl 1 rfl) ?_
            refine lv_iload hx hb dM_reckon_136 (lv_at hl 4 rfl) ?_
            refine lv_iadd hx hb dM_reckon_138 ?_
            refine wl_asi (y := nI (fr + jj)) (nI_add _ _) ?_
            refine lv_iconst (v := nI 1) hx hb dM_reckon_139 (by decide) ?_
            refine lv_isub hx hb dM_reckon_140 ?_
            refine wl_asi (y := nI ((fr + jj) - 1)) (pk_sub (by omega)) ?_
            refine va_iald hx hb hK hP 2 0 rfl rfl (vp_in_nI (by omega) (by omega)) dM_reckon_141 ?_
            refine wl_asi (y := nI (lt ((fr + jj) - 1))) (by rw [nI_clamp (by omega)]) ?_
            have h12 := hlt (fr + jj - 1) (by omega)
            have hPc := hP.sub (ws' := [(m0, .inr (3, [.ref kt, .ref kp, .ref kw, .int (nI tl), .int (nI L), .int (nI wn), .int (nI en), .int (nI td), .ref kf])), (kp, .inl (cI, 400, .inl (fun j => nI (a j))))]) [0, 1] rfl
            have hDc := hD.sub (ws' := [(m0, .inr (3, [.ref kt, .ref kp, .ref kw, .int (nI tl), .int (nI L), .int (nI wn), .int (nI en), .int (nI td), .ref kf])), (kp, .inl (cI, 400, .inl (fun j => nI (a j))))]) [0, 1] (by decide) rfl
            have hFc := va_free (wc := [(m0, .inr (3, [.ref kt, .ref kp, .ref kw, .int (nI tl), .int (nI L), .int (nI wn), .int (nI en), .int (nI td), .ref kf])), (kp, .inl (cI, 400, .inl (fun j => nI (a j))))]) hD hS hA [0, 1] rfl
            refine va_calli (va_runV (As := [.int (nI at_), .int (nI (lt ((fr + jj) - 1)))]) (rest := [.int (nI jj), .ref kf]) ⟨hx, hb, hml, hown, hts⟩ (c_M_suits l dC dI cI cJ cZ m0 kt kp kw kf H.size tl L wn en td a at_ (lt ((fr + jj) - 1)) hL ha c34 h12 c45) (cwV 2 hts gM_reckon_M_suits rfl rfl rfl (by decide +kernel) ⟨Nat.le_of_ble_eq_true rfl, Nat.le_of_ble_eq_true rfl⟩) ⟨fun a U g mk q => by obtain ⟨q0, q1, qP, qK, qD⟩ := q; exact ⟨q0, q1, qP, va_K.moved (u := U) (U := U.calling g mk a) (Vm.Alike.refl U.vm) qK, qD⟩, va_recv hK hPc (ci := 3) (q0 := 0) rfl rfl, fun U hU hW => ⟨rfl, by rw [hU], by rw [hU]; exact hPc, va_K.moved hW.alike hK, hDc.weaken (fun _ _ _ _ => trivial)⟩⟩ rfl rfl hl.1 rfl (lv_room (Nat.le_of_ble_eq_true rfl)) dM_reckon_142 ⟨show 0 + 0 ≤ 0 from by decide, show 0 + 0 ≤ 0 from by decide⟩) hS (fun q _ h => hFc q h) hFc (fun r142 u t H1 locs ht hvm hw142 hB hz1 hk1 hS => ?_)
            obtain ⟨en2142, td2142⟩ := u
            obtain ⟨hP1, hK1, hD1⟩ := hB
            rw [ht] at hP1
            try dsimp only at hw142 hP1 hD1
            obtain ⟨hP, hD⟩ := va_join (wr := [(kw, .inl (cI, 400, .inl (fun j => nI (lt j)))), (kf, .inl (cZ, 401, .inl (fun j => nI (bN (g j)))))]) (w1 := [(m0, .inr (3, [.ref kt, .ref kp, .ref kw, .int (nI tl), .int (nI L), .int (nI wn), .int (nI en2142), .int (nI td2142), .ref kf])), (kp, .inl (cI, 400, .inl (fun j => nI (a j))))]) hP hD [0, 1] [2, 3] rfl rfl (by decide) (by decide) hk1 hFc hP1 hD1
            generalize H1 = H at hP hS ⊢
            have hP : va_P (dC, dI) vwCl [(kw, .inl (cI, 400, .inl (fun j => nI (lt j)))), (kf, .inl (cZ, 401, .inl (fun j => nI (bN (g j))))), (m0, .inr (3, [.ref kt, .ref kp, .ref kw, .int (nI tl), .int (nI L), .int (nI wn), .int (nI en2142), .int (nI td2142), .ref kf])), (kp, .inl (cI, 400, .inl (fun j => nI (a j))))] H := hP
            have hD : va_D A [(kw, .inl (cI, 400, .inl (fun j => nI (lt j)))), (kf, .inl (cZ, 401, .inl (fun j => nI (bN (g j))))), (m0, .inr (3, [.ref kt, .ref kp, .ref kw, .int (nI tl), .int (nI L), .int (nI wn), .int (nI en2142), .int (nI td2142), .ref kf])), (kp, .inl (cI, 400, .inl (fun j => nI (a j))))] := hD
            by_cases hs9 : sut a L at_ (lt (fr + jj - 1)) = true
            · skip
              refine wl_asi (y := nI 1) (by rw [hw142.2, if_pos hs9]; rfl) ?_
              refine lv_if_eq (tgt := 152) hx hb dM_reckon_145 (by decide) (fun c145 => ?_) (fun c145 => ?_)
              · first | exact absurd c145 (by decide) | exact absurd (by decide) c145
              · skip
                refine lv_iconst (v := nI 1) hx hb dM_reckon_148 (by decide) ?_
                refine lv_goto (tgt := 153) hx hb dM_reckon_149 (by decide) ?_
                refine va_zast hx hb hK hP hD hS 1 2 rfl rfl (vp_in_nI (by omega) (by omega)) dM_reckon_153 (fun H locs hP hD hS => ?_)
                rw [nI_clamp (by omega)] at hP hD
                rw [wl_updB1] at hP hD
                have hP : va_P (dC, dI) vwCl [(kw, .inl (cI, 400, .inl (fun j => nI (lt j)))), (kf, .inl (cZ, 401, .inl (fun j => nI (bN ((va_up g jj true) j))))), (m0, .inr (3, [.ref kt, .ref kp, .ref kw, .int (nI tl), .int (nI L), .int (nI wn), .int (nI en2142), .int (nI td2142), .ref kf])), (kp, .inl (cI, 400, .inl (fun j => nI (a j))))] H := hP
                have hD : va_D A [(kw, .inl (cI, 400, .inl (fun j => nI (lt j)))), (kf, .inl (cZ, 401, .inl (fun j => nI (bN ((va_up g jj true) j))))), (m0, .inr (3, [.ref kt, .ref kp, .ref kw, .int (nI tl), .int (nI L), .int (nI wn), .int (nI en2142), .int (nI td2142), .ref kf])), (kp, .inl (cI, 400, .inl (fun j => nI (a j))))] := hD
                refine lv_iinc (v := nI (jj - 1)) (lv' := [(4, .int (nI (jj - 1))), (0, .ref m0), (1, .int (nI fr)), (2, .int (nI n)), (3, .int (nI at_))]) hx hb dM_reckon_154 hl (k := 4) rfl (wl_dec c108) (by decide) rfl (fun ls hl => ?_)
                refine lv_goto (tgt := 106) hx hb dM_reckon_157 (by decide) ?_
                exact ih106 (jj - 1, va_up g jj true, en2142, td2142) H locs ls ⟨(show (jj - 1) ≤ n from by omega), (show ∀ i, i ≤ (jj - 1) → (va_up g jj true) i = fz ts (fun j => lt (fr + j)) i from fun i hi => by rw [va_up_ne _ _ (by omega)]; exact hd1 i (by omega)), (show ∀ i, (jj - 1) < i → i ≤ n → (va_up g jj true) i = fz (ts ++ [thv a L at_]) (fun j => lt (fr + j)) i from rk_d1 c108 c45 hd1 hd2 (bN_nz c126) hs9), hP.sub [2, 3, 0, 1] rfl, hD.sub [2, 3, 0, 1] (by decide) rfl, hS, lv_sub hl [1, 2, 3, 4, 0] rfl⟩ (by (try dsimp only); omega)
            · skip
              refine wl_asi (y := nI 0) (by rw [hw142.2, if_neg hs9]; rfl) ?_
              refine lv_if_eq (tgt := 152) hx hb dM_reckon_145 (by decide) (fun c145 => ?_) (fun c145 => ?_)
              rotate_left
              · first | exact absurd c145 (by decide) | exact absurd (by decide) c145
              · skip
                refine lv_iconst (v := nI 0) hx hb dM_reckon_152 (by decide) ?_
                refine va_zast hx hb hK hP hD hS 1 2 rfl rfl (vp_in_nI (by omega) (by omega)) dM_reckon_153 (fun H locs hP hD hS => ?_)
                rw [nI_clamp (by omega)] at hP hD
                rw [wl_updB0] at hP hD
                have hP : va_P (dC, dI) vwCl [(kw, .inl (cI, 400, .inl (fun j => nI (lt j)))), (kf, .inl (cZ, 401, .inl (fun j => nI (bN ((va_up g jj false) j))))), (m0, .inr (3, [.ref kt, .ref kp, .ref kw, .int (nI tl), .int (nI L), .int (nI wn), .int (nI en2142), .int (nI td2142), .ref kf])), (kp, .inl (cI, 400, .inl (fun j => nI (a j))))] H := hP
                have hD : va_D A [(kw, .inl (cI, 400, .inl (fun j => nI (lt j)))), (kf, .inl (cZ, 401, .inl (fun j => nI (bN ((va_up g jj false) j))))), (m0, .inr (3, [.ref kt, .ref kp, .ref kw, .int (nI tl), .int (nI L), .int (nI wn), .int (nI en2142), .int (nI td2142), .ref kf])), (kp, .inl (cI, 400, .inl (fun j => nI (a j))))] := hD
                refine lv_iinc (v := nI (jj - 1)) (lv' := [(4, .int (nI (jj - 1))), (0, .ref m0), (1, .int (nI fr)), (2, .int (nI n)), (3, .int (nI at_))]) hx hb dM_reckon_154 hl (k := 4) rfl (wl_dec c108) (by decide) rfl (fun ls hl => ?_)
                refine lv_goto (tgt := 106) hx hb dM_reckon_157 (by decide) ?_
                exact ih106 (jj - 1, va_up g jj false, en2142, td2142) H locs ls ⟨(show (jj - 1) ≤ n from by omega), (show ∀ i, i ≤ (jj - 1) → (va_up g jj false) i = fz ts (fun j => lt (fr + j)) i from fun i hi => by rw [va_up_ne _ _ (by omega)]; exact hd1 i (by omega)), (show ∀ i, (jj - 1) < i → i ≤ n → (va_up g jj false) i = fz (ts ++ [thv a L at_]) (fun j => lt (fr + j)) i from rk_d2 c108 c45 hd1 hd2 hs9), hP.sub [2, 3, 0, 1] rfl, hD.sub [2, 3, 0, 1] (by decide) rfl, hS, lv_sub hl [1, 2, 3, 4, 0] rfl⟩ (by (try dsimp only); omega)
      · skip
        refine lv_iconst (v := nI 1) hx hb dM_reckon_48 (by decide) ?_
        refine lv_istore (lv' := [(4, .int (nI 1)), (0, .ref m0), (1, .int (nI fr)), (2, .int (nI n)), (3, .int (nI at_))]) hx hb dM_reckon_49 hl (by decide) rfl (fun ls hl => ?_)
        refine wl_loop (σ := Nat × (Nat → Bool)) (fun z9 => n + 1 - z9.1) (fun z9 H locs ls => (1 ≤ z9.1) ∧ (z9.1 ≤ n + 1) ∧ (∀ i, i < z9.1 → i ≤ n → z9.2 i = fz (ts ++ [none]) (fun j => lt (fr + j)) i) ∧ (∀ i, z9.1 ≤ i → i ≤ n → z9.2 i = fz ts (fun j => lt (fr + j)) i) ∧ va_P (dC, dI) vwCl [(m0, .inr (3, [.ref kt, .ref kp, .ref kw, .int (nI tl), .int (nI L), .int (nI wn), .int (nI en), .int (nI td), .ref kf])), (kp, .inl (cI, 400, .inl (fun j => nI (a j)))), (kw, .inl (cI, 400, .inl (fun j => nI (lt j)))), (kf, .inl (cZ, 401, .inl (fun j => nI (bN (z9.2 j)))))] H ∧ va_D A [(m0, .inr (3, [.ref kt, .ref kp, .ref kw, .int (nI tl), .int (nI L), .int (nI wn), .int (nI en), .int (nI td), .ref kf])), (kp, .inl (cI, 400, .inl (fun j => nI (a j)))), (kw, .inl (cI, 400, .inl (fun j => nI (lt j)))), (kf, .inl (cZ, 401, .inl (fun j => nI (bN (z9.2 j)))))] ∧ va_S A s.heap H locs ∧ lv_has ls 5 [(0, .ref m0), (1, .int (nI fr)), (2, .int (nI n)), (3, .int (nI at_)), (4, .int (nI z9.1))]) ?_ (1, G) ⟨(show 1 ≤ (1) from Nat.le_refl _), (show (1) ≤ n + 1 from by omega), (show ∀ i, i < (1) → i ≤ n → G i = fz (ts ++ [none]) (fun j => lt (fr + j)) i from rk_s0 hG), (show ∀ i, (1) ≤ i → i ≤ n → G i = fz ts (fun j => lt (fr + j)) i from fun i _ h => hG i h), hP.sub [0, 1, 2, 3] rfl, hD.sub [0, 1, 2, 3] (by decide) rfl, hS, lv_sub hl [1, 2, 3, 4, 0] rfl⟩
        intro z9 H locs ls hI ih51
        obtain ⟨jj, g⟩ := z9
        obtain ⟨hj1, hj, hs1, hs2, hP, hD, hS, hl⟩ := hI
        try dsimp only at hj1 hj hs1 hs2 hP hD hl
        have hP : va_P (dC, dI) vwCl [(m0, .inr (3, [.ref kt, .ref kp, .ref kw, .int (nI tl), .int (nI L), .int (nI wn), .int (nI en), .int (nI td), .ref kf])), (kp, .inl (cI, 400, .inl (fun j => nI (a j)))), (kw, .inl (cI, 400, .inl (fun j => nI (lt j)))), (kf, .inl (cZ, 401, .inl (fun j => nI (bN (g j)))))] H := hP
        have hD : va_D A [(m0, .inr (3, [.ref kt, .ref kp, .ref kw, .int (nI tl), .int (nI L), .int (nI wn), .int (nI en), .int (nI td), .ref kf])), (kp, .inl (cI, 400, .inl (fun j => nI (a j)))), (kw, .inl (cI, 400, .inl (fun j => nI (lt j)))), (kf, .inl (cZ, 401, .inl (fun j => nI (bN (g j)))))] := hD
        have hl : lv_has ls 5 [(0, .ref m0), (1, .int (nI fr)), (2, .int (nI n)), (3, .int (nI at_)), (4, .int (nI jj))] := hl
        have hb1 := bN_lt (g jj)
        have hb2 := bN_lt (g (jj - 1))
        refine lv_iload hx hb dM_reckon_51 (lv_at hl 4 rfl) ?_
        refine lv_iload_n hx hb dM_reckon_53 rfl (lv_at hl 2 rfl) ?_
        refine wl_icmp_gt (tgt := 97) hx hb dM_reckon_54 (by decide) (by omega) (by omega) (fun c54 => ?_) (fun c54 => ?_)
        · skip
          refine lv_iinc (v := nI (at_ + 1)) (lv' := [(3, .int (nI (at_ + 1))), (0, .ref m0), (1, .int (nI fr)), (2, .int (nI n)), (4, .int (nI jj))]) hx hb dM_reckon_97 hl (k := 3) rfl (wl_inc _ _ (by decide)) (by decide) rfl (fun ls hl => ?_)
          refine lv_goto (tgt := 29) hx hb dM_reckon_100 (by decide) ?_
          exact ih29 (at_ + 1, rr + 1, ts ++ [none], g, en, td) H locs ls ⟨(show (rr + 1) ≤ (at_ + 1) from by omega), (show (at_ + 1) ≤ L from by omega), (show ths a L L 0 = (ts ++ [none]) ++ ths a L (L - (rr + 1)) (at_ + 1) from rk_ts hr0 hths c34 c45), (show ∀ i, i ≤ n → g i = fz (ts ++ [none]) (fun j => lt (fr + j)) i from fun i hi => hs1 i (by omega) hi), hP.sub [0, 1, 2, 3] rfl, hD.sub [0, 1, 2, 3] (by decide) rfl, hS, lv_sub hl [1, 2, 3, 0] rfl⟩ (by (try dsimp only); omega)
        · skip
          refine lv_aload_n hx hb dM_reckon_57 rfl (lv_at hl 0 rfl) ?_
          refine va_get (D := (dC, dI)) (ci := 3) (v := .ref kf) (C := RX3) (T := TX3) (N := 9) hx hb hts (by decide +kernel) hown hK hP 0 rfl rfl 8 (by decide) (hts (.fieldLink RX3 19 "WildCardsModel" "fit" "[Z") (by decide +kernel)) (fun _ h9 => h9) rfl dM_reckon_58 ?_
          refine lv_iload hx hb dM_reckon_61 (lv_at hl 4 rfl) ?_
          refine lv_aload_n hx hb dM_reckon_63 rfl (lv_at hl 0 rfl) ?_
          refine va_get (D := (dC, dI)) (ci := 3) (v := .ref kf) (C := RX3) (T := TX3) (N := 9) hx hb hts (by decide +kernel) hown hK hP 0 rfl rfl 8 (by decide) (hts (.fieldLink RX3 19 "WildCardsModel" "fit" "[Z") (by decide +kernel)) (fun _ h9 => h9) rfl dM_reckon_64 ?_
          refine lv_iload hx hb dM_reckon_67 (lv_at hl 4 rfl) ?_
          refine va_zald hx hb hK hP 3 2 rfl rfl (vp_in_nI (by omega) (by omega)) dM_reckon_69 ?_
          refine wl_asi (y := nI (bN (g jj))) (by rw [nI_clamp (by omega)]) ?_
          refine wl_if_ne (tgt := 85) hx hb dM_reckon_70 (by decide) (by omega) (fun c70 => ?_) (fun c70 => ?_)
          · skip
            refine lv_iconst (v := nI 1) hx hb dM_reckon_85 (by decide) ?_
            refine lv_goto (tgt := 90) hx hb dM_reckon_86 (by decide) ?_
            refine va_zast hx hb hK hP hD hS 3 2 rfl rfl (vp_in_nI (by omega) (by omega)) dM_reckon_90 (fun H locs hP hD hS => ?_)
            rw [nI_clamp (by omega)] at hP hD
            rw [wl_updB1] at hP hD
            have hP : va_P (dC, dI) vwCl [(m0, .inr (3, [.ref kt, .ref kp, .ref kw, .int (nI tl), .int (nI L), .int (nI wn), .int (nI en), .int (nI td), .ref kf])), (kp, .inl (cI, 400, .inl (fun j => nI (a j)))), (kw, .inl (cI, 400, .inl (fun j => nI (lt j)))), (kf, .inl (cZ, 401, .inl (fun j => nI (bN ((va_up g jj true) j)))))] H := hP
            have hD : va_D A [(m0, .inr (3, [.ref kt, .ref kp, .ref kw, .int (nI tl), .int (nI L), .int (nI wn), .int (nI en), .int (nI td), .ref kf])), (kp, .inl (cI, 400, .inl (fun j => nI (a j)))), (kw, .inl (cI, 400, .inl (fun j => nI (lt j)))), (kf, .inl (cZ, 401, .inl (fun j => nI (bN ((va_up g jj true) j)))))] := hD
            refine lv_iinc (v := nI (jj + 1)) (lv' := [(4, .int (nI (jj + 1))), (0, .ref m0), (1, .int (nI fr)), (2, .int (nI n)), (3, .int (nI at_))]) hx hb dM_reckon_91 hl (k := 4) rfl (wl_inc _ _ (by decide)) (by decide) rfl (fun ls hl => ?_)
            refine lv_goto (tgt := 51) hx hb dM_reckon_94 (by decide) ?_
            exact ih51 (jj + 1, va_up g jj true) H locs ls ⟨(show 1 ≤ (jj + 1) from by omega), (show (jj + 1) ≤ n + 1 from by omega), (show ∀ i, i < (jj + 1) → i ≤ n → (va_up g jj true) i = fz (ts ++ [none]) (fun j => lt (fr + j)) i from rk_s1 hj1 (by omega) hs1 hs2 (Or.inl (bN_nz c70))), (show ∀ i, (jj + 1) ≤ i → i ≤ n → (va_up g jj true) i = fz ts (fun j => lt (fr + j)) i from fun i h1 h2 => by rw [va_up_ne _ _ (by omega)]; exact hs2 i (by omega) h2), hP.sub [0, 1, 2, 3] rfl, hD.sub [0, 1, 2, 3] (by decide) rfl, hS, lv_sub hl [1, 2, 3, 4, 0] rfl⟩ (by (try dsimp only); omega)
          · skip
            refine lv_aload_n hx hb dM_reckon_73 rfl (lv_at hl 0 rfl) ?_
            refine va_get (D := (dC, dI)) (ci := 3) (v := .ref kf) (C := RX3) (T := TX3) (N := 9) hx hb hts (by decide +kernel) hown hK hP 0 rfl rfl 8 (by decide) (hts (.fieldLink RX3 19 "WildCardsModel" "fit" "[Z") (by decide +kernel)) (fun _ h9 => h9) rfl dM_reckon_74 ?_
            refine lv_iload hx hb dM_reckon_77 (lv_at hl 4 rfl) ?_
            refine lv_iconst (v := nI 1) hx hb dM_reckon_79 (by decide) ?_
            refine lv_isub hx hb dM_reckon_80 ?_
            refine wl_asi (y := nI (jj - 1)) (pk_sub (by omega)) ?_
            refine va_zald hx hb hK hP 3 2 rfl rfl (vp_in_nI (by omega) (by omega)) dM_reckon_81 ?_
            refine wl_asi (y := nI (bN (g (jj - 1)))) (by rw [nI_clamp (by omega)]) ?_
            refine wl_if_eq (tgt := 89) hx hb dM_reckon_82 (by decide) (by omega) (fun c82 => ?_) (fun c82 => ?_)
            · skip
              refine lv_iconst (v := nI 0) hx hb dM_reckon_89 (by decide) ?_
              refine va_zast hx hb hK hP hD hS 3 2 rfl rfl (vp_in_nI (by omega) (by omega)) dM_reckon_90 (fun H locs hP hD hS => ?_)
              rw [nI_clamp (by omega)] at hP hD
              rw [wl_updB0] at hP hD
              have hP : va_P (dC, dI) vwCl [(m0, .inr (3, [.ref kt, .ref kp, .ref kw, .int (nI tl), .int (nI L), .int (nI wn), .int (nI en), .int (nI td), .ref kf])), (kp, .inl (cI, 400, .inl (fun j => nI (a j)))), (kw, .inl (cI, 400, .inl (fun j => nI (lt j)))), (kf, .inl (cZ, 401, .inl (fun j => nI (bN ((va_up g jj false) j)))))] H := hP
              have hD : va_D A [(m0, .inr (3, [.ref kt, .ref kp, .ref kw, .int (nI tl), .int (nI L), .int (nI wn), .int (nI en), .int (nI td), .ref kf])), (kp, .inl (cI, 400, .inl (fun j => nI (a j)))), (kw, .inl (cI, 400, .inl (fun j => nI (lt j)))), (kf, .inl (cZ, 401, .inl (fun j => nI (bN ((va_up g jj false) j)))))] := hD
              refine lv_iinc (v := nI (jj + 1)) (lv' := [(4, .int (nI (jj + 1))), (0, .ref m0), (1, .int (nI fr)), (2, .int (nI n)), (3, .int (nI at_))]) hx hb dM_reckon_91 hl (k := 4) rfl (wl_inc _ _ (by decide)) (by decide) rfl (fun ls hl => ?_)
              refine lv_goto (tgt := 51) hx hb dM_reckon_94 (by decide) ?_
              exact ih51 (jj + 1, va_up g jj false) H locs ls ⟨(show 1 ≤ (jj + 1) from by omega), (show (jj + 1) ≤ n + 1 from by omega), (show ∀ i, i < (jj + 1) → i ≤ n → (va_up g jj false) i = fz (ts ++ [none]) (fun j => lt (fr + j)) i from rk_s2 hj1 (by omega) hs1 hs2 (bN_z c70) (bN_z c82)), (show ∀ i, (jj + 1) ≤ i → i ≤ n → (va_up g jj false) i = fz ts (fun j => lt (fr + j)) i from fun i h1 h2 => by rw [va_up_ne _ _ (by omega)]; exact hs2 i (by omega) h2), hP.sub [0, 1, 2, 3] rfl, hD.sub [0, 1, 2, 3] (by decide) rfl, hS, lv_sub hl [1, 2, 3, 4, 0] rfl⟩ (by (try dsimp only); omega)
            · skip
              refine lv_iconst (v := nI 1) hx hb dM_reckon_85 (by decide) ?_
              refine lv_goto (tgt := 90) hx hb dM_reckon_86 (by decide) ?_
              refine va_zast hx hb hK hP hD hS 3 2 rfl rfl (vp_in_nI (by omega) (by omega)) dM_reckon_90 (fun H locs hP hD hS => ?_)
              rw [nI_clamp (by omega)] at hP hD
              rw [wl_updB1] at hP hD
              have hP : va_P (dC, dI) vwCl [(m0, .inr (3, [.ref kt, .ref kp, .ref kw, .int (nI tl), .int (nI L), .int (nI wn), .int (nI en), .int (nI td), .ref kf])), (kp, .inl (cI, 400, .inl (fun j => nI (a j)))), (kw, .inl (cI, 400, .inl (fun j => nI (lt j)))), (kf, .inl (cZ, 401, .inl (fun j => nI (bN ((va_up g jj true) j)))))] H := hP
              have hD : va_D A [(m0, .inr (3, [.ref kt, .ref kp, .ref kw, .int (nI tl), .int (nI L), .int (nI wn), .int (nI en), .int (nI td), .ref kf])), (kp, .inl (cI, 400, .inl (fun j => nI (a j)))), (kw, .inl (cI, 400, .inl (fun j => nI (lt j)))), (kf, .inl (cZ, 401, .inl (fun j => nI (bN ((va_up g jj true) j)))))] := hD
              refine lv_iinc (v := nI (jj + 1)) (lv' := [(4, .int (nI (jj + 1))), (0, .ref m0), (1, .int (nI fr)), (2, .int (nI n)), (3, .int (nI at_))]) hx hb dM_reckon_91 hl (k := 4) rfl (wl_inc _ _ (by decide)) (by decide) rfl (fun ls hl => ?_)
              refine lv_goto (tgt := 51) hx hb dM_reckon_94 (by decide) ?_
              exact ih51 (jj + 1, va_up g jj true) H locs ls ⟨(show 1 ≤ (jj + 1) from by omega), (show (jj + 1) ≤ n + 1 from by omega), (show ∀ i, i < (jj + 1) → i ≤ n → (va_up g jj true) i = fz (ts ++ [none]) (fun j => lt (fr + j)) i from rk_s1 hj1 (by omega) hs1 hs2 (Or.inr (bN_nz c82))), (show ∀ i, (jj + 1) ≤ i → i ≤ n → (va_up g jj true) i = fz ts (fun j => lt (fr + j)) i from fun i h1 h2 => by rw [va_up_ne _ _ (by omega)]; exact hs2 i (by omega) h2), hP.sub [0, 1, 2, 3] rfl, hD.sub [0, 1, 2, 3] (by decide) rfl, hS, lv_sub hl [1, 2, 3, 4, 0] rfl⟩ (by (try dsimp only); omega)
  · skip
    refine lv_aload_n hx hb dM_reckon_14 rfl (lv_at hl 0 rfl) ?_
    refine va_get (D := (dC, dI)) (ci := 3) (v := .ref kf) (C := RX3) (T := TX3) (N := 9) hx hb hts (by decide +kernel) hown hK hP 0 rfl rfl 8 (by decide) (hts (.fieldLink RX3 19 "WildCardsModel" "fit" "[Z") (by decide +kernel)) (fun _ h9 => h9) rfl dM_reckon_15 ?_
    refine lv_iload_n hx hb dM_reckon_18 rfl (lv_at hl 3 rfl) ?_
    refine lv_iconst (v := nI 0) hx hb dM_reckon_19 (by decide) ?_
    refine va_zast hx hb hK hP hD hS 3 2 rfl rfl (vp_in_nI (by omega) (by omega)) dM_reckon_20 (fun H locs hP hD hS => ?_)
    rw [nI_clamp (by omega)] at hP hD
    rw [wl_updB0] at hP hD
    have hP : va_P (dC, dI) vwCl [(m0, .inr (3, [.ref kt, .ref kp, .ref kw, .int (nI tl), .int (nI L), .int (nI wn), .int (nI en), .int (nI td), .ref kf])), (kp, .inl (cI, 400, .inl (fun j => nI (a j)))), (kw, .inl (cI, 400, .inl (fun j => nI (lt j)))), (kf, .inl (cZ, 401, .inl (fun j => nI (bN ((va_up g jj false) j)))))] H := hP
    have hD : va_D A [(m0, .inr (3, [.ref kt, .ref kp, .ref kw, .int (nI tl), .int (nI L), .int (nI wn), .int (nI en), .int (nI td), .ref kf])), (kp, .inl (cI, 400, .inl (fun j => nI (a j)))), (kw, .inl (cI, 400, .inl (fun j => nI (lt j)))), (kf, .inl (cZ, 401, .inl (fun j => nI (bN ((va_up g jj false) j)))))] := hD
    refine lv_iinc (v := nI (jj + 1)) (lv' := [(3, .int (nI (jj + 1))), (0, .ref m0), (1, .int (nI fr)), (2, .int (nI n))]) hx hb dM_reckon_21 hl (k := 3) rfl (wl_inc _ _ (by decide)) (by decide) rfl (fun ls hl => ?_)
    refine lv_goto (tgt := 9) hx hb dM_reckon_24 (by decide) ?_
    exact ih9 (jj + 1, va_up g jj false) H locs ls ⟨(show 1 ≤ (jj + 1) from by omega), (show (jj + 1) ≤ n + 1 from by omega), (show ∀ i, i < (jj + 1) → (va_up g jj false) i = decide (i = 0) from rk_z hj1 hg), hP.sub [0, 1, 2, 3] rfl, hD.sub [0, 1, 2, 3] (by decide) rfl, hS, lv_sub hl [1, 2, 3, 0] rfl⟩ (by (try dsimp only); omega)
