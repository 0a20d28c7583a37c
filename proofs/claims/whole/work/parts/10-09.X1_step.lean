set_option maxHeartbeats 4000000 in
set_option maxRecDepth 100000 in
theorem c_X1_step (l : Launch) (dC : Nat → ClassId) (dI : Nat → Nat → Nat) (cI cJ cZ : ClassId) (hT qT qL qR : Nat) (sz : Nat) (cnt : Nat) (fT : Nat → Int64) (fL : Nat → Int64) (fR : Nat → Int64) (x : Nat) (hx8 : x < 256) : Met l yX1_step wsX1_step ({ frames := 0, cells := 0, slots := 0, locals := 0 }) (va_Pc [.ref hT, .int (nI x)] (fun U => U.heap.size = sz ∧ va_P (dC, dI) vwCl [(hT, .inr (1, [.ref qT, .ref qL, .ref qR, .int (nI cnt)])), (qT, .inl (cJ, 1792, .inr (.inl fT))), (qL, .inl (cJ, 7, .inr (.inl fL))), (qR, .inl (cJ, 7, .inr (.inl fR)))] U.heap ∧ va_K (dC, dI) vwCl [(cI, .int), (cJ, .long), (cZ, .boolean)] U ∧ va_D (fun _ => True) [(hT, .inr (1, [.ref qT, .ref qL, .ref qR, .int (nI cnt)])), (qT, .inl (cJ, 1792, .inr (.inl fT))), (qL, .inl (cJ, 7, .inr (.inl fL))), (qR, .inl (cJ, 7, .inr (.inl fR)))])) (va_Qv (fun (u : (Nat → Int64)) => ∀ k, k < 448 → lb u k = stp fR fT fL x k) (fun (u : (Nat → Int64)) (t : State) => va_P (dC, dI) vwCl [(hT, .inr (1, [.ref qT, .ref qL, .ref qR, .int (nI cnt)])), (qT, .inl (cJ, 1792, .inr (.inl fT))), (qL, .inl (cJ, 7, .inr (.inl fL))), (qR, .inl (cJ, 7, .inr (.inl u)))] t.heap ∧ va_K (dC, dI) vwCl [(cI, .int), (cJ, .long), (cZ, .boolean)] t ∧ va_D (va_A [(hT, .inr (1, [.ref qT, .ref qL, .ref qR, .int (nI cnt)])), (qT, .inl (cJ, 1792, .inr (.inl fT))), (qL, .inl (cJ, 7, .inr (.inl fL))), (qR, .inl (cJ, 7, .inr (.inl fR)))] sz) [(hT, .inr (1, [.ref qT, .ref qL, .ref qR, .int (nI cnt)])), (qT, .inl (cJ, 1792, .inr (.inl fT))), (qL, .inl (cJ, 7, .inr (.inl fL))), (qR, .inl (cJ, 7, .inr (.inl u)))]) (va_A [(hT, .inr (1, [.ref qT, .ref qL, .ref qR, .int (nI cnt)])), (qT, .inl (cJ, 1792, .inr (.inl fT))), (qL, .inl (cJ, 7, .inr (.inl fL))), (qR, .inl (cJ, 7, .inr (.inl fR)))] sz)) 0 0 (va_A [(hT, .inr (1, [.ref qT, .ref qL, .ref qR, .int (nI cnt)])), (qT, .inl (cJ, 1792, .inr (.inl fT))), (qL, .inl (cJ, 7, .inr (.inl fL))), (qR, .inl (cJ, 7, .inr (.inl fR)))] sz) := by
  refine Met.ofW (cc := cX1_step) (maxL := 10) (ret := none) (by decide) rfl ?_
  intro p e s m args below meth c s₁ B hml hv
  obtain ⟨rfl, hsz, hP, hK, hD0⟩ := hv
  have hx := B.exec
  have hb := B.bytes
  have hr := B.returns
  have hts := atoms_spec (ws := wsX1_step) B.pre
  have hown : s.vm.findClass RX1 = some m.cls := findClass_of_methodNamed B.named
  have hlocks := B.notSynchronized
  subst hsz
  have hD := hD0.self (sz := s.heap.size)
  generalize hAe : va_A [(hT, .inr (1, [.ref qT, .ref qL, .ref qR, .int (nI cnt)])), (qT, .inl (cJ, 1792, .inr (.inl fT))), (qL, .inl (cJ, 7, .inr (.inl fL))), (qR, .inl (cJ, 7, .inr (.inl fR)))] s.heap.size = A at hD ⊢
  have hA : ∀ q : Nat, s.heap.size ≤ q → A q := fun q h => by rw [← hAe]; exact Or.inr h
  have hS : va_S A s.heap s.heap [] := va_S.rf
  have hP : va_P (dC, dI) vwCl [(hT, .inr (1, [.ref qT, .ref qL, .ref qR, .int (nI cnt)])), (qT, .inl (cJ, 1792, .inr (.inl fT))), (qL, .inl (cJ, 7, .inr (.inl fL))), (qR, .inl (cJ, 7, .inr (.inl fR)))] s.heap := hP
  have hl := lv_entry ([.ref hT, .int (nI x)]) (n := 10) (Nat.le_of_ble_eq_true rfl)
  rw [lg_entry_eq]
  generalize (lg_sl ([.ref hT, .int (nI x)]) ++ List.replicate (10 - (lg_sl ([.ref hT, .int (nI x)])).length) Slot.unset).toArray = ls at hl ⊢
  have hl : lv_has ls 10 [(0, .ref hT), (1, .int (nI x))] := hl
  skip
  refine lv_iload_n hx hb dX1_step_0 rfl (lv_at hl 1 rfl) ?_
  refine lv_sipush (v := nI 255) hx hb dX1_step_1 (by decide) ?_
  refine lv_iand hx hb dX1_step_4 ?_
  refine wl_asi (y := nI x) (by rw [pk_andN (by omega) 8 rfl, Nat.mod_eq_of_lt hx8]) ?_
  refine lv_bipush (v := nI 7) hx hb dX1_step_5 (by decide) ?_
  refine lv_imul hx hb dX1_step_7 ?_
  refine wl_asi (y := nI (x * 7)) (pk_mul _ _) ?_
  refine lv_istore_n (lv' := [(2, .int (nI (x * 7))), (0, .ref hT), (1, .int (nI x))]) hx hb dX1_step_8 rfl hl (by decide) rfl (fun ls hl => ?_)
  refine lv_lconst (v := 0) hx hb dX1_step_9 (by decide) ?_
  refine lv_lstore_n (lv' := [(3, .long 0), (2, .int (nI (x * 7))), (0, .ref hT), (1, .int (nI x))]) hx hb dX1_step_10 rfl hl (by decide) rfl (fun ls hl => ?_)
  refine lv_iconst (v := nI 0) hx hb dX1_step_11 (by decide) ?_
  refine lv_istore (lv' := [(5, .int (nI 0)), (3, .long 0), (2, .int (nI (x * 7))), (0, .ref hT), (1, .int (nI x))]) hx hb dX1_step_12 hl (by decide) rfl (fun ls hl => ?_)
  refine wl_loop (σ := Nat × (Nat → Int64) × Int64) (fun z9 => 7 - z9.1) (fun z9 H locs ls => (z9.1 ≤ 7) ∧ (∀ k, k < 64 * z9.1 → lb z9.2.1 k = stp fR fT fL x k) ∧ (∀ j, z9.1 ≤ j → j < 7 → z9.2.1 j = fR j) ∧ (∀ j, j < 64 → (z9.2.2 : Int64).toBitVec.getLsbD j = (decide (j = 0) && crb fR fT x z9.1)) ∧ va_P (dC, dI) vwCl [(hT, .inr (1, [.ref qT, .ref qL, .ref qR, .int (nI cnt)])), (qT, .inl (cJ, 1792, .inr (.inl fT))), (qL, .inl (cJ, 7, .inr (.inl fL))), (qR, .inl (cJ, 7, .inr (.inl z9.2.1)))] H ∧ va_D A [(hT, .inr (1, [.ref qT, .ref qL, .ref qR, .int (nI cnt)])), (qT, .inl (cJ, 1792, .inr (.inl fT))), (qL, .inl (cJ, 7, .inr (.inl fL))), (qR, .inl (cJ, 7, .inr (.inl z9.2.1)))] ∧ va_S A s.heap H locs ∧ lv_has ls 10 [(0, .ref hT), (1, .int (nI x)), (2, .int (nI (x * 7))), (3, .long z9.2.2), (5, .int (nI z9.1))]) ?_ (0, fR, 0) ⟨(show (0) ≤ 7 from Nat.zero_le _), (show ∀ k, k < 64 * (0) → lb fR k = stp fR fT fL x k from fun k hk => absurd hk (by omega)), (show ∀ j, (0) ≤ j → j < 7 → fR j = fR j from fun j _ _ => rfl), (show ∀ j, j < 64 → ((0) : Int64).toBitVec.getLsbD j = (decide (j = 0) && crb fR fT x (0)) from fun j _ => by rw [show crb fR fT x 0 = false from rfl, Bool.and_false]; exact BitVec.getLsbD_zero), hP.sub [0, 1, 2, 3] rfl, hD.sub [0, 1, 2, 3] (by decide) rfl, hS, lv_sub hl [3, 4, 2, 1, 0] rfl⟩
  intro z9 H locs ls hI ih14
  obtain ⟨i, g, cr⟩ := z9
  obtain ⟨hi, h1, h2, hc, hP, hD, hS, hl⟩ := hI
  try dsimp only at hi h1 h2 hc hP hD hl
  have hP : va_P (dC, dI) vwCl [(hT, .inr (1, [.ref qT, .ref qL, .ref qR, .int (nI cnt)])), (qT, .inl (cJ, 1792, .inr (.inl fT))), (qL, .inl (cJ, 7, .inr (.inl fL))), (qR, .inl (cJ, 7, .inr (.inl g)))] H := hP
  have hD : va_D A [(hT, .inr (1, [.ref qT, .ref qL, .ref qR, .int (nI cnt)])), (qT, .inl (cJ, 1792, .inr (.inl fT))), (qL, .inl (cJ, 7, .inr (.inl fL))), (qR, .inl (cJ, 7, .inr (.inl g)))] := hD
  have hl : lv_has ls 10 [(0, .ref hT), (1, .int (nI x)), (2, .int (nI (x * 7))), (3, .long cr), (5, .int (nI i))] := hl
  refine lv_iload hx hb dX1_step_14 (lv_at hl 4 rfl) ?_
  refine lv_bipush (v := nI 7) hx hb dX1_step_16 (by decide) ?_
  refine wl_icmp_ge (tgt := 85) hx hb dX1_step_18 (by decide) (by omega) (by omega) (fun c18 => ?_) (fun c18 => ?_)
  · skip
    have hP9 := hP.sub (ws' := [(hT, .inr (1, [.ref qT, .ref qL, .ref qR, .int (nI cnt)])), (qT, .inl (cJ, 1792, .inr (.inl fT))), (qL, .inl (cJ, 7, .inr (.inl fL))), (qR, .inl (cJ, 7, .inr (.inl g)))]) [0, 1, 2, 3] rfl
    have hD9 := hD.sub (ws' := [(hT, .inr (1, [.ref qT, .ref qL, .ref qR, .int (nI cnt)])), (qT, .inl (cJ, 1792, .inr (.inl fT))), (qL, .inl (cJ, 7, .inr (.inl fL))), (qR, .inl (cJ, 7, .inr (.inl g)))]) [0, 1, 2, 3] (by decide) rfl
    exact W.vret hx hb hr (fun t ht hW => ⟨⟨g, rfl, (show ∀ k, k < 448 → lb g k = stp fR fT fL x k from fun k hk => h1 k (by omega)), by rw [ht]; exact hP9, va_K.moved hW.alike hK, hD9⟩, hS.F ht⟩) hS.2.2 dX1_step_85
  · skip
    refine lv_aload_n hx hb dX1_step_21 rfl (lv_at hl 0 rfl) ?_
    refine va_get (D := (dC, dI)) (ci := 1) (v := .ref qR) (C := RX1) (T := TX1) (N := 4) hx hb hts (by decide +kernel) hown hK hP 0 rfl rfl 2 (by decide) (hts (.fieldLink RX1 18 "WildCards$Things" "reached" "[J") (by decide +kernel)) (fun _ h9 => h9) rfl dX1_step_22 ?_
    refine lv_iload hx hb dX1_step_25 (lv_at hl 4 rfl) ?_
    refine va_lald hx hb hK hP 3 1 rfl rfl (vp_in_nI (by omega) (by omega)) dX1_step_27 ?_
    refine wl_asl (y := g i) (by rw [nI_clamp (by omega)]) ?_
    refine lv_aload_n hx hb dX1_step_28 rfl (lv_at hl 0 rfl) ?_
    refine va_get (D := (dC, dI)) (ci := 1) (v := .ref qT) (C := RX1) (T := TX1) (N := 4) hx hb hts (by decide +kernel) hown hK hP 0 rfl rfl 0 (by decide) (hts (.fieldLink RX1 11 "WildCards$Things" "takers" "[J") (by decide +kernel)) (fun _ h9 => h9) rfl dX1_step_29 ?_
    refine lv_iload_n hx hb dX1_step_32 rfl (lv_at hl 2 rfl) ?_
    refine lv_iload hx hb dX1_step_33 (lv_at hl 4 rfl) ?_
    refine lv_iadd hx hb dX1_step_35 ?_
    refine wl_asi (y := nI ((x * 7) + i)) (nI_add _ _) ?_
    refine va_lald hx hb hK hP 1 1 rfl rfl (vp_in_nI (by omega) (by omega)) dX1_step_36 ?_
    refine wl_asl (y := fT ((x * 7) + i)) (by rw [nI_clamp (by omega)]) ?_
    refine lv_land hx hb dX1_step_37 ?_
    refine lv_topl (fun mv emv => ?_)
    refine lv_lstore (lv' := [(6, .long mv), (0, .ref hT), (1, .int (nI x)), (2, .int (nI (x * 7))), (3, .long cr), (5, .int (nI i))]) hx hb dX1_step_38 hl (by decide) rfl (fun ls hl => ?_)
    refine lv_aload_n hx hb dX1_step_40 rfl (lv_at hl 1 rfl) ?_
    refine va_get (D := (dC, dI)) (ci := 1) (v := .ref qR) (C := RX1) (T := TX1) (N := 4) hx hb hts (by decide +kernel) hown hK hP 0 rfl rfl 2 (by decide) (hts (.fieldLink RX1 18 "WildCards$Things" "reached" "[J") (by decide +kernel)) (fun _ h9 => h9) rfl dX1_step_41 ?_
    refine lv_iload hx hb dX1_step_44 (lv_at hl 5 rfl) ?_
    refine va_lald hx hb hK hP 3 1 rfl rfl (vp_in_nI (by omega) (by omega)) dX1_step_46 ?_
    refine wl_asl (y := g i) (by rw [nI_clamp (by omega)]) ?_
    refine lv_aload_n hx hb dX1_step_47 rfl (lv_at hl 1 rfl) ?_
    refine va_get (D := (dC, dI)) (ci := 1) (v := .ref qL) (C := RX1) (T := TX1) (N := 4) hx hb hts (by decide +kernel) hown hK hP 0 rfl rfl 1 (by decide) (hts (.fieldLink RX1 15 "WildCards$Things" "loops" "[J") (by decide +kernel)) (fun _ h9 => h9) rfl dX1_step_48 ?_
    refine lv_iload hx hb dX1_step_51 (lv_at hl 5 rfl) ?_
    refine va_lald hx hb hK hP 2 1 rfl rfl (vp_in_nI (by omega) (by omega)) dX1_step_53 ?_
    refine wl_asl (y := fL i) (by rw [nI_clamp (by omega)]) ?_
    refine lv_land hx hb dX1_step_54 ?_
    refine lv_topl (fun sy esy => ?_)
    refine lv_lstore (lv' := [(8, .long sy), (6, .long mv), (0, .ref hT), (1, .int (nI x)), (2, .int (nI (x * 7))), (3, .long cr), (5, .int (nI i))]) hx hb dX1_step_55 hl (by decide) rfl (fun ls hl => ?_)
    refine lv_aload_n hx hb dX1_step_57 rfl (lv_at hl 2 rfl) ?_
    refine va_get (D := (dC, dI)) (ci := 1) (v := .ref qR) (C := RX1) (T := TX1) (N := 4) hx hb hts (by decide +kernel) hown hK hP 0 rfl rfl 2 (by decide) (hts (.fieldLink RX1 18 "WildCards$Things" "reached" "[J") (by decide +kernel)) (fun _ h9 => h9) rfl dX1_step_58 ?_
    refine lv_iload hx hb dX1_step_61 (lv_at hl 6 rfl) ?_
    refine lv_lload hx hb dX1_step_63 (lv_at hl 1 rfl) ?_
    refine lv_iconst (v := nI 1) hx hb dX1_step_65 (by decide) ?_
    refine lv_lshl (v := mv <<< ((nI 1).toInt64 &&& 63)) hx hb dX1_step_66 rfl ?_
    refine lv_lload_n hx hb dX1_step_67 rfl (lv_at hl 5 rfl) ?_
    refine lv_lor hx hb dX1_step_68 ?_
    refine lv_lload hx hb dX1_step_69 (lv_at hl 0 rfl) ?_
    refine lv_lor hx hb dX1_step_71 ?_
    refine va_last hx hb hK hP hD hS 3 1 rfl rfl (vp_in_nI (by omega) (by omega)) dX1_step_72 (fun H locs hP hD hS => ?_)
    rw [nI_clamp (by omega)] at hP hD
    have hP : va_P (dC, dI) vwCl [(hT, .inr (1, [.ref qT, .ref qL, .ref qR, .int (nI cnt)])), (qT, .inl (cJ, 1792, .inr (.inl fT))), (qL, .inl (cJ, 7, .inr (.inl fL))), (qR, .inl (cJ, 7, .inr (.inl (vp_updL g i (((mv <<< ((nI 1).toInt64 &&& 63)) ||| cr) ||| sy)))))] H := hP
    have hD : va_D A [(hT, .inr (1, [.ref qT, .ref qL, .ref qR, .int (nI cnt)])), (qT, .inl (cJ, 1792, .inr (.inl fT))), (qL, .inl (cJ, 7, .inr (.inl fL))), (qR, .inl (cJ, 7, .inr (.inl (vp_updL g i (((mv <<< ((nI 1).toInt64 &&& 63)) ||| cr) ||| sy)))))] := hD
    refine lv_lload hx hb dX1_step_73 (lv_at hl 1 rfl) ?_
    refine lv_bipush (v := nI 63) hx hb dX1_step_75 (by decide) ?_
    refine lv_lushr (v := (mv.toUInt64 >>> ((nI 63).toInt64.toUInt64 &&& Int64.toUInt64 63)).toInt64) hx hb dX1_step_77 rfl ?_
    refine lv_lstore_n (lv' := [(3, .long ((mv.toUInt64 >>> ((nI 63).toInt64.toUInt64 &&& Int64.toUInt64 63)).toInt64)), (8, .long sy), (6, .long mv), (0, .ref hT), (1, .int (nI x)), (2, .int (nI (x * 7))), (5, .int (nI i))]) hx hb dX1_step_78 rfl hl (by decide) rfl (fun ls hl => ?_)
    refine lv_iinc (v := nI (i + 1)) (lv' := [(5, .int (nI (i + 1))), (3, .long ((mv.toUInt64 >>> ((nI 63).toInt64.toUInt64 &&& Int64.toUInt64 63)).toInt64)), (8, .long sy), (6, .long mv), (0, .ref hT), (1, .int (nI x)), (2, .int (nI (x * 7)))]) hx hb dX1_step_79 hl (k := 6) rfl (wl_inc _ _ (by decide)) (by decide) rfl (fun ls hl => ?_)
    refine lv_goto (tgt := 14) hx hb dX1_step_82 (by decide) ?_
    exact ih14 (i + 1, vp_updL g i (((mv <<< ((nI 1).toInt64 &&& 63)) ||| cr) ||| sy), (mv.toUInt64 >>> ((nI 63).toInt64.toUInt64 &&& Int64.toUInt64 63)).toInt64) H locs ls ⟨(show (i + 1) ≤ 7 from by omega), (show ∀ k, k < 64 * (i + 1) → lb (vp_updL g i (((mv <<< ((nI 1).toInt64 &&& 63)) ||| cr) ||| sy)) k = stp fR fT fL x k from st_in h1 (fun j hj => st_new (h2 i (Nat.le_refl _) (by omega)) emv esy hc hj)), (show ∀ j, (i + 1) ≤ j → j < 7 → (vp_updL g i (((mv <<< ((nI 1).toInt64 &&& 63)) ||| cr) ||| sy)) j = fR j from st_keep h2), (show ∀ j, j < 64 → (((mv.toUInt64 >>> ((nI 63).toInt64.toUInt64 &&& Int64.toUInt64 63)).toInt64) : Int64).toBitVec.getLsbD j = (decide (j = 0) && crb fR fT x (i + 1)) from st_cr (h2 i (Nat.le_refl _) (by omega)) emv), hP.sub [0, 1, 2, 3] rfl, hD.sub [0, 1, 2, 3] (by decide) rfl, hS, lv_sub hl [4, 5, 6, 1, 0] rfl⟩ (by (try dsimp only); omega)
