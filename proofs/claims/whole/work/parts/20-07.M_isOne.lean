set_option maxHeartbeats 4000000 in
set_option maxRecDepth 100000 in
theorem c_M_isOne (l : Launch) (dC : Nat → ClassId) (dI : Nat → Nat → Nat) (cI cJ cZ : ClassId) (m0 kt kp kw kf : Nat) (sz : Nat) (tl : Nat) (L : Nat) (wn : Nat) (en : Nat) (td : Nat) (a : Nat → Nat) (ix : Nat) (x : Nat) (hL : L ≤ 400) (ha : ∀ j, j < L → a j < 256) (hat : ix < L) (hx8 : x < 256) : Met l yM_isOne wsM_isOne ({ frames := 1, cells := 0, slots := 0, locals := 21 }) (va_Pc [.ref m0, .int (nI ix), .int (nI x)] (fun U => U.heap.size = sz ∧ va_P (dC, dI) vwCl [(m0, .inr (3, [.ref kt, .ref kp, .ref kw, .int (nI tl), .int (nI L), .int (nI wn), .int (nI en), .int (nI td), .ref kf])), (kp, .inl (cI, 400, .inl (fun j => nI (a j))))] U.heap ∧ va_K (dC, dI) vwCl [(cI, .int), (cJ, .long), (cZ, .boolean)] U ∧ va_D (fun _ => True) [(m0, .inr (3, [.ref kt, .ref kp, .ref kw, .int (nI tl), .int (nI L), .int (nI wn), .int (nI en), .int (nI td), .ref kf])), (kp, .inl (cI, 400, .inl (fun j => nI (a j))))])) (va_Qi (fun (r : Int32) (u : Nat × Nat) => u.1 = min (brn a L (ix + 1)) L ∧ r = if brs a L (ix + 1) x = true then 1 else 0) (fun (u : Nat × Nat) (t : State) => va_P (dC, dI) vwCl [(m0, .inr (3, [.ref kt, .ref kp, .ref kw, .int (nI tl), .int (nI L), .int (nI wn), .int (nI u.1), .int (nI u.2), .ref kf])), (kp, .inl (cI, 400, .inl (fun j => nI (a j))))] t.heap ∧ va_K (dC, dI) vwCl [(cI, .int), (cJ, .long), (cZ, .boolean)] t ∧ va_D (va_A [(m0, .inr (3, [.ref kt, .ref kp, .ref kw, .int (nI tl), .int (nI L), .int (nI wn), .int (nI en), .int (nI td), .ref kf])), (kp, .inl (cI, 400, .inl (fun j => nI (a j))))] sz) [(m0, .inr (3, [.ref kt, .ref kp, .ref kw, .int (nI tl), .int (nI L), .int (nI wn), .int (nI u.1), .int (nI u.2), .ref kf])), (kp, .inl (cI, 400, .inl (fun j => nI (a j))))]) (va_A [(m0, .inr (3, [.ref kt, .ref kp, .ref kw, .int (nI tl), .int (nI L), .int (nI wn), .int (nI en), .int (nI td), .ref kf])), (kp, .inl (cI, 400, .inl (fun j => nI (a j))))] sz)) 0 0 (va_A [(m0, .inr (3, [.ref kt, .ref kp, .ref kw, .int (nI tl), .int (nI L), .int (nI wn), .int (nI en), .int (nI td), .ref kf])), (kp, .inl (cI, 400, .inl (fun j => nI (a j))))] sz) := by
  refine Met.ofW (cc := cM_isOne) (maxL := 8) (ret := (some .boolean)) (by decide) rfl ?_
  intro p e s m args below meth c s₁ B hml hv
  obtain ⟨rfl, hsz, hP, hK, hD0⟩ := hv
  have hx := B.exec
  have hb := B.bytes
  have hr := B.returns
  have hts := atoms_spec (ws := wsM_isOne) B.pre
  have hown : s.vm.findClass RX3 = some m.cls := findClass_of_methodNamed B.named
  have hlocks := B.notSynchronized
  subst hsz
  have hD := hD0.self (sz := s.heap.size)
  generalize hAe : va_A [(m0, .inr (3, [.ref kt, .ref kp, .ref kw, .int (nI tl), .int (nI L), .int (nI wn), .int (nI en), .int (nI td), .ref kf])), (kp, .inl (cI, 400, .inl (fun j => nI (a j))))] s.heap.size = A at hD ⊢
  have hA : ∀ q : Nat, s.heap.size ≤ q → A q := fun q h => by rw [← hAe]; exact Or.inr h
  have hS : va_S A s.heap s.heap [] := va_S.rf
  have hP : va_P (dC, dI) vwCl [(m0, .inr (3, [.ref kt, .ref kp, .ref kw, .int (nI tl), .int (nI L), .int (nI wn), .int (nI en), .int (nI td), .ref kf])), (kp, .inl (cI, 400, .inl (fun j => nI (a j))))] s.heap := hP
  have hl := lv_entry ([.ref m0, .int (nI ix), .int (nI x)]) (n := 8) (Nat.le_of_ble_eq_true rfl)
  rw [lg_entry_eq]
  generalize (lg_sl ([.ref m0, .int (nI ix), .int (nI x)]) ++ List.replicate (8 - (lg_sl ([.ref m0, .int (nI ix), .int (nI x)])).length) Slot.unset).toArray = ls at hl ⊢
  have hl : lv_has ls 8 [(0, .ref m0), (1, .int (nI ix)), (2, .int (nI x))] := hl
  skip
  refine lv_iload_n hx hb dM_isOne_0 rfl (lv_at hl 1 rfl) ?_
  refine lv_iconst (v := nI 1) hx hb dM_isOne_1 (by decide) ?_
  refine lv_iadd hx hb dM_isOne_2 ?_
  refine wl_asi (y := nI (ix + 1)) (nI_add _ _) ?_
  refine lv_istore_n (lv' := [(3, .int (nI (ix + 1))), (0, .ref m0), (1, .int (nI ix)), (2, .int (nI x))]) hx hb dM_isOne_3 rfl hl (by decide) rfl (fun ls hl => ?_)
  refine lv_iload_n hx hb dM_isOne_4 rfl (lv_at hl 0 rfl) ?_
  refine lv_aload_n hx hb dM_isOne_5 rfl (lv_at hl 1 rfl) ?_
  refine va_get (D := (dC, dI)) (ci := 3) (v := .int (nI L)) (C := RX3) (T := TX3) (N := 9) hx hb hts (by decide +kernel) hown hK hP 0 rfl rfl 4 (by decide) (hts (.fieldLink RX3 31 "WildCardsModel" "size" "I") (by decide +kernel)) (fun _ h9 => h9) rfl dM_isOne_6 ?_
  refine wl_icmp_ge (tgt := 27) hx hb dM_isOne_9 (by decide) (by omega) (by omega) (fun c9 => ?_) (fun c9 => ?_)
  · skip
    refine lv_iconst (v := nI 0) hx hb dM_isOne_27 (by decide) ?_
    refine lv_istore (lv' := [(4, .int (nI 0)), (3, .int (nI (ix + 1))), (0, .ref m0), (1, .int (nI ix)), (2, .int (nI x))]) hx hb dM_isOne_28 hl (by decide) rfl (fun ls hl => ?_)
    refine lv_iload_n hx hb dM_isOne_30 rfl (lv_at hl 1 rfl) ?_
    refine lv_iload hx hb dM_isOne_31 (lv_at hl 0 rfl) ?_
    refine lv_if_eq (tgt := 40) hx hb dM_isOne_33 (by decide) (fun c33 => ?_) (fun c33 => ?_)
    rotate_left
    · first | exact absurd c33 (by decide) | exact absurd (by decide) c33
    · skip
      refine lv_iconst (v := nI 0) hx hb dM_isOne_40 (by decide) ?_
      refine lv_iadd hx hb dM_isOne_41 ?_
      refine wl_asi (y := nI ((ix + 1) + 0)) (nI_add _ _) ?_
      refine lv_istore_n (lv' := [(3, .int (nI ((ix + 1) + 0))), (4, .int (nI 0)), (0, .ref m0), (1, .int (nI ix)), (2, .int (nI x))]) hx hb dM_isOne_42 rfl hl (by decide) rfl (fun ls hl => ?_)
      refine lv_iconst (v := nI 0) hx hb dM_isOne_43 (by decide) ?_
      refine lv_istore (lv' := [(5, .int (nI 0)), (3, .int (nI ((ix + 1) + 0))), (4, .int (nI 0)), (0, .ref m0), (1, .int (nI ix)), (2, .int (nI x))]) hx hb dM_isOne_44 hl (by decide) rfl (fun ls hl => ?_)
      have hi1 : ix + 1 ≤ L := by omega
      refine wl_loop (σ := Nat × Nat × Bool × Nat) (fun z9 => L - z9.2.1) (fun z9 H locs ls => (z9.1 ≤ z9.2.1) ∧ (z9.2.1 ≤ L) ∧ (MI a L x (ix + 1) z9.1 z9.2.1 z9.2.2.1) ∧ va_P (dC, dI) vwCl [(m0, .inr (3, [.ref kt, .ref kp, .ref kw, .int (nI tl), .int (nI L), .int (nI wn), .int (nI en), .int (nI z9.2.2.2), .ref kf])), (kp, .inl (cI, 400, .inl (fun j => nI (a j))))] H ∧ va_D A [(m0, .inr (3, [.ref kt, .ref kp, .ref kw, .int (nI tl), .int (nI L), .int (nI wn), .int (nI en), .int (nI z9.2.2.2), .ref kf])), (kp, .inl (cI, 400, .inl (fun j => nI (a j))))] ∧ va_S A s.heap H locs ∧ lv_has ls 8 [(0, .ref m0), (1, .int (nI ix)), (2, .int (nI x)), (3, .int (nI z9.2.1)), (4, .int (nI 0)), (5, .int (nI (bN z9.2.2.1)))]) ?_ (0, ix + 1, false, td) ⟨(show (0) ≤ (ix + 1) from Nat.zero_le _), (show (ix + 1) ≤ L from by omega), (show MI a L x (ix + 1) (0) (ix + 1) false from MI_0 _ _ _ _), hP.sub [0, 1] rfl, hD.sub [0, 1] (by decide) rfl, hS, lv_sub hl [3, 4, 5, 1, 2, 0] rfl⟩
      intro z9 H locs ls hI ih46
      obtain ⟨rr, k, q, td⟩ := z9
      obtain ⟨hr0, hk, hMI, hP, hD, hS, hl⟩ := hI
      try dsimp only at hr0 hk hMI hP hD hl
      have hP : va_P (dC, dI) vwCl [(m0, .inr (3, [.ref kt, .ref kp, .ref kw, .int (nI tl), .int (nI L), .int (nI wn), .int (nI en), .int (nI td), .ref kf])), (kp, .inl (cI, 400, .inl (fun j => nI (a j))))] H := hP
      have hD : va_D A [(m0, .inr (3, [.ref kt, .ref kp, .ref kw, .int (nI tl), .int (nI L), .int (nI wn), .int (nI en), .int (nI td), .ref kf])), (kp, .inl (cI, 400, .inl (fun j => nI (a j))))] := hD
      have hl : lv_has ls 8 [(0, .ref m0), (1, .int (nI ix)), (2, .int (nI x)), (3, .int (nI k)), (4, .int (nI 0)), (5, .int (nI (bN q)))] := hl
      have hq := bN_lt q
      refine lv_iload_n hx hb dM_isOne_46 rfl (lv_at hl 3 rfl) ?_
      refine lv_aload_n hx hb dM_isOne_47 rfl (lv_at hl 0 rfl) ?_
      refine va_get (D := (dC, dI)) (ci := 3) (v := .int (nI L)) (C := RX3) (T := TX3) (N := 9) hx hb hts (by decide +kernel) hown hK hP 0 rfl rfl 4 (by decide) (hts (.fieldLink RX3 31 "WildCardsModel" "size" "I") (by decide +kernel)) (fun _ h9 => h9) rfl dM_isOne_48 ?_
      refine wl_icmp_ge (tgt := 156) hx hb dM_isOne_51 (by decide) (by omega) (by omega) (fun c51 => ?_) (fun c51 => ?_)
      · skip
        refine lv_aload_n hx hb dM_isOne_156 rfl (lv_at hl 0 rfl) ?_
        refine lv_iload_n hx hb dM_isOne_157 rfl (lv_at hl 3 rfl) ?_
        refine lv_aload_n hx hb dM_isOne_158 rfl (lv_at hl 0 rfl) ?_
        refine va_get (D := (dC, dI)) (ci := 3) (v := .int (nI L)) (C := RX3) (T := TX3) (N := 9) hx hb hts (by decide +kernel) hown hK hP 0 rfl rfl 4 (by decide) (hts (.fieldLink RX3 31 "WildCardsModel" "size" "I") (by decide +kernel)) (fun _ h9 => h9) rfl dM_isOne_159 ?_
        refine wl_icmp_ge (tgt := 171) hx hb dM_isOne_162 (by decide) (by omega) (by omega) (fun c162 => ?_) (fun c162 => ?_)
        · skip
          refine lv_iload_n hx hb dM_isOne_171 rfl (lv_at hl 3 rfl) ?_
          refine va_put (D := (dC, dI)) (ci := 3) (v := .int (nI k)) (ty := .int) (C := RX3) (T := TX3) (N := 9) hx hb hts (by decide +kernel) tyX3 tyX3_ok nmX3 hown hK hP hD hS 0 rfl rfl 6 (by decide) (hts (.fieldLink RX3 44 "WildCardsModel" "end" "I") (by decide +kernel)) (fun _ h9 => h9) rfl (by decide +kernel) rfl rfl (Nat.le_of_ble_eq_true rfl) dM_isOne_172 (fun H locs hP hD hS => ?_)
          have hP : va_P (dC, dI) vwCl [(m0, .inr (3, [.ref kt, .ref kp, .ref kw, .int (nI tl), .int (nI L), .int (nI wn), .int (nI k), .int (nI td), .ref kf])), (kp, .inl (cI, 400, .inl (fun j => nI (a j))))] H := hP
          have hD : va_D A [(m0, .inr (3, [.ref kt, .ref kp, .ref kw, .int (nI tl), .int (nI L), .int (nI wn), .int (nI k), .int (nI td), .ref kf])), (kp, .inl (cI, 400, .inl (fun j => nI (a j))))] := hD
          refine lv_iload hx hb dM_isOne_175 (lv_at hl 5 rfl) ?_
          refine lv_iload hx hb dM_isOne_177 (lv_at hl 4 rfl) ?_
          refine wl_icmp_eq (tgt := 186) hx hb dM_isOne_179 (by decide) (by omega) (by omega) (fun c179 => ?_) (fun c179 => ?_)
          · skip
            refine lv_iconst (v := nI 0) hx hb dM_isOne_186 (by decide) ?_
            have hP9 := hP.sub (ws' := [(m0, .inr (3, [.ref kt, .ref kp, .ref kw, .int (nI tl), .int (nI L), .int (nI wn), .int (nI k), .int (nI td), .ref kf])), (kp, .inl (cI, 400, .inl (fun j => nI (a j))))]) [0, 1] rfl
            have hD9 := hD.sub (ws' := [(m0, .inr (3, [.ref kt, .ref kp, .ref kw, .int (nI tl), .int (nI L), .int (nI wn), .int (nI k), .int (nI td), .ref kf])), (kp, .inl (cI, 400, .inl (fun j => nI (a j))))]) [0, 1] (by decide) rfl
            exact W.zret (v := nI 0) hx hb hr (by decide) (fun t ht hW => ⟨⟨nI 0, (k, td), rfl, (show k = min (brn a L (ix + 1)) L ∧ (nI 0) = if brs a L (ix + 1) x = true then 1 else 0 from ⟨br_n0b hk (brg_a (by omega)) (MI_e hMI (bnd_1 c51)).1 c162, br_r0s (brg_a (by omega)) (MI_e hMI (bnd_1 c51)).2 c179⟩), by rw [ht]; exact hP9, va_K.moved hW.alike hK, hD9⟩, hS.F ht⟩) hS.2.2 dM_isOne_187
          · skip
            refine lv_iconst (v := nI 1) hx hb dM_isOne_182 (by decide) ?_
            refine lv_goto (tgt := 187) hx hb dM_isOne_183 (by decide) ?_
            have hP9 := hP.sub (ws' := [(m0, .inr (3, [.ref kt, .ref kp, .ref kw, .int (nI tl), .int (nI L), .int (nI wn), .int (nI k), .int (nI td), .ref kf])), (kp, .inl (cI, 400, .inl (fun j => nI (a j))))]) [0, 1] rfl
            have hD9 := hD.sub (ws' := [(m0, .inr (3, [.ref kt, .ref kp, .ref kw, .int (nI tl), .int (nI L), .int (nI wn), .int (nI k), .int (nI td), .ref kf])), (kp, .inl (cI, 400, .inl (fun j => nI (a j))))]) [0, 1] (by decide) rfl
            exact W.zret (v := nI 1) hx hb hr (by decide) (fun t ht hW => ⟨⟨nI 1, (k, td), rfl, (show k = min (brn a L (ix + 1)) L ∧ (nI 1) = if brs a L (ix + 1) x = true then 1 else 0 from ⟨br_n0b hk (brg_a (by omega)) (MI_e hMI (bnd_1 c51)).1 c162, br_r0d (brg_a (by omega)) (MI_e hMI (bnd_1 c51)).2 c179⟩), by rw [ht]; exact hP9, va_K.moved hW.alike hK, hD9⟩, hS.F ht⟩) hS.2.2 dM_isOne_187
        · skip
          refine lv_iload_n hx hb dM_isOne_165 rfl (lv_at hl 3 rfl) ?_
          refine lv_iconst (v := nI 1) hx hb dM_isOne_166 (by decide) ?_
          refine lv_iadd hx hb dM_isOne_167 ?_
          refine wl_asi (y := nI (k + 1)) (nI_add _ _) ?_
          refine lv_goto (tgt := 172) hx hb dM_isOne_168 (by decide) ?_
          refine va_put (D := (dC, dI)) (ci := 3) (v := .int (nI (k + 1))) (ty := .int) (C := RX3) (T := TX3) (N := 9) hx hb hts (by decide +kernel) tyX3 tyX3_ok nmX3 hown hK hP hD hS 0 rfl rfl 6 (by decide) (hts (.fieldLink RX3 44 "WildCardsModel" "end" "I") (by decide +kernel)) (fun _ h9 => h9) rfl (by decide +kernel) rfl rfl (Nat.le_of_ble_eq_true rfl) dM_isOne_172 (fun H locs hP hD hS => ?_)
          have hP : va_P (dC, dI) vwCl [(m0, .inr (3, [.ref kt, .ref kp, .ref kw, .int (nI tl), .int (nI L), .int (nI wn), .int (nI (k + 1)), .int (nI td), .ref kf])), (kp, .inl (cI, 400, .inl (fun j => nI (a j))))] H := hP
          have hD : va_D A [(m0, .inr (3, [.ref kt, .ref kp, .ref kw, .int (nI tl), .int (nI L), .int (nI wn), .int (nI (k + 1)), .int (nI td), .ref kf])), (kp, .inl (cI, 400, .inl (fun j => nI (a j))))] := hD
          refine lv_iload hx hb dM_isOne_175 (lv_at hl 5 rfl) ?_
          refine lv_iload hx hb dM_isOne_177 (lv_at hl 4 rfl) ?_
          refine wl_icmp_eq (tgt := 186) hx hb dM_isOne_179 (by decide) (by omega) (by omega) (fun c179 => ?_) (fun c179 => ?_)
          · skip
            refine lv_iconst (v := nI 0) hx hb dM_isOne_186 (by decide) ?_
            have hP9 := hP.sub (ws' := [(m0, .inr (3, [.ref kt, .ref kp, .ref kw, .int (nI tl), .int (nI L), .int (nI wn), .int (nI (k + 1)), .int (nI td), .ref kf])), (kp, .inl (cI, 400, .inl (fun j => nI (a j))))]) [0, 1] rfl
            have hD9 := hD.sub (ws' := [(m0, .inr (3, [.ref kt, .ref kp, .ref kw, .int (nI tl), .int (nI L), .int (nI wn), .int (nI (k + 1)), .int (nI td), .ref kf])), (kp, .inl (cI, 400, .inl (fun j => nI (a j))))]) [0, 1] (by decide) rfl
            exact W.zret (v := nI 0) hx hb hr (by decide) (fun t ht hW => ⟨⟨nI 0, (k + 1, td), rfl, (show (k + 1) = min (brn a L (ix + 1)) L ∧ (nI 0) = if brs a L (ix + 1) x = true then 1 else 0 from ⟨br_n0a (brg_a (by omega)) (MI_e hMI (bnd_1 c51)).1 c162, br_r0s (brg_a (by omega)) (MI_e hMI (bnd_1 c51)).2 c179⟩), by rw [ht]; exact hP9, va_K.moved hW.alike hK, hD9⟩, hS.F ht⟩) hS.2.2 dM_isOne_187
          · skip
            refine lv_iconst (v := nI 1) hx hb dM_isOne_182 (by decide) ?_
            refine lv_goto (tgt := 187) hx hb dM_isOne_183 (by decide) ?_
            have hP9 := hP.sub (ws' := [(m0, .inr (3, [.ref kt, .ref kp, .ref kw, .int (nI tl), .int (nI L), .int (nI wn), .int (nI (k + 1)), .int (nI td), .ref kf])), (kp, .inl (cI, 400, .inl (fun j => nI (a j))))]) [0, 1] rfl
            have hD9 := hD.sub (ws' := [(m0, .inr (3, [.ref kt, .ref kp, .ref kw, .int (nI tl), .int (nI L), .int (nI wn), .int (nI (k + 1)), .int (nI td), .ref kf])), (kp, .inl (cI, 400, .inl (fun j => nI (a j))))]) [0, 1] (by decide) rfl
            exact W.zret (v := nI 1) hx hb hr (by decide) (fun t ht hW => ⟨⟨nI 1, (k + 1, td), rfl, (show (k + 1) = min (brn a L (ix + 1)) L ∧ (nI 1) = if brs a L (ix + 1) x = true then 1 else 0 from ⟨br_n0a (brg_a (by omega)) (MI_e hMI (bnd_1 c51)).1 c162, br_r0d (brg_a (by omega)) (MI_e hMI (bnd_1 c51)).2 c179⟩), by rw [ht]; exact hP9, va_K.moved hW.alike hK, hD9⟩, hS.F ht⟩) hS.2.2 dM_isOne_187
      · skip
        have h9 := ha k c51
        refine lv_aload_n hx hb dM_isOne_54 rfl (lv_at hl 0 rfl) ?_
        refine va_get (D := (dC, dI)) (ci := 3) (v := .ref kp) (C := RX3) (T := TX3) (N := 9) hx hb hts (by decide +kernel) hown hK hP 0 rfl rfl 1 (by decide) (hts (.fieldLink RX3 13 "WildCardsModel" "pattern" "[I") (by decide +kernel)) (fun _ h9 => h9) rfl dM_isOne_55 ?_
        refine lv_iload_n hx hb dM_isOne_58 rfl (lv_at hl 3 rfl) ?_
        refine va_iald hx hb hK hP 1 0 rfl rfl (vp_in_nI (by omega) (by omega)) dM_isOne_59 ?_
        refine wl_asi (y := nI (a k)) (by rw [nI_clamp (by omega)]) ?_
        refine lv_bipush (v := nI 93) hx hb dM_isOne_60 (by decide) ?_
        refine wl_icmp_eq (tgt := 156) hx hb dM_isOne_62 (by decide) (by omega) (by omega) (fun c62 => ?_) (fun c62 => ?_)
        · skip
          refine lv_aload_n hx hb dM_isOne_156 rfl (lv_at hl 0 rfl) ?_
          refine lv_iload_n hx hb dM_isOne_157 rfl (lv_at hl 3 rfl) ?_
          refine lv_aload_n hx hb dM_isOne_158 rfl (lv_at hl 0 rfl) ?_
          refine va_get (D := (dC, dI)) (ci := 3) (v := .int (nI L)) (C := RX3) (T := TX3) (N := 9) hx hb hts (by decide +kernel) hown hK hP 0 rfl rfl 4 (by decide) (hts (.fieldLink RX3 31 "WildCardsModel" "size" "I") (by decide +kernel)) (fun _ h9 => h9) rfl dM_isOne_159 ?_
          refine wl_icmp_ge (tgt := 171) hx hb dM_isOne_162 (by decide) (by omega) (by omega) (fun c162 => ?_) (fun c162 => ?_)
          · skip
            refine lv_iload_n hx hb dM_isOne_171 rfl (lv_at hl 3 rfl) ?_
            refine va_put (D := (dC, dI)) (ci := 3) (v := .int (nI k)) (ty := .int) (C := RX3) (T := TX3) (N := 9) hx hb hts (by decide +kernel) tyX3 tyX3_ok nmX3 hown hK hP hD hS 0 rfl rfl 6 (by decide) (hts (.fieldLink RX3 44 "WildCardsModel" "end" "I") (by decide +kernel)) (fun _ h9 => h9) rfl (by decide +kernel) rfl rfl (Nat.le_of_ble_eq_true rfl) dM_isOne_172 (fun H locs hP hD hS => ?_)
            have hP : va_P (dC, dI) vwCl [(m0, .inr (3, [.ref kt, .ref kp, .ref kw, .int (nI tl), .int (nI L), .int (nI wn), .int (nI k), .int (nI td), .ref kf])), (kp, .inl (cI, 400, .inl (fun j => nI (a j))))] H := hP
            have hD : va_D A [(m0, .inr (3, [.ref kt, .ref kp, .ref kw, .int (nI tl), .int (nI L), .int (nI wn), .int (nI k), .int (nI td), .ref kf])), (kp, .inl (cI, 400, .inl (fun j => nI (a j))))] := hD
            refine lv_iload hx hb dM_isOne_175 (lv_at hl 5 rfl) ?_
            refine lv_iload hx hb dM_isOne_177 (lv_at hl 4 rfl) ?_
            refine wl_icmp_eq (tgt := 186) hx hb dM_isOne_179 (by decide) (by omega) (by omega) (fun c179 => ?_) (fun c179 => ?_)
            · skip
              refine lv_iconst (v := nI 0) hx hb dM_isOne_186 (by decide) ?_
              have hP9 := hP.sub (ws' := [(m0, .inr (3, [.ref kt, .ref kp, .ref kw, .int (nI tl), .int (nI L), .int (nI wn), .int (nI k), .int (nI td), .ref kf])), (kp, .inl (cI, 400, .inl (fun j => nI (a j))))]) [0, 1] rfl
              have hD9 := hD.sub (ws' := [(m0, .inr (3, [.ref kt, .ref kp, .ref kw, .int (nI tl), .int (nI L), .int (nI wn), .int (nI k), .int (nI td), .ref kf])), (kp, .inl (cI, 400, .inl (fun j => nI (a j))))]) [0, 1] (by decide) rfl
              exact W.zret (v := nI 0) hx hb hr (by decide) (fun t ht hW => ⟨⟨nI 0, (k, td), rfl, (show k = min (brn a L (ix + 1)) L ∧ (nI 0) = if brs a L (ix + 1) x = true then 1 else 0 from ⟨br_n0b hk (brg_a (by omega)) (MI_e hMI (bnd_3 c62)).1 c162, br_r0s (brg_a (by omega)) (MI_e hMI (bnd_3 c62)).2 c179⟩), by rw [ht]; exact hP9, va_K.moved hW.alike hK, hD9⟩, hS.F ht⟩) hS.2.2 dM_isOne_187
            · skip
              refine lv_iconst (v := nI 1) hx hb dM_isOne_182 (by decide) ?_
              refine lv_goto (tgt := 187) hx hb dM_isOne_183 (by decide) ?_
              have hP9 := hP.sub (ws' := [(m0, .inr (3, [.ref kt, .ref kp, .ref kw, .int (nI tl), .int (nI L), .int (nI wn), .int (nI k), .int (nI td), .ref kf])), (kp, .inl (cI, 400, .inl (fun j => nI (a j))))]) [0, 1] rfl
              have hD9 := hD.sub (ws' := [(m0, .inr (3, [.ref kt, .ref kp, .ref kw, .int (nI tl), .int (nI L), .int (nI wn), .int (nI k), .int (nI td), .ref kf])), (kp, .inl (cI, 400, .inl (fun j => nI (a j))))]) [0, 1] (by decide) rfl
              exact W.zret (v := nI 1) hx hb hr (by decide) (fun t ht hW => ⟨⟨nI 1, (k, td), rfl, (show k = min (brn a L (ix + 1)) L ∧ (nI 1) = if brs a L (ix + 1) x = true then 1 else 0 from ⟨br_n0b hk (brg_a (by omega)) (MI_e hMI (bnd_3 c62)).1 c162, br_r0d (brg_a (by omega)) (MI_e hMI (bnd_3 c62)).2 c179⟩), by rw [ht]; exact hP9, va_K.moved hW.alike hK, hD9⟩, hS.F ht⟩) hS.2.2 dM_isOne_187
          · skip
            refine lv_iload_n hx hb dM_isOne_165 rfl (lv_at hl 3 rfl) ?_
            refine lv_iconst (v := nI 1) hx hb dM_isOne_166 (by decide) ?_
            refine lv_iadd hx hb dM_isOne_167 ?_
            refine wl_asi (y := nI (k + 1)) (nI_add _ _) ?_
            refine lv_goto (tgt := 172) hx hb dM_isOne_168 (by decide) ?_
            refine va_put (D := (dC, dI)) (ci := 3) (v := .int (nI (k + 1))) (ty := .int) (C := RX3) (T := TX3) (N := 9) hx hb hts (by decide +kernel) tyX3 tyX3_ok nmX3 hown hK hP hD hS 0 rfl rfl 6 (by decide) (hts (.fieldLink RX3 44 "WildCardsModel" "end" "I") (by decide +kernel)) (fun _ h9 => h9) rfl (by decide +kernel) rfl rfl (Nat.le_of_ble_eq_true rfl) dM_isOne_172 (fun H locs hP hD hS => ?_)
            have hP : va_P (dC, dI) vwCl [(m0, .inr (3, [.ref kt, .ref kp, .ref kw, .int (nI tl), .int (nI L), .int (nI wn), .int (nI (k + 1)), .int (nI td), .ref kf])), (kp, .inl (cI, 400, .inl (fun j => nI (a j))))] H := hP
            have hD : va_D A [(m0, .inr (3, [.ref kt, .ref kp, .ref kw, .int (nI tl), .int (nI L), .int (nI wn), .int (nI (k + 1)), .int (nI td), .ref kf])), (kp, .inl (cI, 400, .inl (fun j => nI (a j))))] := hD
            refine lv_iload hx hb dM_isOne_175 (lv_at hl 5 rfl) ?_
            refine lv_iload hx hb dM_isOne_177 (lv_at hl 4 rfl) ?_
            refine wl_icmp_eq (tgt := 186) hx hb dM_isOne_179 (by decide) (by omega) (by omega) (fun c179 => ?_) (fun c179 => ?_)
            · skip
              refine lv_iconst (v := nI 0) hx hb dM_isOne_186 (by decide) ?_
              have hP9 := hP.sub (ws' := [(m0, .inr (3, [.ref kt, .ref kp, .ref kw, .int (nI tl), .int (nI L), .int (nI wn), .int (nI (k + 1)), .int (nI td), .ref kf])), (kp, .inl (cI, 400, .inl (fun j => nI (a j))))]) [0, 1] rfl
              have hD9 := hD.sub (ws' := [(m0, .inr (3, [.ref kt, .ref kp, .ref kw, .int (nI tl), .int (nI L), .int (nI wn), .int (nI (k + 1)), .int (nI td), .ref kf])), (kp, .inl (cI, 400, .inl (fun j => nI (a j))))]) [0, 1] (by decide) rfl
              exact W.zret (v := nI 0) hx hb hr (by decide) (fun t ht hW => ⟨⟨nI 0, (k + 1, td), rfl, (show (k + 1) = min (brn a L (ix + 1)) L ∧ (nI 0) = if brs a L (ix + 1) x = true then 1 else 0 from ⟨br_n0a (brg_a (by omega)) (MI_e hMI (bnd_3 c62)).1 c162, br_r0s (brg_a (by omega)) (MI_e hMI (bnd_3 c62)).2 c179⟩), by rw [ht]; exact hP9, va_K.moved hW.alike hK, hD9⟩, hS.F ht⟩) hS.2.2 dM_isOne_187
            · skip
              refine lv_iconst (v := nI 1) hx hb dM_isOne_182 (by decide) ?_
              refine lv_goto (tgt := 187) hx hb dM_isOne_183 (by decide) ?_
              have hP9 := hP.sub (ws' := [(m0, .inr (3, [.ref kt, .ref kp, .ref kw, .int (nI tl), .int (nI L), .int (nI wn), .int (nI (k + 1)), .int (nI td), .ref kf])), (kp, .inl (cI, 400, .inl (fun j => nI (a j))))]) [0, 1] rfl
              have hD9 := hD.sub (ws' := [(m0, .inr (3, [.ref kt, .ref kp, .ref kw, .int (nI tl), .int (nI L), .int (nI wn), .int (nI (k + 1)), .int (nI td), .ref kf])), (kp, .inl (cI, 400, .inl (fun j => nI (a j))))]) [0, 1] (by decide) rfl
              exact W.zret (v := nI 1) hx hb hr (by decide) (fun t ht hW => ⟨⟨nI 1, (k + 1, td), rfl, (show (k + 1) = min (brn a L (ix + 1)) L ∧ (nI 1) = if brs a L (ix + 1) x = true then 1 else 0 from ⟨br_n0a (brg_a (by omega)) (MI_e hMI (bnd_3 c62)).1 c162, br_r0d (brg_a (by omega)) (MI_e hMI (bnd_3 c62)).2 c179⟩), by rw [ht]; exact hP9, va_K.moved hW.alike hK, hD9⟩, hS.F ht⟩) hS.2.2 dM_isOne_187
        · skip
          refine lv_aload_n hx hb dM_isOne_65 rfl (lv_at hl 0 rfl) ?_
          refine lv_iload_n hx hb dM_isOne_66 rfl (lv_at hl 3 rfl) ?_
          have hPc := hP.sub (ws' := [(m0, .inr (3, [.ref kt, .ref kp, .ref kw, .int (nI tl), .int (nI L), .int (nI wn), .int (nI en), .int (nI td), .ref kf])), (kp, .inl (cI, 400, .inl (fun j => nI (a j))))]) [0, 1] rfl
          have hDc := hD.sub (ws' := [(m0, .inr (3, [.ref kt, .ref kp, .ref kw, .int (nI tl), .int (nI L), .int (nI wn), .int (nI en), .int (nI td), .ref kf])), (kp, .inl (cI, 400, .inl (fun j => nI (a j))))]) [0, 1] (by decide) rfl
          have hFc := va_free (wc := [(m0, .inr (3, [.ref kt, .ref kp, .ref kw, .int (nI tl), .int (nI L), .int (nI wn), .int (nI en), .int (nI td), .ref kf])), (kp, .inl (cI, 400, .inl (fun j => nI (a j))))]) hD hS hA [0, 1] rfl
          refine va_calli (va_runV (As := [.int (nI k)]) (rest := []) ⟨hx, hb, hml, hown, hts⟩ (c_M_tells l dC dI cI cJ cZ m0 kt kp kw kf H.size tl L wn en td a k hL ha c51) (cwV 1 hts gM_isOne_M_tells rfl rfl rfl (by decide +kernel) ⟨Nat.le_of_ble_eq_true rfl, Nat.le_of_ble_eq_true rfl⟩) ⟨fun a U g mk q => by obtain ⟨q0, q1, qP, qK, qD⟩ := q; exact ⟨q0, q1, qP, va_K.moved (u := U) (U := U.calling g mk a) (Vm.Alike.refl U.vm) qK, qD⟩, va_recv hK hPc (ci := 3) (q0 := 0) rfl rfl, fun U hU hW => ⟨rfl, by rw [hU], by rw [hU]; exact hPc, va_K.moved hW.alike hK, hDc.weaken (fun _ _ _ _ => trivial)⟩⟩ rfl rfl hl.1 rfl (lv_room (Nat.le_of_ble_eq_true rfl)) dM_isOne_67 ⟨show 0 + 0 ≤ 0 from by decide, show 0 + 0 ≤ 0 from by decide⟩) hS (fun q _ h => hFc q h) hFc (fun r67 u t H1 locs ht hvm hw67 hB hz1 hk1 hS => ?_)
          obtain ⟨td267, rfl⟩ : ∃ z, z = u := ⟨_, rfl⟩
          obtain ⟨hP1, hK1, hD1⟩ := hB
          rw [ht] at hP1
          try dsimp only at hw67 hP1 hD1
          obtain ⟨hP, hD⟩ := va_join (wr := []) (w1 := [(m0, .inr (3, [.ref kt, .ref kp, .ref kw, .int (nI tl), .int (nI L), .int (nI wn), .int (nI en), .int (nI td267), .ref kf])), (kp, .inl (cI, 400, .inl (fun j => nI (a j))))]) hP hD [0, 1] [] rfl rfl (by decide) (by decide) hk1 hFc hP1 hD1
          generalize H1 = H at hP hS ⊢
          have hP : va_P (dC, dI) vwCl [(m0, .inr (3, [.ref kt, .ref kp, .ref kw, .int (nI tl), .int (nI L), .int (nI wn), .int (nI en), .int (nI td267), .ref kf])), (kp, .inl (cI, 400, .inl (fun j => nI (a j))))] H := hP
          have hD : va_D A [(m0, .inr (3, [.ref kt, .ref kp, .ref kw, .int (nI tl), .int (nI L), .int (nI wn), .int (nI en), .int (nI td267), .ref kf])), (kp, .inl (cI, 400, .inl (fun j => nI (a j))))] := hD
          obtain ⟨rfl, hr67⟩ := hw67
          refine wl_asi (y := nI (rbn a L k)) (hr67) ?_
          have h7 := rbn_le a c51
          have h6 := rbv_lt ha c51
          refine lv_istore_n (lv' := [(3, .int (nI (rbn a L k))), (0, .ref m0), (1, .int (nI ix)), (2, .int (nI x)), (4, .int (nI 0)), (5, .int (nI (bN q)))]) hx hb dM_isOne_70 rfl hl (by decide) rfl (fun ls hl => ?_)
          refine lv_aload_n hx hb dM_isOne_71 rfl (lv_at hl 1 rfl) ?_
          refine va_get (D := (dC, dI)) (ci := 3) (v := .int (nI (rbv a L k))) (C := RX3) (T := TX3) (N := 9) hx hb hts (by decide +kernel) hown hK hP 0 rfl rfl 7 (by decide) (hts (.fieldLink RX3 37 "WildCardsModel" "told" "I") (by decide +kernel)) (fun _ h9 => h9) rfl dM_isOne_72 ?_
          refine lv_istore (lv' := [(6, .int (nI (rbv a L k))), (3, .int (nI (rbn a L k))), (0, .ref m0), (1, .int (nI ix)), (2, .int (nI x)), (4, .int (nI 0)), (5, .int (nI (bN q)))]) hx hb dM_isOne_75 hl (by decide) rfl (fun ls hl => ?_)
          refine lv_iload hx hb dM_isOne_77 (lv_at hl 0 rfl) ?_
          refine lv_istore (lv' := [(7, .int (nI (rbv a L k))), (6, .int (nI (rbv a L k))), (3, .int (nI (rbn a L k))), (0, .ref m0), (1, .int (nI ix)), (2, .int (nI x)), (4, .int (nI 0)), (5, .int (nI (bN q)))]) hx hb dM_isOne_79 hl (by decide) rfl (fun ls hl => ?_)
          refine lv_iload_n hx hb dM_isOne_81 rfl (lv_at hl 2 rfl) ?_
          refine lv_iconst (v := nI 1) hx hb dM_isOne_82 (by decide) ?_
          refine lv_iadd hx hb dM_isOne_83 ?_
          refine wl_asi (y := nI ((rbn a L k) + 1)) (nI_add _ _) ?_
          refine lv_aload_n hx hb dM_isOne_84 rfl (lv_at hl 3 rfl) ?_
          refine va_get (D := (dC, dI)) (ci := 3) (v := .int (nI L)) (C := RX3) (T := TX3) (N := 9) hx hb hts (by decide +kernel) hown hK hP 0 rfl rfl 4 (by decide) (hts (.fieldLink RX3 31 "WildCardsModel" "size" "I") (by decide +kernel)) (fun _ h9 => h9) rfl dM_isOne_85 ?_
          refine wl_icmp_ge (tgt := 129) hx hb dM_isOne_88 (by decide) (by omega) (by omega) (fun c88 => ?_) (fun c88 => ?_)
          · skip
            refine lv_iload hx hb dM_isOne_129 (lv_at hl 7 rfl) ?_
            refine wl_if_ne (tgt := 146) hx hb dM_isOne_131 (by decide) (by omega) (fun c131 => ?_) (fun c131 => ?_)
            · skip
              refine lv_iconst (v := nI 1) hx hb dM_isOne_146 (by decide) ?_
              refine lv_goto (tgt := 151) hx hb dM_isOne_147 (by decide) ?_
              refine lv_istore (lv' := [(5, .int (nI 1)), (7, .int (nI (rbv a L k))), (6, .int (nI (rbv a L k))), (3, .int (nI (rbn a L k))), (0, .ref m0), (1, .int (nI ix)), (2, .int (nI x)), (4, .int (nI 0))]) hx hb dM_isOne_151 hl (by decide) rfl (fun ls hl => ?_)
              refine lv_goto (tgt := 46) hx hb dM_isOne_153 (by decide) ?_
              have hl : lv_has ls 8 [(5, .int (nI 1)), (7, .int (nI (rbv a L k))), (6, .int (nI (rbv a L k))), (3, .int (nI (tnx a L k))), (0, .ref m0), (1, .int (nI ix)), (2, .int (nI x)), (4, .int (nI 0))] := by rw [← (tn_0 (rng_c (bnd_1 c88))).1]; exact hl
              exact ih46 (rr + 1, tnx a L k, true, rbv a L k) H locs ls ⟨(show (rr + 1) ≤ (tnx a L k) from by have := (tnx_le a c51).2; omega), (show (tnx a L k) ≤ L from (tnx_le a c51).1), (show MI a L x (ix + 1) (rr + 1) (tnx a L k) true from MI_s hMI c51 c62 hr0 (mi_t (bN_nz c131))), hP.sub [0, 1] rfl, hD.sub [0, 1] (by decide) rfl, hS, lv_sub hl [4, 5, 6, 3, 7, 0] rfl⟩ (by have := tnx_le a c51; (try dsimp only); omega)
            · skip
              refine lv_iload_n hx hb dM_isOne_134 rfl (lv_at hl 5 rfl) ?_
              refine lv_iload hx hb dM_isOne_135 (lv_at hl 1 rfl) ?_
              refine wl_icmp_lt (tgt := 150) hx hb dM_isOne_137 (by decide) (by omega) (by omega) (fun c137 => ?_) (fun c137 => ?_)
              · skip
                refine lv_iconst (v := nI 0) hx hb dM_isOne_150 (by decide) ?_
                refine lv_istore (lv' := [(5, .int (nI 0)), (7, .int (nI (rbv a L k))), (6, .int (nI (rbv a L k))), (3, .int (nI (rbn a L k))), (0, .ref m0), (1, .int (nI ix)), (2, .int (nI x)), (4, .int (nI 0))]) hx hb dM_isOne_151 hl (by decide) rfl (fun ls hl => ?_)
                refine lv_goto (tgt := 46) hx hb dM_isOne_153 (by decide) ?_
                have hl : lv_has ls 8 [(5, .int (nI 0)), (7, .int (nI (rbv a L k))), (6, .int (nI (rbv a L k))), (3, .int (nI (tnx a L k))), (0, .ref m0), (1, .int (nI ix)), (2, .int (nI x)), (4, .int (nI 0))] := by rw [← (tn_0 (rng_c (bnd_1 c88))).1]; exact hl
                exact ih46 (rr + 1, tnx a L k, false, rbv a L k) H locs ls ⟨(show (rr + 1) ≤ (tnx a L k) from by have := (tnx_le a c51).2; omega), (show (tnx a L k) ≤ L from (tnx_le a c51).1), (show MI a L x (ix + 1) (rr + 1) (tnx a L k) false from MI_s hMI c51 c62 hr0 (mi_l (bN_z c131) c137)), hP.sub [0, 1] rfl, hD.sub [0, 1] (by decide) rfl, hS, lv_sub hl [4, 5, 6, 3, 7, 0] rfl⟩ (by have := tnx_le a c51; (try dsimp only); omega)
              · skip
                refine lv_iload_n hx hb dM_isOne_140 rfl (lv_at hl 5 rfl) ?_
                refine lv_iload hx hb dM_isOne_141 (lv_at hl 0 rfl) ?_
                refine wl_icmp_gt (tgt := 150) hx hb dM_isOne_143 (by decide) (by omega) (by omega) (fun c143 => ?_) (fun c143 => ?_)
                · skip
                  refine lv_iconst (v := nI 0) hx hb dM_isOne_150 (by decide) ?_
                  refine lv_istore (lv' := [(5, .int (nI 0)), (7, .int (nI (rbv a L k))), (6, .int (nI (rbv a L k))), (3, .int (nI (rbn a L k))), (0, .ref m0), (1, .int (nI ix)), (2, .int (nI x)), (4, .int (nI 0))]) hx hb dM_isOne_151 hl (by decide) rfl (fun ls hl => ?_)
                  refine lv_goto (tgt := 46) hx hb dM_isOne_153 (by decide) ?_
                  have hl : lv_has ls 8 [(5, .int (nI 0)), (7, .int (nI (rbv a L k))), (6, .int (nI (rbv a L k))), (3, .int (nI (tnx a L k))), (0, .ref m0), (1, .int (nI ix)), (2, .int (nI x)), (4, .int (nI 0))] := by rw [← (tn_0 (rng_c (bnd_1 c88))).1]; exact hl
                  exact ih46 (rr + 1, tnx a L k, false, rbv a L k) H locs ls ⟨(show (rr + 1) ≤ (tnx a L k) from by have := (tnx_le a c51).2; omega), (show (tnx a L k) ≤ L from (tnx_le a c51).1), (show MI a L x (ix + 1) (rr + 1) (tnx a L k) false from MI_s hMI c51 c62 hr0 (mi_h (bN_z c131) (by rw [(tn_0 (rng_c (bnd_1 c88))).2]; exact c143))), hP.sub [0, 1] rfl, hD.sub [0, 1] (by decide) rfl, hS, lv_sub hl [4, 5, 6, 3, 7, 0] rfl⟩ (by have := tnx_le a c51; (try dsimp only); omega)
                · skip
                  refine lv_iconst (v := nI 1) hx hb dM_isOne_146 (by decide) ?_
                  refine lv_goto (tgt := 151) hx hb dM_isOne_147 (by decide) ?_
                  refine lv_istore (lv' := [(5, .int (nI 1)), (7, .int (nI (rbv a L k))), (6, .int (nI (rbv a L k))), (3, .int (nI (rbn a L k))), (0, .ref m0), (1, .int (nI ix)), (2, .int (nI x)), (4, .int (nI 0))]) hx hb dM_isOne_151 hl (by decide) rfl (fun ls hl => ?_)
                  refine lv_goto (tgt := 46) hx hb dM_isOne_153 (by decide) ?_
                  have hl : lv_has ls 8 [(5, .int (nI 1)), (7, .int (nI (rbv a L k))), (6, .int (nI (rbv a L k))), (3, .int (nI (tnx a L k))), (0, .ref m0), (1, .int (nI ix)), (2, .int (nI x)), (4, .int (nI 0))] := by rw [← (tn_0 (rng_c (bnd_1 c88))).1]; exact hl
                  exact ih46 (rr + 1, tnx a L k, true, rbv a L k) H locs ls ⟨(show (rr + 1) ≤ (tnx a L k) from by have := (tnx_le a c51).2; omega), (show (tnx a L k) ≤ L from (tnx_le a c51).1), (show MI a L x (ix + 1) (rr + 1) (tnx a L k) true from MI_s hMI c51 c62 hr0 (mi_i c137 (by rw [(tn_0 (rng_c (bnd_1 c88))).2]; exact c143))), hP.sub [0, 1] rfl, hD.sub [0, 1] (by decide) rfl, hS, lv_sub hl [4, 5, 6, 3, 7, 0] rfl⟩ (by have := tnx_le a c51; (try dsimp only); omega)
          · skip
            have h10 := ha _ (show rbn a L k < L by omega)
            refine lv_aload_n hx hb dM_isOne_91 rfl (lv_at hl 3 rfl) ?_
            refine va_get (D := (dC, dI)) (ci := 3) (v := .ref kp) (C := RX3) (T := TX3) (N := 9) hx hb hts (by decide +kernel) hown hK hP 0 rfl rfl 1 (by decide) (hts (.fieldLink RX3 13 "WildCardsModel" "pattern" "[I") (by decide +kernel)) (fun _ h9 => h9) rfl dM_isOne_92 ?_
            refine lv_iload_n hx hb dM_isOne_95 rfl (lv_at hl 2 rfl) ?_
            refine va_iald hx hb hK hP 1 0 rfl rfl (vp_in_nI (by omega) (by omega)) dM_isOne_96 ?_
            refine wl_asi (y := nI (a (rbn a L k))) (by rw [nI_clamp (by omega)]) ?_
            refine lv_bipush (v := nI 45) hx hb dM_isOne_97 (by decide) ?_
            refine wl_icmp_ne (tgt := 129) hx hb dM_isOne_99 (by decide) (by omega) (by omega) (fun c99 => ?_) (fun c99 => ?_)
            · skip
              refine lv_iload hx hb dM_isOne_129 (lv_at hl 7 rfl) ?_
              refine wl_if_ne (tgt := 146) hx hb dM_isOne_131 (by decide) (by omega) (fun c131 => ?_) (fun c131 => ?_)
              · skip
                refine lv_iconst (v := nI 1) hx hb dM_isOne_146 (by decide) ?_
                refine lv_goto (tgt := 151) hx hb dM_isOne_147 (by decide) ?_
                refine lv_istore (lv' := [(5, .int (nI 1)), (7, .int (nI (rbv a L k))), (6, .int (nI (rbv a L k))), (3, .int (nI (rbn a L k))), (0, .ref m0), (1, .int (nI ix)), (2, .int (nI x)), (4, .int (nI 0))]) hx hb dM_isOne_151 hl (by decide) rfl (fun ls hl => ?_)
                refine lv_goto (tgt := 46) hx hb dM_isOne_153 (by decide) ?_
                have hl : lv_has ls 8 [(5, .int (nI 1)), (7, .int (nI (rbv a L k))), (6, .int (nI (rbv a L k))), (3, .int (nI (tnx a L k))), (0, .ref m0), (1, .int (nI ix)), (2, .int (nI x)), (4, .int (nI 0))] := by rw [← (tn_0 (rng_b c99)).1]; exact hl
                exact ih46 (rr + 1, tnx a L k, true, rbv a L k) H locs ls ⟨(show (rr + 1) ≤ (tnx a L k) from by have := (tnx_le a c51).2; omega), (show (tnx a L k) ≤ L from (tnx_le a c51).1), (show MI a L x (ix + 1) (rr + 1) (tnx a L k) true from MI_s hMI c51 c62 hr0 (mi_t (bN_nz c131))), hP.sub [0, 1] rfl, hD.sub [0, 1] (by decide) rfl, hS, lv_sub hl [4, 5, 6, 3, 7, 0] rfl⟩ (by have := tnx_le a c51; (try dsimp only); omega)
              · skip
                refine lv_iload_n hx hb dM_isOne_134 rfl (lv_at hl 5 rfl) ?_
                refine lv_iload hx hb dM_isOne_135 (lv_at hl 1 rfl) ?_
                refine wl_icmp_lt (tgt := 150) hx hb dM_isOne_137 (by decide) (by omega) (by omega) (fun c137 => ?_) (fun c137 => ?_)
                · skip
                  refine lv_iconst (v := nI 0) hx hb dM_isOne_150 (by decide) ?_
                  refine lv_istore (lv' := [(5, .int (nI 0)), (7, .int (nI (rbv a L k))), (6, .int (nI (rbv a L k))), (3, .int (nI (rbn a L k))), (0, .ref m0), (1, .int (nI ix)), (2, .int (nI x)), (4, .int (nI 0))]) hx hb dM_isOne_151 hl (by decide) rfl (fun ls hl => ?_)
                  refine lv_goto (tgt := 46) hx hb dM_isOne_153 (by decide) ?_
                  have hl : lv_has ls 8 [(5, .int (nI 0)), (7, .int (nI (rbv a L k))), (6, .int (nI (rbv a L k))), (3, .int (nI (tnx a L k))), (0, .ref m0), (1, .int (nI ix)), (2, .int (nI x)), (4, .int (nI 0))] := by rw [← (tn_0 (rng_b c99)).1]; exact hl
                  exact ih46 (rr + 1, tnx a L k, false, rbv a L k) H locs ls ⟨(show (rr + 1) ≤ (tnx a L k) from by have := (tnx_le a c51).2; omega), (show (tnx a L k) ≤ L from (tnx_le a c51).1), (show MI a L x (ix + 1) (rr + 1) (tnx a L k) false from MI_s hMI c51 c62 hr0 (mi_l (bN_z c131) c137)), hP.sub [0, 1] rfl, hD.sub [0, 1] (by decide) rfl, hS, lv_sub hl [4, 5, 6, 3, 7, 0] rfl⟩ (by have := tnx_le a c51; (try dsimp only); omega)
                · skip
                  refine lv_iload_n hx hb dM_isOne_140 rfl (lv_at hl 5 rfl) ?_
                  refine lv_iload hx hb dM_isOne_141 (lv_at hl 0 rfl) ?_
                  refine wl_icmp_gt (tgt := 150) hx hb dM_isOne_143 (by decide) (by omega) (by omega) (fun c143 => ?_) (fun c143 => ?_)
                  · skip
                    refine lv_iconst (v := nI 0) hx hb dM_isOne_150 (by decide) ?_
                    refine lv_istore (lv' := [(5, .int (nI 0)), (7, .int (nI (rbv a L k))), (6, .int (nI (rbv a L k))), (3, .int (nI (rbn a L k))), (0, .ref m0), (1, .int (nI ix)), (2, .int (nI x)), (4, .int (nI 0))]) hx hb dM_isOne_151 hl (by decide) rfl (fun ls hl => ?_)
                    refine lv_goto (tgt := 46) hx hb dM_isOne_153 (by decide) ?_
                    have hl : lv_has ls 8 [(5, .int (nI 0)), (7, .int (nI (rbv a L k))), (6, .int (nI (rbv a L k))), (3, .int (nI (tnx a L k))), (0, .ref m0), (1, .int (nI ix)), (2, .int (nI x)), (4, .int (nI 0))] := by rw [← (tn_0 (rng_b c99)).1]; exact hl
                    exact ih46 (rr + 1, tnx a L k, false, rbv a L k) H locs ls ⟨(show (rr + 1) ≤ (tnx a L k) from by have := (tnx_le a c51).2; omega), (show (tnx a L k) ≤ L from (tnx_le a c51).1), (show MI a L x (ix + 1) (rr + 1) (tnx a L k) false from MI_s hMI c51 c62 hr0 (mi_h (bN_z c131) (by rw [(tn_0 (rng_b c99)).2]; exact c143))), hP.sub [0, 1] rfl, hD.sub [0, 1] (by decide) rfl, hS, lv_sub hl [4, 5, 6, 3, 7, 0] rfl⟩ (by have := tnx_le a c51; (try dsimp only); omega)
                  · skip
                    refine lv_iconst (v := nI 1) hx hb dM_isOne_146 (by decide) ?_
                    refine lv_goto (tgt := 151) hx hb dM_isOne_147 (by decide) ?_
                    refine lv_istore (lv' := [(5, .int (nI 1)), (7, .int (nI (rbv a L k))), (6, .int (nI (rbv a L k))), (3, .int (nI (rbn a L k))), (0, .ref m0), (1, .int (nI ix)), (2, .int (nI x)), (4, .int (nI 0))]) hx hb dM_isOne_151 hl (by decide) rfl (fun ls hl => ?_)
                    refine lv_goto (tgt := 46) hx hb dM_isOne_153 (by decide) ?_
                    have hl : lv_has ls 8 [(5, .int (nI 1)), (7, .int (nI (rbv a L k))), (6, .int (nI (rbv a L k))), (3, .int (nI (tnx a L k))), (0, .ref m0), (1, .int (nI ix)), (2, .int (nI x)), (4, .int (nI 0))] := by rw [← (tn_0 (rng_b c99)).1]; exact hl
                    exact ih46 (rr + 1, tnx a L k, true, rbv a L k) H locs ls ⟨(show (rr + 1) ≤ (tnx a L k) from by have := (tnx_le a c51).2; omega), (show (tnx a L k) ≤ L from (tnx_le a c51).1), (show MI a L x (ix + 1) (rr + 1) (tnx a L k) true from MI_s hMI c51 c62 hr0 (mi_i c137 (by rw [(tn_0 (rng_b c99)).2]; exact c143))), hP.sub [0, 1] rfl, hD.sub [0, 1] (by decide) rfl, hS, lv_sub hl [4, 5, 6, 3, 7, 0] rfl⟩ (by have := tnx_le a c51; (try dsimp only); omega)
            · skip
              have h11 := ha _ c88
              refine lv_aload_n hx hb dM_isOne_102 rfl (lv_at hl 3 rfl) ?_
              refine va_get (D := (dC, dI)) (ci := 3) (v := .ref kp) (C := RX3) (T := TX3) (N := 9) hx hb hts (by decide +kernel) hown hK hP 0 rfl rfl 1 (by decide) (hts (.fieldLink RX3 13 "WildCardsModel" "pattern" "[I") (by decide +kernel)) (fun _ h9 => h9) rfl dM_isOne_103 ?_
              refine lv_iload_n hx hb dM_isOne_106 rfl (lv_at hl 2 rfl) ?_
              refine lv_iconst (v := nI 1) hx hb dM_isOne_107 (by decide) ?_
              refine lv_iadd hx hb dM_isOne_108 ?_
              refine wl_asi (y := nI ((rbn a L k) + 1)) (nI_add _ _) ?_
              refine va_iald hx hb hK hP 1 0 rfl rfl (vp_in_nI (by omega) (by omega)) dM_isOne_109 ?_
              refine wl_asi (y := nI (a ((rbn a L k) + 1))) (by rw [nI_clamp (by omega)]) ?_
              refine lv_bipush (v := nI 93) hx hb dM_isOne_110 (by decide) ?_
              refine wl_icmp_eq (tgt := 129) hx hb dM_isOne_112 (by decide) (by omega) (by omega) (fun c112 => ?_) (fun c112 => ?_)
              · skip
                refine lv_iload hx hb dM_isOne_129 (lv_at hl 7 rfl) ?_
                refine wl_if_ne (tgt := 146) hx hb dM_isOne_131 (by decide) (by omega) (fun c131 => ?_) (fun c131 => ?_)
                · skip
                  refine lv_iconst (v := nI 1) hx hb dM_isOne_146 (by decide) ?_
                  refine lv_goto (tgt := 151) hx hb dM_isOne_147 (by decide) ?_
                  refine lv_istore (lv' := [(5, .int (nI 1)), (7, .int (nI (rbv a L k))), (6, .int (nI (rbv a L k))), (3, .int (nI (rbn a L k))), (0, .ref m0), (1, .int (nI ix)), (2, .int (nI x)), (4, .int (nI 0))]) hx hb dM_isOne_151 hl (by decide) rfl (fun ls hl => ?_)
                  refine lv_goto (tgt := 46) hx hb dM_isOne_153 (by decide) ?_
                  have hl : lv_has ls 8 [(5, .int (nI 1)), (7, .int (nI (rbv a L k))), (6, .int (nI (rbv a L k))), (3, .int (nI (tnx a L k))), (0, .ref m0), (1, .int (nI ix)), (2, .int (nI x)), (4, .int (nI 0))] := by rw [← (tn_0 (rng_c (bnd_3 c112))).1]; exact hl
                  exact ih46 (rr + 1, tnx a L k, true, rbv a L k) H locs ls ⟨(show (rr + 1) ≤ (tnx a L k) from by have := (tnx_le a c51).2; omega), (show (tnx a L k) ≤ L from (tnx_le a c51).1), (show MI a L x (ix + 1) (rr + 1) (tnx a L k) true from MI_s hMI c51 c62 hr0 (mi_t (bN_nz c131))), hP.sub [0, 1] rfl, hD.sub [0, 1] (by decide) rfl, hS, lv_sub hl [4, 5, 6, 3, 7, 0] rfl⟩ (by have := tnx_le a c51; (try dsimp only); omega)
                · skip
                  refine lv_iload_n hx hb dM_isOne_134 rfl (lv_at hl 5 rfl) ?_
                  refine lv_iload hx hb dM_isOne_135 (lv_at hl 1 rfl) ?_
                  refine wl_icmp_lt (tgt := 150) hx hb dM_isOne_137 (by decide) (by omega) (by omega) (fun c137 => ?_) (fun c137 => ?_)
                  · skip
                    refine lv_iconst (v := nI 0) hx hb dM_isOne_150 (by decide) ?_
                    refine lv_istore (lv' := [(5, .int (nI 0)), (7, .int (nI (rbv a L k))), (6, .int (nI (rbv a L k))), (3, .int (nI (rbn a L k))), (0, .ref m0), (1, .int (nI ix)), (2, .int (nI x)), (4, .int (nI 0))]) hx hb dM_isOne_151 hl (by decide) rfl (fun ls hl => ?_)
                    refine lv_goto (tgt := 46) hx hb dM_isOne_153 (by decide) ?_
                    have hl : lv_has ls 8 [(5, .int (nI 0)), (7, .int (nI (rbv a L k))), (6, .int (nI (rbv a L k))), (3, .int (nI (tnx a L k))), (0, .ref m0), (1, .int (nI ix)), (2, .int (nI x)), (4, .int (nI 0))] := by rw [← (tn_0 (rng_c (bnd_3 c112))).1]; exact hl
                    exact ih46 (rr + 1, tnx a L k, false, rbv a L k) H locs ls ⟨(show (rr + 1) ≤ (tnx a L k) from by have := (tnx_le a c51).2; omega), (show (tnx a L k) ≤ L from (tnx_le a c51).1), (show MI a L x (ix + 1) (rr + 1) (tnx a L k) false from MI_s hMI c51 c62 hr0 (mi_l (bN_z c131) c137)), hP.sub [0, 1] rfl, hD.sub [0, 1] (by decide) rfl, hS, lv_sub hl [4, 5, 6, 3, 7, 0] rfl⟩ (by have := tnx_le a c51; (try dsimp only); omega)
                  · skip
                    refine lv_iload_n hx hb dM_isOne_140 rfl (lv_at hl 5 rfl) ?_
                    refine lv_iload hx hb dM_isOne_141 (lv_at hl 0 rfl) ?_
                    refine wl_icmp_gt (tgt := 150) hx hb dM_isOne_143 (by decide) (by omega) (by omega) (fun c143 => ?_) (fun c143 => ?_)
                    · skip
                      refine lv_iconst (v := nI 0) hx hb dM_isOne_150 (by decide) ?_
                      refine lv_istore (lv' := [(5, .int (nI 0)), (7, .int (nI (rbv a L k))), (6, .int (nI (rbv a L k))), (3, .int (nI (rbn a L k))), (0, .ref m0), (1, .int (nI ix)), (2, .int (nI x)), (4, .int (nI 0))]) hx hb dM_isOne_151 hl (by decide) rfl (fun ls hl => ?_)
                      refine lv_goto (tgt := 46) hx hb dM_isOne_153 (by decide) ?_
                      have hl : lv_has ls 8 [(5, .int (nI 0)), (7, .int (nI (rbv a L k))), (6, .int (nI (rbv a L k))), (3, .int (nI (tnx a L k))), (0, .ref m0), (1, .int (nI ix)), (2, .int (nI x)), (4, .int (nI 0))] := by rw [← (tn_0 (rng_c (bnd_3 c112))).1]; exact hl
                      exact ih46 (rr + 1, tnx a L k, false, rbv a L k) H locs ls ⟨(show (rr + 1) ≤ (tnx a L k) from by have := (tnx_le a c51).2; omega), (show (tnx a L k) ≤ L from (tnx_le a c51).1), (show MI a L x (ix + 1) (rr + 1) (tnx a L k) false from MI_s hMI c51 c62 hr0 (mi_h (bN_z c131) (by rw [(tn_0 (rng_c (bnd_3 c112))).2]; exact c143))), hP.sub [0, 1] rfl, hD.sub [0, 1] (by decide) rfl, hS, lv_sub hl [4, 5, 6, 3, 7, 0] rfl⟩ (by have := tnx_le a c51; (try dsimp only); omega)
                    · skip
                      refine lv_iconst (v := nI 1) hx hb dM_isOne_146 (by decide) ?_
                      refine lv_goto (tgt := 151) hx hb dM_isOne_147 (by decide) ?_
                      refine lv_istore (lv' := [(5, .int (nI 1)), (7, .int (nI (rbv a L k))), (6, .int (nI (rbv a L k))), (3, .int (nI (rbn a L k))), (0, .ref m0), (1, .int (nI ix)), (2, .int (nI x)), (4, .int (nI 0))]) hx hb dM_isOne_151 hl (by decide) rfl (fun ls hl => ?_)
                      refine lv_goto (tgt := 46) hx hb dM_isOne_153 (by decide) ?_
                      have hl : lv_has ls 8 [(5, .int (nI 1)), (7, .int (nI (rbv a L k))), (6, .int (nI (rbv a L k))), (3, .int (nI (tnx a L k))), (0, .ref m0), (1, .int (nI ix)), (2, .int (nI x)), (4, .int (nI 0))] := by rw [← (tn_0 (rng_c (bnd_3 c112))).1]; exact hl
                      exact ih46 (rr + 1, tnx a L k, true, rbv a L k) H locs ls ⟨(show (rr + 1) ≤ (tnx a L k) from by have := (tnx_le a c51).2; omega), (show (tnx a L k) ≤ L from (tnx_le a c51).1), (show MI a L x (ix + 1) (rr + 1) (tnx a L k) true from MI_s hMI c51 c62 hr0 (mi_i c137 (by rw [(tn_0 (rng_c (bnd_3 c112))).2]; exact c143))), hP.sub [0, 1] rfl, hD.sub [0, 1] (by decide) rfl, hS, lv_sub hl [4, 5, 6, 3, 7, 0] rfl⟩ (by have := tnx_le a c51; (try dsimp only); omega)
              · skip
                refine lv_aload_n hx hb dM_isOne_115 rfl (lv_at hl 3 rfl) ?_
                refine lv_iload_n hx hb dM_isOne_116 rfl (lv_at hl 2 rfl) ?_
                refine lv_iconst (v := nI 1) hx hb dM_isOne_117 (by decide) ?_
                refine lv_iadd hx hb dM_isOne_118 ?_
                refine wl_asi (y := nI ((rbn a L k) + 1)) (nI_add _ _) ?_
                have hPc := hP.sub (ws' := [(m0, .inr (3, [.ref kt, .ref kp, .ref kw, .int (nI tl), .int (nI L), .int (nI wn), .int (nI en), .int (nI (rbv a L k)), .ref kf])), (kp, .inl (cI, 400, .inl (fun j => nI (a j))))]) [0, 1] rfl
                have hDc := hD.sub (ws' := [(m0, .inr (3, [.ref kt, .ref kp, .ref kw, .int (nI tl), .int (nI L), .int (nI wn), .int (nI en), .int (nI (rbv a L k)), .ref kf])), (kp, .inl (cI, 400, .inl (fun j => nI (a j))))]) [0, 1] (by decide) rfl
                have hFc := va_free (wc := [(m0, .inr (3, [.ref kt, .ref kp, .ref kw, .int (nI tl), .int (nI L), .int (nI wn), .int (nI en), .int (nI (rbv a L k)), .ref kf])), (kp, .inl (cI, 400, .inl (fun j => nI (a j))))]) hD hS hA [0, 1] rfl
                refine va_calli (va_runV (As := [.int (nI ((rbn a L k) + 1))]) (rest := []) ⟨hx, hb, hml, hown, hts⟩ (c_M_tells l dC dI cI cJ cZ m0 kt kp kw kf H.size tl L wn en (rbv a L k) a ((rbn a L k) + 1) hL ha c88) (cwV 1 hts gM_isOne_M_tells rfl rfl rfl (by decide +kernel) ⟨Nat.le_of_ble_eq_true rfl, Nat.le_of_ble_eq_true rfl⟩) ⟨fun a U g mk q => by obtain ⟨q0, q1, qP, qK, qD⟩ := q; exact ⟨q0, q1, qP, va_K.moved (u := U) (U := U.calling g mk a) (Vm.Alike.refl U.vm) qK, qD⟩, va_recv hK hPc (ci := 3) (q0 := 0) rfl rfl, fun U hU hW => ⟨rfl, by rw [hU], by rw [hU]; exact hPc, va_K.moved hW.alike hK, hDc.weaken (fun _ _ _ _ => trivial)⟩⟩ rfl rfl hl.1 rfl (lv_room (Nat.le_of_ble_eq_true rfl)) dM_isOne_119 ⟨show 0 + 0 + 0 ≤ 0 from by decide, show 0 + 0 + 0 ≤ 0 from by decide⟩) hS (fun q _ h => hFc q h) hFc (fun r119 u t H1 locs ht hvm hw119 hB hz1 hk1 hS => ?_)
                obtain ⟨td2119, rfl⟩ : ∃ z, z = u := ⟨_, rfl⟩
                obtain ⟨hP1, hK1, hD1⟩ := hB
                rw [ht] at hP1
                try dsimp only at hw119 hP1 hD1
                obtain ⟨hP, hD⟩ := va_join (wr := []) (w1 := [(m0, .inr (3, [.ref kt, .ref kp, .ref kw, .int (nI tl), .int (nI L), .int (nI wn), .int (nI en), .int (nI td2119), .ref kf])), (kp, .inl (cI, 400, .inl (fun j => nI (a j))))]) hP hD [0, 1] [] rfl rfl (by decide) (by decide) hk1 hFc hP1 hD1
                generalize H1 = H at hP hS ⊢
                have hP : va_P (dC, dI) vwCl [(m0, .inr (3, [.ref kt, .ref kp, .ref kw, .int (nI tl), .int (nI L), .int (nI wn), .int (nI en), .int (nI td2119), .ref kf])), (kp, .inl (cI, 400, .inl (fun j => nI (a j))))] H := hP
                have hD : va_D A [(m0, .inr (3, [.ref kt, .ref kp, .ref kw, .int (nI tl), .int (nI L), .int (nI wn), .int (nI en), .int (nI td2119), .ref kf])), (kp, .inl (cI, 400, .inl (fun j => nI (a j))))] := hD
                obtain ⟨rfl, hr119⟩ := hw119
                refine wl_asi (y := nI (rbn a L (rbn a L k + 1))) (hr119) ?_
                have h5 := rbv_lt ha c88
                refine lv_istore_n (lv' := [(3, .int (nI (rbn a L (rbn a L k + 1)))), (7, .int (nI (rbv a L k))), (6, .int (nI (rbv a L k))), (0, .ref m0), (1, .int (nI ix)), (2, .int (nI x)), (4, .int (nI 0)), (5, .int (nI (bN q)))]) hx hb dM_isOne_122 rfl hl (by decide) rfl (fun ls hl => ?_)
                refine lv_aload_n hx hb dM_isOne_123 rfl (lv_at hl 3 rfl) ?_
                refine va_get (D := (dC, dI)) (ci := 3) (v := .int (nI (rbv a L (rbn a L k + 1)))) (C := RX3) (T := TX3) (N := 9) hx hb hts (by decide +kernel) hown hK hP 0 rfl rfl 7 (by decide) (hts (.fieldLink RX3 37 "WildCardsModel" "told" "I") (by decide +kernel)) (fun _ h9 => h9) rfl dM_isOne_124 ?_
                refine lv_istore (lv' := [(7, .int (nI (rbv a L (rbn a L k + 1)))), (3, .int (nI (rbn a L (rbn a L k + 1)))), (6, .int (nI (rbv a L k))), (0, .ref m0), (1, .int (nI ix)), (2, .int (nI x)), (4, .int (nI 0)), (5, .int (nI (bN q)))]) hx hb dM_isOne_127 hl (by decide) rfl (fun ls hl => ?_)
                refine lv_iload hx hb dM_isOne_129 (lv_at hl 7 rfl) ?_
                refine wl_if_ne (tgt := 146) hx hb dM_isOne_131 (by decide) (by omega) (fun c131 => ?_) (fun c131 => ?_)
                · skip
                  refine lv_iconst (v := nI 1) hx hb dM_isOne_146 (by decide) ?_
                  refine lv_goto (tgt := 151) hx hb dM_isOne_147 (by decide) ?_
                  refine lv_istore (lv' := [(5, .int (nI 1)), (7, .int (nI (rbv a L (rbn a L k + 1)))), (3, .int (nI (rbn a L (rbn a L k + 1)))), (6, .int (nI (rbv a L k))), (0, .ref m0), (1, .int (nI ix)), (2, .int (nI x)), (4, .int (nI 0))]) hx hb dM_isOne_151 hl (by decide) rfl (fun ls hl => ?_)
                  refine lv_goto (tgt := 46) hx hb dM_isOne_153 (by decide) ?_
                  have hl : lv_has ls 8 [(5, .int (nI 1)), (7, .int (nI (rbv a L (rbn a L k + 1)))), (3, .int (nI (tnx a L k))), (6, .int (nI (rbv a L k))), (0, .ref m0), (1, .int (nI ix)), (2, .int (nI x)), (4, .int (nI 0))] := by rw [← (tn_1 (rng_1 (by omega) c99 (by rw [bnd_2 c88 c112]; decide))).1]; exact hl
                  exact ih46 (rr + 1, tnx a L k, true, rbv a L (rbn a L k + 1)) H locs ls ⟨(show (rr + 1) ≤ (tnx a L k) from by have := (tnx_le a c51).2; omega), (show (tnx a L k) ≤ L from (tnx_le a c51).1), (show MI a L x (ix + 1) (rr + 1) (tnx a L k) true from MI_s hMI c51 c62 hr0 (mi_t (bN_nz c131))), hP.sub [0, 1] rfl, hD.sub [0, 1] (by decide) rfl, hS, lv_sub hl [4, 5, 6, 2, 7, 0] rfl⟩ (by have := tnx_le a c51; (try dsimp only); omega)
                · skip
                  refine lv_iload_n hx hb dM_isOne_134 rfl (lv_at hl 5 rfl) ?_
                  refine lv_iload hx hb dM_isOne_135 (lv_at hl 2 rfl) ?_
                  refine wl_icmp_lt (tgt := 150) hx hb dM_isOne_137 (by decide) (by omega) (by omega) (fun c137 => ?_) (fun c137 => ?_)
                  · skip
                    refine lv_iconst (v := nI 0) hx hb dM_isOne_150 (by decide) ?_
                    refine lv_istore (lv' := [(5, .int (nI 0)), (7, .int (nI (rbv a L (rbn a L k + 1)))), (3, .int (nI (rbn a L (rbn a L k + 1)))), (6, .int (nI (rbv a L k))), (0, .ref m0), (1, .int (nI ix)), (2, .int (nI x)), (4, .int (nI 0))]) hx hb dM_isOne_151 hl (by decide) rfl (fun ls hl => ?_)
                    refine lv_goto (tgt := 46) hx hb dM_isOne_153 (by decide) ?_
                    have hl : lv_has ls 8 [(5, .int (nI 0)), (7, .int (nI (rbv a L (rbn a L k + 1)))), (3, .int (nI (tnx a L k))), (6, .int (nI (rbv a L k))), (0, .ref m0), (1, .int (nI ix)), (2, .int (nI x)), (4, .int (nI 0))] := by rw [← (tn_1 (rng_1 (by omega) c99 (by rw [bnd_2 c88 c112]; decide))).1]; exact hl
                    exact ih46 (rr + 1, tnx a L k, false, rbv a L (rbn a L k + 1)) H locs ls ⟨(show (rr + 1) ≤ (tnx a L k) from by have := (tnx_le a c51).2; omega), (show (tnx a L k) ≤ L from (tnx_le a c51).1), (show MI a L x (ix + 1) (rr + 1) (tnx a L k) false from MI_s hMI c51 c62 hr0 (mi_l (bN_z c131) c137)), hP.sub [0, 1] rfl, hD.sub [0, 1] (by decide) rfl, hS, lv_sub hl [4, 5, 6, 2, 7, 0] rfl⟩ (by have := tnx_le a c51; (try dsimp only); omega)
                  · skip
                    refine lv_iload_n hx hb dM_isOne_140 rfl (lv_at hl 5 rfl) ?_
                    refine lv_iload hx hb dM_isOne_141 (lv_at hl 0 rfl) ?_
                    refine wl_icmp_gt (tgt := 150) hx hb dM_isOne_143 (by decide) (by omega) (by omega) (fun c143 => ?_) (fun c143 => ?_)
                    · skip
                      refine lv_iconst (v := nI 0) hx hb dM_isOne_150 (by decide) ?_
                      refine lv_istore (lv' := [(5, .int (nI 0)), (7, .int (nI (rbv a L (rbn a L k + 1)))), (3, .int (nI (rbn a L (rbn a L k + 1)))), (6, .int (nI (rbv a L k))), (0, .ref m0), (1, .int (nI ix)), (2, .int (nI x)), (4, .int (nI 0))]) hx hb dM_isOne_151 hl (by decide) rfl (fun ls hl => ?_)
                      refine lv_goto (tgt := 46) hx hb dM_isOne_153 (by decide) ?_
                      have hl : lv_has ls 8 [(5, .int (nI 0)), (7, .int (nI (rbv a L (rbn a L k + 1)))), (3, .int (nI (tnx a L k))), (6, .int (nI (rbv a L k))), (0, .ref m0), (1, .int (nI ix)), (2, .int (nI x)), (4, .int (nI 0))] := by rw [← (tn_1 (rng_1 (by omega) c99 (by rw [bnd_2 c88 c112]; decide))).1]; exact hl
                      exact ih46 (rr + 1, tnx a L k, false, rbv a L (rbn a L k + 1)) H locs ls ⟨(show (rr + 1) ≤ (tnx a L k) from by have := (tnx_le a c51).2; omega), (show (tnx a L k) ≤ L from (tnx_le a c51).1), (show MI a L x (ix + 1) (rr + 1) (tnx a L k) false from MI_s hMI c51 c62 hr0 (mi_h (bN_z c131) (by rw [(tn_1 (rng_1 (by omega) c99 (by rw [bnd_2 c88 c112]; decide))).2]; exact c143))), hP.sub [0, 1] rfl, hD.sub [0, 1] (by decide) rfl, hS, lv_sub hl [4, 5, 6, 2, 7, 0] rfl⟩ (by have := tnx_le a c51; (try dsimp only); omega)
                    · skip
                      refine lv_iconst (v := nI 1) hx hb dM_isOne_146 (by decide) ?_
                      refine lv_goto (tgt := 151) hx hb dM_isOne_147 (by decide) ?_
                      refine lv_istore (lv' := [(5, .int (nI 1)), (7, .int (nI (rbv a L (rbn a L k + 1)))), (3, .int (nI (rbn a L (rbn a L k + 1)))), (6, .int (nI (rbv a L k))), (0, .ref m0), (1, .int (nI ix)), (2, .int (nI x)), (4, .int (nI 0))]) hx hb dM_isOne_151 hl (by decide) rfl (fun ls hl => ?_)
                      refine lv_goto (tgt := 46) hx hb dM_isOne_153 (by decide) ?_
                      have hl : lv_has ls 8 [(5, .int (nI 1)), (7, .int (nI (rbv a L (rbn a L k + 1)))), (3, .int (nI (tnx a L k))), (6, .int (nI (rbv a L k))), (0, .ref m0), (1, .int (nI ix)), (2, .int (nI x)), (4, .int (nI 0))] := by rw [← (tn_1 (rng_1 (by omega) c99 (by rw [bnd_2 c88 c112]; decide))).1]; exact hl
                      exact ih46 (rr + 1, tnx a L k, true, rbv a L (rbn a L k + 1)) H locs ls ⟨(show (rr + 1) ≤ (tnx a L k) from by have := (tnx_le a c51).2; omega), (show (tnx a L k) ≤ L from (tnx_le a c51).1), (show MI a L x (ix + 1) (rr + 1) (tnx a L k) true from MI_s hMI c51 c62 hr0 (mi_i c137 (by rw [(tn_1 (rng_1 (by omega) c99 (by rw [bnd_2 c88 c112]; decide))).2]; exact c143))), hP.sub [0, 1] rfl, hD.sub [0, 1] (by decide) rfl, hS, lv_sub hl [4, 5, 6, 2, 7, 0] rfl⟩ (by have := tnx_le a c51; (try dsimp only); omega)
  · skip
    have h8 := ha (ix + 1) c9
    refine lv_aload_n hx hb dM_isOne_12 rfl (lv_at hl 1 rfl) ?_
    refine va_get (D := (dC, dI)) (ci := 3) (v := .ref kp) (C := RX3) (T := TX3) (N := 9) hx hb hts (by decide +kernel) hown hK hP 0 rfl rfl 1 (by decide) (hts (.fieldLink RX3 13 "WildCardsModel" "pattern" "[I") (by decide +kernel)) (fun _ h9 => h9) rfl dM_isOne_13 ?_
    refine lv_iload_n hx hb dM_isOne_16 rfl (lv_at hl 0 rfl) ?_
    refine va_iald hx hb hK hP 1 0 rfl rfl (vp_in_nI (by omega) (by omega)) dM_isOne_17 ?_
    refine wl_asi (y := nI (a (ix + 1))) (by rw [nI_clamp (by omega)]) ?_
    refine lv_bipush (v := nI 94) hx hb dM_isOne_18 (by decide) ?_
    refine wl_icmp_ne (tgt := 27) hx hb dM_isOne_20 (by decide) (by omega) (by omega) (fun c20 => ?_) (fun c20 => ?_)
    · skip
      refine lv_iconst (v := nI 0) hx hb dM_isOne_27 (by decide) ?_
      refine lv_istore (lv' := [(4, .int (nI 0)), (3, .int (nI (ix + 1))), (0, .ref m0), (1, .int (nI ix)), (2, .int (nI x))]) hx hb dM_isOne_28 hl (by decide) rfl (fun ls hl => ?_)
      refine lv_iload_n hx hb dM_isOne_30 rfl (lv_at hl 1 rfl) ?_
      refine lv_iload hx hb dM_isOne_31 (lv_at hl 0 rfl) ?_
      refine lv_if_eq (tgt := 40) hx hb dM_isOne_33 (by decide) (fun c33 => ?_) (fun c33 => ?_)
      rotate_left
      · first | exact absurd c33 (by decide) | exact absurd (by decide) c33
      · skip
        refine lv_iconst (v := nI 0) hx hb dM_isOne_40 (by decide) ?_
        refine lv_iadd hx hb dM_isOne_41 ?_
        refine wl_asi (y := nI ((ix + 1) + 0)) (nI_add _ _) ?_
        refine lv_istore_n (lv' := [(3, .int (nI ((ix + 1) + 0))), (4, .int (nI 0)), (0, .ref m0), (1, .int (nI ix)), (2, .int (nI x))]) hx hb dM_isOne_42 rfl hl (by decide) rfl (fun ls hl => ?_)
        refine lv_iconst (v := nI 0) hx hb dM_isOne_43 (by decide) ?_
        refine lv_istore (lv' := [(5, .int (nI 0)), (3, .int (nI ((ix + 1) + 0))), (4, .int (nI 0)), (0, .ref m0), (1, .int (nI ix)), (2, .int (nI x))]) hx hb dM_isOne_44 hl (by decide) rfl (fun ls hl => ?_)
        have hi1 : ix + 1 ≤ L := by omega
        refine wl_loop (σ := Nat × Nat × Bool × Nat) (fun z9 => L - z9.2.1) (fun z9 H locs ls => (z9.1 ≤ z9.2.1) ∧ (z9.2.1 ≤ L) ∧ (MI a L x (ix + 1) z9.1 z9.2.1 z9.2.2.1) ∧ va_P (dC, dI) vwCl [(m0, .inr (3, [.ref kt, .ref kp, .ref kw, .int (nI tl), .int (nI L), .int (nI wn), .int (nI en), .int (nI z9.2.2.2), .ref kf])), (kp, .inl (cI, 400, .inl (fun j => nI (a j))))] H ∧ va_D A [(m0, .inr (3, [.ref kt, .ref kp, .ref kw, .int (nI tl), .int (nI L), .int (nI wn), .int (nI en), .int (nI z9.2.2.2), .ref kf])), (kp, .inl (cI, 400, .inl (fun j => nI (a j))))] ∧ va_S A s.heap H locs ∧ lv_has ls 8 [(0, .ref m0), (1, .int (nI ix)), (2, .int (nI x)), (3, .int (nI z9.2.1)), (4, .int (nI 0)), (5, .int (nI (bN z9.2.2.1)))]) ?_ (0, ix + 1, false, td) ⟨(show (0) ≤ (ix + 1) from Nat.zero_le _), (show (ix + 1) ≤ L from by omega), (show MI a L x (ix + 1) (0) (ix + 1) false from MI_0 _ _ _ _), hP.sub [0, 1] rfl, hD.sub [0, 1] (by decide) rfl, hS, lv_sub hl [3, 4, 5, 1, 2, 0] rfl⟩
        intro z9 H locs ls hI ih46
        obtain ⟨rr, k, q, td⟩ := z9
        obtain ⟨hr0, hk, hMI, hP, hD, hS, hl⟩ := hI
        try dsimp only at hr0 hk hMI hP hD hl
        have hP : va_P (dC, dI) vwCl [(m0, .inr (3, [.ref kt, .ref kp, .ref kw, .int (nI tl), .int (nI L), .int (nI wn), .int (nI en), .int (nI td), .ref kf])), (kp, .inl (cI, 400, .inl (fun j => nI (a j))))] H := hP
        have hD : va_D A [(m0, .inr (3, [.ref kt, .ref kp, .ref kw, .int (nI tl), .int (nI L), .int (nI wn), .int (nI en), .int (nI td), .ref kf])), (kp, .inl (cI, 400, .inl (fun j => nI (a j))))] := hD
        have hl : lv_has ls 8 [(0, .ref m0), (1, .int (nI ix)), (2, .int (nI x)), (3, .int (nI k)), (4, .int (nI 0)), (5, .int (nI (bN q)))] := hl
        have hq := bN_lt q
        refine lv_iload_n hx hb dM_isOne_46 rfl (lv_at hl 3 rfl) ?_
        refine lv_aload_n hx hb dM_isOne_47 rfl (lv_at hl 0 rfl) ?_
        refine va_get (D := (dC, dI)) (ci := 3) (v := .int (nI L)) (C := RX3) (T := TX3) (N := 9) hx hb hts (by decide +kernel) hown hK hP 0 rfl rfl 4 (by decide) (hts (.fieldLink RX3 31 "WildCardsModel" "size" "I") (by decide +kernel)) (fun _ h9 => h9) rfl dM_isOne_48 ?_
        refine wl_icmp_ge (tgt := 156) hx hb dM_isOne_51 (by decide) (by omega) (by omega) (fun c51 => ?_) (fun c51 => ?_)
        · skip
          refine lv_aload_n hx hb dM_isOne_156 rfl (lv_at hl 0 rfl) ?_
          refine lv_iload_n hx hb dM_isOne_157 rfl (lv_at hl 3 rfl) ?_
          refine lv_aload_n hx hb dM_isOne_158 rfl (lv_at hl 0 rfl) ?_
          refine va_get (D := (dC, dI)) (ci := 3) (v := .int (nI L)) (C := RX3) (T := TX3) (N := 9) hx hb hts (by decide +kernel) hown hK hP 0 rfl rfl 4 (by decide) (hts (.fieldLink RX3 31 "WildCardsModel" "size" "I") (by decide +kernel)) (fun _ h9 => h9) rfl dM_isOne_159 ?_
          refine wl_icmp_ge (tgt := 171) hx hb dM_isOne_162 (by decide) (by omega) (by omega) (fun c162 => ?_) (fun c162 => ?_)
          · skip
            refine lv_iload_n hx hb dM_isOne_171 rfl (lv_at hl 3 rfl) ?_
            refine va_put (D := (dC, dI)) (ci := 3) (v := .int (nI k)) (ty := .int) (C := RX3) (T := TX3) (N := 9) hx hb hts (by decide +kernel) tyX3 tyX3_ok nmX3 hown hK hP hD hS 0 rfl rfl 6 (by decide) (hts (.fieldLink RX3 44 "WildCardsModel" "end" "I") (by decide +kernel)) (fun _ h9 => h9) rfl (by decide +kernel) rfl rfl (Nat.le_of_ble_eq_true rfl) dM_isOne_172 (fun H locs hP hD hS => ?_)
            have hP : va_P (dC, dI) vwCl [(m0, .inr (3, [.ref kt, .ref kp, .ref kw, .int (nI tl), .int (nI L), .int (nI wn), .int (nI k), .int (nI td), .ref kf])), (kp, .inl (cI, 400, .inl (fun j => nI (a j))))] H := hP
            have hD : va_D A [(m0, .inr (3, [.ref kt, .ref kp, .ref kw, .int (nI tl), .int (nI L), .int (nI wn), .int (nI k), .int (nI td), .ref kf])), (kp, .inl (cI, 400, .inl (fun j => nI (a j))))] := hD
            refine lv_iload hx hb dM_isOne_175 (lv_at hl 5 rfl) ?_
            refine lv_iload hx hb dM_isOne_177 (lv_at hl 4 rfl) ?_
            refine wl_icmp_eq (tgt := 186) hx hb dM_isOne_179 (by decide) (by omega) (by omega) (fun c179 => ?_) (fun c179 => ?_)
            · skip
              refine lv_iconst (v := nI 0) hx hb dM_isOne_186 (by decide) ?_
              have hP9 := hP.sub (ws' := [(m0, .inr (3, [.ref kt, .ref kp, .ref kw, .int (nI tl), .int (nI L), .int (nI wn), .int (nI k), .int (nI td), .ref kf])), (kp, .inl (cI, 400, .inl (fun j => nI (a j))))]) [0, 1] rfl
              have hD9 := hD.sub (ws' := [(m0, .inr (3, [.ref kt, .ref kp, .ref kw, .int (nI tl), .int (nI L), .int (nI wn), .int (nI k), .int (nI td), .ref kf])), (kp, .inl (cI, 400, .inl (fun j => nI (a j))))]) [0, 1] (by decide) rfl
              exact W.zret (v := nI 0) hx hb hr (by decide) (fun t ht hW => ⟨⟨nI 0, (k, td), rfl, (show k = min (brn a L (ix + 1)) L ∧ (nI 0) = if brs a L (ix + 1) x = true then 1 else 0 from ⟨br_n0b hk (brg_b c20) (MI_e hMI (bnd_1 c51)).1 c162, br_r0s (brg_b c20) (MI_e hMI (bnd_1 c51)).2 c179⟩), by rw [ht]; exact hP9, va_K.moved hW.alike hK, hD9⟩, hS.F ht⟩) hS.2.2 dM_isOne_187
            · skip
              refine lv_iconst (v := nI 1) hx hb dM_isOne_182 (by decide) ?_
              refine lv_goto (tgt := 187) hx hb dM_isOne_183 (by decide) ?_
              have hP9 := hP.sub (ws' := [(m0, .inr (3, [.ref kt, .ref kp, .ref kw, .int (nI tl), .int (nI L), .int (nI wn), .int (nI k), .int (nI td), .ref kf])), (kp, .inl (cI, 400, .inl (fun j => nI (a j))))]) [0, 1] rfl
              have hD9 := hD.sub (ws' := [(m0, .inr (3, [.ref kt, .ref kp, .ref kw, .int (nI tl), .int (nI L), .int (nI wn), .int (nI k), .int (nI td), .ref kf])), (kp, .inl (cI, 400, .inl (fun j => nI (a j))))]) [0, 1] (by decide) rfl
              exact W.zret (v := nI 1) hx hb hr (by decide) (fun t ht hW => ⟨⟨nI 1, (k, td), rfl, (show k = min (brn a L (ix + 1)) L ∧ (nI 1) = if brs a L (ix + 1) x = true then 1 else 0 from ⟨br_n0b hk (brg_b c20) (MI_e hMI (bnd_1 c51)).1 c162, br_r0d (brg_b c20) (MI_e hMI (bnd_1 c51)).2 c179⟩), by rw [ht]; exact hP9, va_K.moved hW.alike hK, hD9⟩, hS.F ht⟩) hS.2.2 dM_isOne_187
          · skip
            refine lv_iload_n hx hb dM_isOne_165 rfl (lv_at hl 3 rfl) ?_
            refine lv_iconst (v := nI 1) hx hb dM_isOne_166 (by decide) ?_
            refine lv_iadd hx hb dM_isOne_167 ?_
            refine wl_asi (y := nI (k + 1)) (nI_add _ _) ?_
            refine lv_goto (tgt := 172) hx hb dM_isOne_168 (by decide) ?_
            refine va_put (D := (dC, dI)) (ci := 3) (v := .int (nI (k + 1))) (ty := .int) (C := RX3) (T := TX3) (N := 9) hx hb hts (by decide +kernel) tyX3 tyX3_ok nmX3 hown hK hP hD hS 0 rfl rfl 6 (by decide) (hts (.fieldLink RX3 44 "WildCardsModel" "end" "I") (by decide +kernel)) (fun _ h9 => h9) rfl (by decide +kernel) rfl rfl (Nat.le_of_ble_eq_true rfl) dM_isOne_172 (fun H locs hP hD hS => ?_)
            have hP : va_P (dC, dI) vwCl [(m0, .inr (3, [.ref kt, .ref kp, .ref kw, .int (nI tl), .int (nI L), .int (nI wn), .int (nI (k + 1)), .int (nI td), .ref kf])), (kp, .inl (cI, 400, .inl (fun j => nI (a j))))] H := hP
            have hD : va_D A [(m0, .inr (3, [.ref kt, .ref kp, .ref kw, .int (nI tl), .int (nI L), .int (nI wn), .int (nI (k + 1)), .int (nI td), .ref kf])), (kp, .inl (cI, 400, .inl (fun j => nI (a j))))] := hD
            refine lv_iload hx hb dM_isOne_175 (lv_at hl 5 rfl) ?_
            refine lv_iload hx hb dM_isOne_177 (lv_at hl 4 rfl) ?_
            refine wl_icmp_eq (tgt := 186) hx hb dM_isOne_179 (by decide) (by omega) (by omega) (fun c179 => ?_) (fun c179 => ?_)
            · skip
              refine lv_iconst (v := nI 0) hx hb dM_isOne_186 (by decide) ?_
              have hP9 := hP.sub (ws' := [(m0, .inr (3, [.ref kt, .ref kp, .ref kw, .int (nI tl), .int (nI L), .int (nI wn), .int (nI (k + 1)), .int (nI td), .ref kf])), (kp, .inl (cI, 400, .inl (fun j => nI (a j))))]) [0, 1] rfl
              have hD9 := hD.sub (ws' := [(m0, .inr (3, [.ref kt, .ref kp, .ref kw, .int (nI tl), .int (nI L), .int (nI wn), .int (nI (k + 1)), .int (nI td), .ref kf])), (kp, .inl (cI, 400, .inl (fun j => nI (a j))))]) [0, 1] (by decide) rfl
              exact W.zret (v := nI 0) hx hb hr (by decide) (fun t ht hW => ⟨⟨nI 0, (k + 1, td), rfl, (show (k + 1) = min (brn a L (ix + 1)) L ∧ (nI 0) = if brs a L (ix + 1) x = true then 1 else 0 from ⟨br_n0a (brg_b c20) (MI_e hMI (bnd_1 c51)).1 c162, br_r0s (brg_b c20) (MI_e hMI (bnd_1 c51)).2 c179⟩), by rw [ht]; exact hP9, va_K.moved hW.alike hK, hD9⟩, hS.F ht⟩) hS.2.2 dM_isOne_187
            · skip
              refine lv_iconst (v := nI 1) hx hb dM_isOne_182 (by decide) ?_
              refine lv_goto (tgt := 187) hx hb dM_isOne_183 (by decide) ?_
              have hP9 := hP.sub (ws' := [(m0, .inr (3, [.ref kt, .ref kp, .ref kw, .int (nI tl), .int (nI L), .int (nI wn), .int (nI (k + 1)), .int (nI td), .ref kf])), (kp, .inl (cI, 400, .inl (fun j => nI (a j))))]) [0, 1] rfl
              have hD9 := hD.sub (ws' := [(m0, .inr (3, [.ref kt, .ref kp, .ref kw, .int (nI tl), .int (nI L), .int (nI wn), .int (nI (k + 1)), .int (nI td), .ref kf])), (kp, .inl (cI, 400, .inl (fun j => nI (a j))))]) [0, 1] (by decide) rfl
              exact W.zret (v := nI 1) hx hb hr (by decide) (fun t ht hW => ⟨⟨nI 1, (k + 1, td), rfl, (show (k + 1) = min (brn a L (ix + 1)) L ∧ (nI 1) = if brs a L (ix + 1) x = true then 1 else 0 from ⟨br_n0a (brg_b c20) (MI_e hMI (bnd_1 c51)).1 c162, br_r0d (brg_b c20) (MI_e hMI (bnd_1 c51)).2 c179⟩), by rw [ht]; exact hP9, va_K.moved hW.alike hK, hD9⟩, hS.F ht⟩) hS.2.2 dM_isOne_187
        · skip
          have h9 := ha k c51
          refine lv_aload_n hx hb dM_isOne_54 rfl (lv_at hl 0 rfl) ?_
          refine va_get (D := (dC, dI)) (ci := 3) (v := .ref kp) (C := RX3) (T := TX3) (N := 9) hx hb hts (by decide +kernel) hown hK hP 0 rfl rfl 1 (by decide) (hts (.fieldLink RX3 13 "WildCardsModel" "pattern" "[I") (by decide +kernel)) (fun _ h9 => h9) rfl dM_isOne_55 ?_
          refine lv_iload_n hx hb dM_isOne_58 rfl (lv_at hl 3 rfl) ?_
          refine va_iald hx hb hK hP 1 0 rfl rfl (vp_in_nI (by omega) (by omega)) dM_isOne_59 ?_
          refine wl_asi (y := nI (a k)) (by rw [nI_clamp (by omega)]) ?_
          refine lv_bipush (v := nI 93) hx hb dM_isOne_60 (by decide) ?_
          refine wl_icmp_eq (tgt := 156) hx hb dM_isOne_62 (by decide) (by omega) (by omega) (fun c62 => ?_) (fun c62 => ?_)
          · skip
            refine lv_aload_n hx hb dM_isOne_156 rfl (lv_at hl 0 rfl) ?_
            refine lv_iload_n hx hb dM_isOne_157 rfl (lv_at hl 3 rfl) ?_
            refine lv_aload_n hx hb dM_isOne_158 rfl (lv_at hl 0 rfl) ?_
            refine va_get (D := (dC, dI)) (ci := 3) (v := .int (nI L)) (C := RX3) (T := TX3) (N := 9) hx hb hts (by decide +kernel) hown hK hP 0 rfl rfl 4 (by decide) (hts (.fieldLink RX3 31 "WildCardsModel" "size" "I") (by decide +kernel)) (fun _ h9 => h9) rfl dM_isOne_159 ?_
            refine wl_icmp_ge (tgt := 171) hx hb dM_isOne_162 (by decide) (by omega) (by omega) (fun c162 => ?_) (fun c162 => ?_)
            · skip
              refine lv_iload_n hx hb dM_isOne_171 rfl (lv_at hl 3 rfl) ?_
              refine va_put (D := (dC, dI)) (ci := 3) (v := .int (nI k)) (ty := .int) (C := RX3) (T := TX3) (N := 9) hx hb hts (by decide +kernel) tyX3 tyX3_ok nmX3 hown hK hP hD hS 0 rfl rfl 6 (by decide) (hts (.fieldLink RX3 44 "WildCardsModel" "end" "I") (by decide +kernel)) (fun _ h9 => h9) rfl (by decide +kernel) rfl rfl (Nat.le_of_ble_eq_true rfl) dM_isOne_172 (fun H locs hP hD hS => ?_)
              have hP : va_P (dC, dI) vwCl [(m0, .inr (3, [.ref kt, .ref kp, .ref kw, .int (nI tl), .int (nI L), .int (nI wn), .int (nI k), .int (nI td), .ref kf])), (kp, .inl (cI, 400, .inl (fun j => nI (a j))))] H := hP
              have hD : va_D A [(m0, .inr (3, [.ref kt, .ref kp, .ref kw, .int (nI tl), .int (nI L), .int (nI wn), .int (nI k), .int (nI td), .ref kf])), (kp, .inl (cI, 400, .inl (fun j => nI (a j))))] := hD
              refine lv_iload hx hb dM_isOne_175 (lv_at hl 5 rfl) ?_
              refine lv_iload hx hb dM_isOne_177 (lv_at hl 4 rfl) ?_
              refine wl_icmp_eq (tgt := 186) hx hb dM_isOne_179 (by decide) (by omega) (by omega) (fun c179 => ?_) (fun c179 => ?_)
              · skip
                refine lv_iconst (v := nI 0) hx hb dM_isOne_186 (by decide) ?_
                have hP9 := hP.sub (ws' := [(m0, .inr (3, [.ref kt, .ref kp, .ref kw, .int (nI tl), .int (nI L), .int (nI wn), .int (nI k), .int (nI td), .ref kf])), (kp, .inl (cI, 400, .inl (fun j => nI (a j))))]) [0, 1] rfl
                have hD9 := hD.sub (ws' := [(m0, .inr (3, [.ref kt, .ref kp, .ref kw, .int (nI tl), .int (nI L), .int (nI wn), .int (nI k), .int (nI td), .ref kf])), (kp, .inl (cI, 400, .inl (fun j => nI (a j))))]) [0, 1] (by decide) rfl
                exact W.zret (v := nI 0) hx hb hr (by decide) (fun t ht hW => ⟨⟨nI 0, (k, td), rfl, (show k = min (brn a L (ix + 1)) L ∧ (nI 0) = if brs a L (ix + 1) x = true then 1 else 0 from ⟨br_n0b hk (brg_b c20) (MI_e hMI (bnd_3 c62)).1 c162, br_r0s (brg_b c20) (MI_e hMI (bnd_3 c62)).2 c179⟩), by rw [ht]; exact hP9, va_K.moved hW.alike hK, hD9⟩, hS.F ht⟩) hS.2.2 dM_isOne_187
              · skip
                refine lv_iconst (v := nI 1) hx hb dM_isOne_182 (by decide) ?_
                refine lv_goto (tgt := 187) hx hb dM_isOne_183 (by decide) ?_
                have hP9 := hP.sub (ws' := [(m0, .inr (3, [.ref kt, .ref kp, .ref kw, .int (nI tl), .int (nI L), .int (nI wn), .int (nI k), .int (nI td), .ref kf])), (kp, .inl (cI, 400, .inl (fun j => nI (a j))))]) [0, 1] rfl
                have hD9 := hD.sub (ws' := [(m0, .inr (3, [.ref kt, .ref kp, .ref kw, .int (nI tl), .int (nI L), .int (nI wn), .int (nI k), .int (nI td), .ref kf])), (kp, .inl (cI, 400, .inl (fun j => nI (a j))))]) [0, 1] (by decide) rfl
                exact W.zret (v := nI 1) hx hb hr (by decide) (fun t ht hW => ⟨⟨nI 1, (k, td), rfl, (show k = min (brn a L (ix + 1)) L ∧ (nI 1) = if brs a L (ix + 1) x = true then 1 else 0 from ⟨br_n0b hk (brg_b c20) (MI_e hMI (bnd_3 c62)).1 c162, br_r0d (brg_b c20) (MI_e hMI (bnd_3 c62)).2 c179⟩), by rw [ht]; exact hP9, va_K.moved hW.alike hK, hD9⟩, hS.F ht⟩) hS.2.2 dM_isOne_187
            · skip
              refine lv_iload_n hx hb dM_isOne_165 rfl (lv_at hl 3 rfl) ?_
              refine lv_iconst (v := nI 1) hx hb dM_isOne_166 (by decide) ?_
              refine lv_iadd hx hb dM_isOne_167 ?_
              refine wl_asi (y := nI (k + 1)) (nI_add _ _) ?_
              refine lv_goto (tgt := 172) hx hb dM_isOne_168 (by decide) ?_
              refine va_put (D := (dC, dI)) (ci := 3) (v := .int (nI (k + 1))) (ty := .int) (C := RX3) (T := TX3) (N := 9) hx hb hts (by decide +kernel) tyX3 tyX3_ok nmX3 hown hK hP hD hS 0 rfl rfl 6 (by decide) (hts (.fieldLink RX3 44 "WildCardsModel" "end" "I") (by decide +kernel)) (fun _ h9 => h9) rfl (by decide +kernel) rfl rfl (Nat.le_of_ble_eq_true rfl) dM_isOne_172 (fun H locs hP hD hS => ?_)
              have hP : va_P (dC, dI) vwCl [(m0, .inr (3, [.ref kt, .ref kp, .ref kw, .int (nI tl), .int (nI L), .int (nI wn), .int (nI (k + 1)), .int (nI td), .ref kf])), (kp, .inl (cI, 400, .inl (fun j => nI (a j))))] H := hP
              have hD : va_D A [(m0, .inr (3, [.ref kt, .ref kp, .ref kw, .int (nI tl), .int (nI L), .int (nI wn), .int (nI (k + 1)), .int (nI td), .ref kf])), (kp, .inl (cI, 400, .inl (fun j => nI (a j))))] := hD
              refine lv_iload hx hb dM_isOne_175 (lv_at hl 5 rfl) ?_
              refine lv_iload hx hb dM_isOne_177 (lv_at hl 4 rfl) ?_
              refine wl_icmp_eq (tgt := 186) hx hb dM_isOne_179 (by decide) (by omega) (by omega) (fun c179 => ?_) (fun c179 => ?_)
              · skip
                refine lv_iconst (v := nI 0) hx hb dM_isOne_186 (by decide) ?_
                have hP9 := hP.sub (ws' := [(m0, .inr (3, [.ref kt, .ref kp, .ref kw, .int (nI tl), .int (nI L), .int (nI wn), .int (nI (k + 1)), .int (nI td), .ref kf])), (kp, .inl (cI, 400, .inl (fun j => nI (a j))))]) [0, 1] rfl
                have hD9 := hD.sub (ws' := [(m0, .inr (3, [.ref kt, .ref kp, .ref kw, .int (nI tl), .int (nI L), .int (nI wn), .int (nI (k + 1)), .int (nI td), .ref kf])), (kp, .inl (cI, 400, .inl (fun j => nI (a j))))]) [0, 1] (by decide) rfl
                exact W.zret (v := nI 0) hx hb hr (by decide) (fun t ht hW => ⟨⟨nI 0, (k + 1, td), rfl, (show (k + 1) = min (brn a L (ix + 1)) L ∧ (nI 0) = if brs a L (ix + 1) x = true then 1 else 0 from ⟨br_n0a (brg_b c20) (MI_e hMI (bnd_3 c62)).1 c162, br_r0s (brg_b c20) (MI_e hMI (bnd_3 c62)).2 c179⟩), by rw [ht]; exact hP9, va_K.moved hW.alike hK, hD9⟩, hS.F ht⟩) hS.2.2 dM_isOne_187
              · skip
                refine lv_iconst (v := nI 1) hx hb dM_isOne_182 (by decide) ?_
                refine lv_goto (tgt := 187) hx hb dM_isOne_183 (by decide) ?_
                have hP9 := hP.sub (ws' := [(m0, .inr (3, [.ref kt, .ref kp, .ref kw, .int (nI tl), .int (nI L), .int (nI wn), .int (nI (k + 1)), .int (nI td), .ref kf])), (kp, .inl (cI, 400, .inl (fun j => nI (a j))))]) [0, 1] rfl
                have hD9 := hD.sub (ws' := [(m0, .inr (3, [.ref kt, .ref kp, .ref kw, .int (nI tl), .int (nI L), .int (nI wn), .int (nI (k + 1)), .int (nI td), .ref kf])), (kp, .inl (cI, 400, .inl (fun j => nI (a j))))]) [0, 1] (by decide) rfl
                exact W.zret (v := nI 1) hx hb hr (by decide) (fun t ht hW => ⟨⟨nI 1, (k + 1, td), rfl, (show (k + 1) = min (brn a L (ix + 1)) L ∧ (nI 1) = if brs a L (ix + 1) x = true then 1 else 0 from ⟨br_n0a (brg_b c20) (MI_e hMI (bnd_3 c62)).1 c162, br_r0d (brg_b c20) (MI_e hMI (bnd_3 c62)).2 c179⟩), by rw [ht]; exact hP9, va_K.moved hW.alike hK, hD9⟩, hS.F ht⟩) hS.2.2 dM_isOne_187
          · skip
            refine lv_aload_n hx hb dM_isOne_65 rfl (lv_at hl 0 rfl) ?_
            refine lv_iload_n hx hb dM_isOne_66 rfl (lv_at hl 3 rfl) ?_
            have hPc := hP.sub (ws' := [(m0, .inr (3, [.ref kt, .ref kp, .ref kw, .int (nI tl), .int (nI L), .int (nI wn), .int (nI en), .int (nI td), .ref kf])), (kp, .inl (cI, 400, .inl (fun j => nI (a j))))]) [0, 1] rfl
            have hDc := hD.sub (ws' := [(m0, .inr (3, [.ref kt, .ref kp, .ref kw, .int (nI tl), .int (nI L), .int (nI wn), .int (nI en), .int (nI td), .ref kf])), (kp, .inl (cI, 400, .inl (fun j => nI (a j))))]) [0, 1] (by decide) rfl
            have hFc := va_free (wc := [(m0, .inr (3, [.ref kt, .ref kp, .ref kw, .int (nI tl), .int (nI L), .int (nI wn), .int (nI en), .int (nI td), .ref kf])), (kp, .inl (cI, 400, .inl (fun j => nI (a j))))]) hD hS hA [0, 1] rfl
            refine va_calli (va_runV (As := [.int (nI k)]) (rest := []) ⟨hx, hb, hml, hown, hts⟩ (c_M_tells l dC dI cI cJ cZ m0 kt kp kw kf H.size tl L wn en td a k hL ha c51) (cwV 1 hts gM_isOne_M_tells rfl rfl rfl (by decide +kernel) ⟨Nat.le_of_ble_eq_true rfl, Nat.le_of_ble_eq_true rfl⟩) ⟨fun a U g mk q => by obtain ⟨q0, q1, qP, qK, qD⟩ := q; exact ⟨q0, q1, qP, va_K.moved (u := U) (U := U.calling g mk a) (Vm.Alike.refl U.vm) qK, qD⟩, va_recv hK hPc (ci := 3) (q0 := 0) rfl rfl, fun U hU hW => ⟨rfl, by rw [hU], by rw [hU]; exact hPc, va_K.moved hW.alike hK, hDc.weaken (fun _ _ _ _ => trivial)⟩⟩ rfl rfl hl.1 rfl (lv_room (Nat.le_of_ble_eq_true rfl)) dM_isOne_67 ⟨show 0 + 0 ≤ 0 from by decide, show 0 + 0 ≤ 0 from by decide⟩) hS (fun q _ h => hFc q h) hFc (fun r67 u t H1 locs ht hvm hw67 hB hz1 hk1 hS => ?_)
            obtain ⟨td267, rfl⟩ : ∃ z, z = u := ⟨_, rfl⟩
            obtain ⟨hP1, hK1, hD1⟩ := hB
            rw [ht] at hP1
            try dsimp only at hw67 hP1 hD1
            obtain ⟨hP, hD⟩ := va_join (wr := []) (w1 := [(m0, .inr (3, [.ref kt, .ref kp, .ref kw, .int (nI tl), .int (nI L), .int (nI wn), .int (nI en), .int (nI td267), .ref kf])), (kp, .inl (cI, 400, .inl (fun j => nI (a j))))]) hP hD [0, 1] [] rfl rfl (by decide) (by decide) hk1 hFc hP1 hD1
            generalize H1 = H at hP hS ⊢
            have hP : va_P (dC, dI) vwCl [(m0, .inr (3, [.ref kt, .ref kp, .ref kw, .int (nI tl), .int (nI L), .int (nI wn), .int (nI en), .int (nI td267), .ref kf])), (kp, .inl (cI, 400, .inl (fun j => nI (a j))))] H := hP
            have hD : va_D A [(m0, .inr (3, [.ref kt, .ref kp, .ref kw, .int (nI tl), .int (nI L), .int (nI wn), .int (nI en), .int (nI td267), .ref kf])), (kp, .inl (cI, 400, .inl (fun j => nI (a j))))] := hD
            obtain ⟨rfl, hr67⟩ := hw67
            refine wl_asi (y := nI (rbn a L k)) (hr67) ?_
            have h7 := rbn_le a c51
            have h6 := rbv_lt ha c51
            refine lv_istore_n (lv' := [(3, .int (nI (rbn a L k))), (0, .ref m0), (1, .int (nI ix)), (2, .int (nI x)), (4, .int (nI 0)), (5, .int (nI (bN q)))]) hx hb dM_isOne_70 rfl hl (by decide) rfl (fun ls hl => ?_)
            refine lv_aload_n hx hb dM_isOne_71 rfl (lv_at hl 1 rfl) ?_
            refine va_get (D := (dC, dI)) (ci := 3) (v := .int (nI (rbv a L k))) (C := RX3) (T := TX3) (N := 9) hx hb hts (by decide +kernel) hown hK hP 0 rfl rfl 7 (by decide) (hts (.fieldLink RX3 37 "WildCardsModel" "told" "I") (by decide +kernel)) (fun _ h9 => h9) rfl dM_isOne_72 ?_
            refine lv_istore (lv' := [(6, .int (nI (rbv a L k))), (3, .int (nI (rbn a L k))), (0, .ref m0), (1, .int (nI ix)), (2, .int (nI x)), (4, .int (nI 0)), (5, .int (nI (bN q)))]) hx hb dM_isOne_75 hl (by decide) rfl (fun ls hl => ?_)
            refine lv_iload hx hb dM_isOne_77 (lv_at hl 0 rfl) ?_
            refine lv_istore (lv' := [(7, .int (nI (rbv a L k))), (6, .int (nI (rbv a L k))), (3, .int (nI (rbn a L k))), (0, .ref m0), (1, .int (nI ix)), (2, .int (nI x)), (4, .int (nI 0)), (5, .int (nI (bN q)))]) hx hb dM_isOne_79 hl (by decide) rfl (fun ls hl => ?_)
            refine lv_iload_n hx hb dM_isOne_81 rfl (lv_at hl 2 rfl) ?_
            refine lv_iconst (v := nI 1) hx hb dM_isOne_82 (by decide) ?_
            refine lv_iadd hx hb dM_isOne_83 ?_
            refine wl_asi (y := nI ((rbn a L k) + 1)) (nI_add _ _) ?_
            refine lv_aload_n hx hb dM_isOne_84 rfl (lv_at hl 3 rfl) ?_
            refine va_get (D := (dC, dI)) (ci := 3) (v := .int (nI L)) (C := RX3) (T := TX3) (N := 9) hx hb hts (by decide +kernel) hown hK hP 0 rfl rfl 4 (by decide) (hts (.fieldLink RX3 31 "WildCardsModel" "size" "I") (by decide +kernel)) (fun _ h9 => h9) rfl dM_isOne_85 ?_
            refine wl_icmp_ge (tgt := 129) hx hb dM_isOne_88 (by decide) (by omega) (by omega) (fun c88 => ?_) (fun c88 => ?_)
            · skip
              refine lv_iload hx hb dM_isOne_129 (lv_at hl 7 rfl) ?_
              refine wl_if_ne (tgt := 146) hx hb dM_isOne_131 (by decide) (by omega) (fun c131 => ?_) (fun c131 => ?_)
              · skip
                refine lv_iconst (v := nI 1) hx hb dM_isOne_146 (by decide) ?_
                refine lv_goto (tgt := 151) hx hb dM_isOne_147 (by decide) ?_
                refine lv_istore (lv' := [(5, .int (nI 1)), (7, .int (nI (rbv a L k))), (6, .int (nI (rbv a L k))), (3, .int (nI (rbn a L k))), (0, .ref m0), (1, .int (nI ix)), (2, .int (nI x)), (4, .int (nI 0))]) hx hb dM_isOne_151 hl (by decide) rfl (fun ls hl => ?_)
                refine lv_goto (tgt := 46) hx hb dM_isOne_153 (by decide) ?_
                have hl : lv_has ls 8 [(5, .int (nI 1)), (7, .int (nI (rbv a L k))), (6, .int (nI (rbv a L k))), (3, .int (nI (tnx a L k))), (0, .ref m0), (1, .int (nI ix)), (2, .int (nI x)), (4, .int (nI 0))] := by rw [← (tn_0 (rng_c (bnd_1 c88))).1]; exact hl
                exact ih46 (rr + 1, tnx a L k, true, rbv a L k) H locs ls ⟨(show (rr + 1) ≤ (tnx a L k) from by have := (tnx_le a c51).2; omega), (show (tnx a L k) ≤ L from (tnx_le a c51).1), (show MI a L x (ix + 1) (rr + 1) (tnx a L k) true from MI_s hMI c51 c62 hr0 (mi_t (bN_nz c131))), hP.sub [0, 1] rfl, hD.sub [0, 1] (by decide) rfl, hS, lv_sub hl [4, 5, 6, 3, 7, 0] rfl⟩ (by have := tnx_le a c51; (try dsimp only); omega)
              · skip
                refine lv_iload_n hx hb dM_isOne_134 rfl (lv_at hl 5 rfl) ?_
                refine lv_iload hx hb dM_isOne_135 (lv_at hl 1 rfl) ?_
                refine wl_icmp_lt (tgt := 150) hx hb dM_isOne_137 (by decide) (by omega) (by omega) (fun c137 => ?_) (fun c137 => ?_)
                · skip
                  refine lv_iconst (v := nI 0) hx hb dM_isOne_150 (by decide) ?_
                  refine lv_istore (lv' := [(5, .int (nI 0)), (7, .int (nI (rbv a L k))), (6, .int (nI (rbv a L k))), (3, .int (nI (rbn a L k))), (0, .ref m0), (1, .int (nI ix)), (2, .int (nI x)), (4, .int (nI 0))]) hx hb dM_isOne_151 hl (by decide) rfl (fun ls hl => ?_)
                  refine lv_goto (tgt := 46) hx hb dM_isOne_153 (by decide) ?_
                  have hl : lv_has ls 8 [(5, .int (nI 0)), (7, .int (nI (rbv a L k))), (6, .int (nI (rbv a L k))), (3, .int (nI (tnx a L k))), (0, .ref m0), (1, .int (nI ix)), (2, .int (nI x)), (4, .int (nI 0))] := by rw [← (tn_0 (rng_c (bnd_1 c88))).1]; exact hl
                  exact ih46 (rr + 1, tnx a L k, false, rbv a L k) H locs ls ⟨(show (rr + 1) ≤ (tnx a L k) from by have := (tnx_le a c51).2; omega), (show (tnx a L k) ≤ L from (tnx_le a c51).1), (show MI a L x (ix + 1) (rr + 1) (tnx a L k) false from MI_s hMI c51 c62 hr0 (mi_l (bN_z c131) c137)), hP.sub [0, 1] rfl, hD.sub [0, 1] (by decide) rfl, hS, lv_sub hl [4, 5, 6, 3, 7, 0] rfl⟩ (by have := tnx_le a c51; (try dsimp only); omega)
                · skip
                  refine lv_iload_n hx hb dM_isOne_140 rfl (lv_at hl 5 rfl) ?_
                  refine lv_iload hx hb dM_isOne_141 (lv_at hl 0 rfl) ?_
                  refine wl_icmp_gt (tgt := 150) hx hb dM_isOne_143 (by decide) (by omega) (by omega) (fun c143 => ?_) (fun c143 => ?_)
                  · skip
                    refine lv_iconst (v := nI 0) hx hb dM_isOne_150 (by decide) ?_
                    refine lv_istore (lv' := [(5, .int (nI 0)), (7, .int (nI (rbv a L k))), (6, .int (nI (rbv a L k))), (3, .int (nI (rbn a L k))), (0, .ref m0), (1, .int (nI ix)), (2, .int (nI x)), (4, .int (nI 0))]) hx hb dM_isOne_151 hl (by decide) rfl (fun ls hl => ?_)
                    refine lv_goto (tgt := 46) hx hb dM_isOne_153 (by decide) ?_
                    have hl : lv_has ls 8 [(5, .int (nI 0)), (7, .int (nI (rbv a L k))), (6, .int (nI (rbv a L k))), (3, .int (nI (tnx a L k))), (0, .ref m0), (1, .int (nI ix)), (2, .int (nI x)), (4, .int (nI 0))] := by rw [← (tn_0 (rng_c (bnd_1 c88))).1]; exact hl
                    exact ih46 (rr + 1, tnx a L k, false, rbv a L k) H locs ls ⟨(show (rr + 1) ≤ (tnx a L k) from by have := (tnx_le a c51).2; omega), (show (tnx a L k) ≤ L from (tnx_le a c51).1), (show MI a L x (ix + 1) (rr + 1) (tnx a L k) false from MI_s hMI c51 c62 hr0 (mi_h (bN_z c131) (by rw [(tn_0 (rng_c (bnd_1 c88))).2]; exact c143))), hP.sub [0, 1] rfl, hD.sub [0, 1] (by decide) rfl, hS, lv_sub hl [4, 5, 6, 3, 7, 0] rfl⟩ (by have := tnx_le a c51; (try dsimp only); omega)
                  · skip
                    refine lv_iconst (v := nI 1) hx hb dM_isOne_146 (by decide) ?_
                    refine lv_goto (tgt := 151) hx hb dM_isOne_147 (by decide) ?_
                    refine lv_istore (lv' := [(5, .int (nI 1)), (7, .int (nI (rbv a L k))), (6, .int (nI (rbv a L k))), (3, .int (nI (rbn a L k))), (0, .ref m0), (1, .int (nI ix)), (2, .int (nI x)), (4, .int (nI 0))]) hx hb dM_isOne_151 hl (by decide) rfl (fun ls hl => ?_)
                    refine lv_goto (tgt := 46) hx hb dM_isOne_153 (by decide) ?_
                    have hl : lv_has ls 8 [(5, .int (nI 1)), (7, .int (nI (rbv a L k))), (6, .int (nI (rbv a L k))), (3, .int (nI (tnx a L k))), (0, .ref m0), (1, .int (nI ix)), (2, .int (nI x)), (4, .int (nI 0))] := by rw [← (tn_0 (rng_c (bnd_1 c88))).1]; exact hl
                    exact ih46 (rr + 1, tnx a L k, true, rbv a L k) H locs ls ⟨(show (rr + 1) ≤ (tnx a L k) from by have := (tnx_le a c51).2; omega), (show (tnx a L k) ≤ L from (tnx_le a c51).1), (show MI a L x (ix + 1) (rr + 1) (tnx a L k) true from MI_s hMI c51 c62 hr0 (mi_i c137 (by rw [(tn_0 (rng_c (bnd_1 c88))).2]; exact c143))), hP.sub [0, 1] rfl, hD.sub [0, 1] (by decide) rfl, hS, lv_sub hl [4, 5, 6, 3, 7, 0] rfl⟩ (by have := tnx_le a c51; (try dsimp only); omega)
            · skip
              have h10 := ha _ (show rbn a L k < L by omega)
              refine lv_aload_n hx hb dM_isOne_91 rfl (lv_at hl 3 rfl) ?_
              refine va_get (D := (dC, dI)) (ci := 3) (v := .ref kp) (C := RX3) (T := TX3) (N := 9) hx hb hts (by decide +kernel) hown hK hP 0 rfl rfl 1 (by decide) (hts (.fieldLink RX3 13 "WildCardsModel" "pattern" "[I") (by decide +kernel)) (fun _ h9 => h9) rfl dM_isOne_92 ?_
              refine lv_iload_n hx hb dM_isOne_95 rfl (lv_at hl 2 rfl) ?_
              refine va_iald hx hb hK hP 1 0 rfl rfl (vp_in_nI (by omega) (by omega)) dM_isOne_96 ?_
              refine wl_asi (y := nI (a (rbn a L k))) (by rw [nI_clamp (by omega)]) ?_
              refine lv_bipush (v := nI 45) hx hb dM_isOne_97 (by decide) ?_
              refine wl_icmp_ne (tgt := 129) hx hb dM_isOne_99 (by decide) (by omega) (by omega) (fun c99 => ?_) (fun c99 => ?_)
              · skip
                refine lv_iload hx hb dM_isOne_129 (lv_at hl 7 rfl) ?_
                refine wl_if_ne (tgt := 146) hx hb dM_isOne_131 (by decide) (by omega) (fun c131 => ?_) (fun c131 => ?_)
                · skip
                  refine lv_iconst (v := nI 1) hx hb dM_isOne_146 (by decide) ?_
                  refine lv_goto (tgt := 151) hx hb dM_isOne_147 (by decide) ?_
                  refine lv_istore (lv' := [(5, .int (nI 1)), (7, .int (nI (rbv a L k))), (6, .int (nI (rbv a L k))), (3, .int (nI (rbn a L k))), (0, .ref m0), (1, .int (nI ix)), (2, .int (nI x)), (4, .int (nI 0))]) hx hb dM_isOne_151 hl (by decide) rfl (fun ls hl => ?_)
                  refine lv_goto (tgt := 46) hx hb dM_isOne_153 (by decide) ?_
                  have hl : lv_has ls 8 [(5, .int (nI 1)), (7, .int (nI (rbv a L k))), (6, .int (nI (rbv a L k))), (3, .int (nI (tnx a L k))), (0, .ref m0), (1, .int (nI ix)), (2, .int (nI x)), (4, .int (nI 0))] := by rw [← (tn_0 (rng_b c99)).1]; exact hl
                  exact ih46 (rr + 1, tnx a L k, true, rbv a L k) H locs ls ⟨(show (rr + 1) ≤ (tnx a L k) from by have := (tnx_le a c51).2; omega), (show (tnx a L k) ≤ L from (tnx_le a c51).1), (show MI a L x (ix + 1) (rr + 1) (tnx a L k) true from MI_s hMI c51 c62 hr0 (mi_t (bN_nz c131))), hP.sub [0, 1] rfl, hD.sub [0, 1] (by decide) rfl, hS, lv_sub hl [4, 5, 6, 3, 7, 0] rfl⟩ (by have := tnx_le a c51; (try dsimp only); omega)
                · skip
                  refine lv_iload_n hx hb dM_isOne_134 rfl (lv_at hl 5 rfl) ?_
                  refine lv_iload hx hb dM_isOne_135 (lv_at hl 1 rfl) ?_
                  refine wl_icmp_lt (tgt := 150) hx hb dM_isOne_137 (by decide) (by omega) (by omega) (fun c137 => ?_) (fun c137 => ?_)
                  · skip
                    refine lv_iconst (v := nI 0) hx hb dM_isOne_150 (by decide) ?_
                    refine lv_istore (lv' := [(5, .int (nI 0)), (7, .int (nI (rbv a L k))), (6, .int (nI (rbv a L k))), (3, .int (nI (rbn a L k))), (0, .ref m0), (1, .int (nI ix)), (2, .int (nI x)), (4, .int (nI 0))]) hx hb dM_isOne_151 hl (by decide) rfl (fun ls hl => ?_)
                    refine lv_goto (tgt := 46) hx hb dM_isOne_153 (by decide) ?_
                    have hl : lv_has ls 8 [(5, .int (nI 0)), (7, .int (nI (rbv a L k))), (6, .int (nI (rbv a L k))), (3, .int (nI (tnx a L k))), (0, .ref m0), (1, .int (nI ix)), (2, .int (nI x)), (4, .int (nI 0))] := by rw [← (tn_0 (rng_b c99)).1]; exact hl
                    exact ih46 (rr + 1, tnx a L k, false, rbv a L k) H locs ls ⟨(show (rr + 1) ≤ (tnx a L k) from by have := (tnx_le a c51).2; omega), (show (tnx a L k) ≤ L from (tnx_le a c51).1), (show MI a L x (ix + 1) (rr + 1) (tnx a L k) false from MI_s hMI c51 c62 hr0 (mi_l (bN_z c131) c137)), hP.sub [0, 1] rfl, hD.sub [0, 1] (by decide) rfl, hS, lv_sub hl [4, 5, 6, 3, 7, 0] rfl⟩ (by have := tnx_le a c51; (try dsimp only); omega)
                  · skip
                    refine lv_iload_n hx hb dM_isOne_140 rfl (lv_at hl 5 rfl) ?_
                    refine lv_iload hx hb dM_isOne_141 (lv_at hl 0 rfl) ?_
                    refine wl_icmp_gt (tgt := 150) hx hb dM_isOne_143 (by decide) (by omega) (by omega) (fun c143 => ?_) (fun c143 => ?_)
                    · skip
                      refine lv_iconst (v := nI 0) hx hb dM_isOne_150 (by decide) ?_
                      refine lv_istore (lv' := [(5, .int (nI 0)), (7, .int (nI (rbv a L k))), (6, .int (nI (rbv a L k))), (3, .int (nI (rbn a L k))), (0, .ref m0), (1, .int (nI ix)), (2, .int (nI x)), (4, .int (nI 0))]) hx hb dM_isOne_151 hl (by decide) rfl (fun ls hl => ?_)
                      refine lv_goto (tgt := 46) hx hb dM_isOne_153 (by decide) ?_
                      have hl : lv_has ls 8 [(5, .int (nI 0)), (7, .int (nI (rbv a L k))), (6, .int (nI (rbv a L k))), (3, .int (nI (tnx a L k))), (0, .ref m0), (1, .int (nI ix)), (2, .int (nI x)), (4, .int (nI 0))] := by rw [← (tn_0 (rng_b c99)).1]; exact hl
                      exact ih46 (rr + 1, tnx a L k, false, rbv a L k) H locs ls ⟨(show (rr + 1) ≤ (tnx a L k) from by have := (tnx_le a c51).2; omega), (show (tnx a L k) ≤ L from (tnx_le a c51).1), (show MI a L x (ix + 1) (rr + 1) (tnx a L k) false from MI_s hMI c51 c62 hr0 (mi_h (bN_z c131) (by rw [(tn_0 (rng_b c99)).2]; exact c143))), hP.sub [0, 1] rfl, hD.sub [0, 1] (by decide) rfl, hS, lv_sub hl [4, 5, 6, 3, 7, 0] rfl⟩ (by have := tnx_le a c51; (try dsimp only); omega)
                    · skip
                      refine lv_iconst (v := nI 1) hx hb dM_isOne_146 (by decide) ?_
                      refine lv_goto (tgt := 151) hx hb dM_isOne_147 (by decide) ?_
                      refine lv_istore (lv' := [(5, .int (nI 1)), (7, .int (nI (rbv a L k))), (6, .int (nI (rbv a L k))), (3, .int (nI (rbn a L k))), (0, .ref m0), (1, .int (nI ix)), (2, .int (nI x)), (4, .int (nI 0))]) hx hb dM_isOne_151 hl (by decide) rfl (fun ls hl => ?_)
                      refine lv_goto (tgt := 46) hx hb dM_isOne_153 (by decide) ?_
                      have hl : lv_has ls 8 [(5, .int (nI 1)), (7, .int (nI (rbv a L k))), (6, .int (nI (rbv a L k))), (3, .int (nI (tnx a L k))), (0, .ref m0), (1, .int (nI ix)), (2, .int (nI x)), (4, .int (nI 0))] := by rw [← (tn_0 (rng_b c99)).1]; exact hl
                      exact ih46 (rr + 1, tnx a L k, true, rbv a L k) H locs ls ⟨(show (rr + 1) ≤ (tnx a L k) from by have := (tnx_le a c51).2; omega), (show (tnx a L k) ≤ L from (tnx_le a c51).1), (show MI a L x (ix + 1) (rr + 1) (tnx a L k) true from MI_s hMI c51 c62 hr0 (mi_i c137 (by rw [(tn_0 (rng_b c99)).2]; exact c143))), hP.sub [0, 1] rfl, hD.sub [0, 1] (by decide) rfl, hS, lv_sub hl [4, 5, 6, 3, 7, 0] rfl⟩ (by have := tnx_le a c51; (try dsimp only); omega)
              · skip
                have h11 := ha _ c88
                refine lv_aload_n hx hb dM_isOne_102 rfl (lv_at hl 3 rfl) ?_
                refine va_get (D := (dC, dI)) (ci := 3) (v := .ref kp) (C := RX3) (T := TX3) (N := 9) hx hb hts (by decide +kernel) hown hK hP 0 rfl rfl 1 (by decide) (hts (.fieldLink RX3 13 "WildCardsModel" "pattern" "[I") (by decide +kernel)) (fun _ h9 => h9) rfl dM_isOne_103 ?_
                refine lv_iload_n hx hb dM_isOne_106 rfl (lv_at hl 2 rfl) ?_
                refine lv_iconst (v := nI 1) hx hb dM_isOne_107 (by decide) ?_
                refine lv_iadd hx hb dM_isOne_108 ?_
                refine wl_asi (y := nI ((rbn a L k) + 1)) (nI_add _ _) ?_
                refine va_iald hx hb hK hP 1 0 rfl rfl (vp_in_nI (by omega) (by omega)) dM_isOne_109 ?_
                refine wl_asi (y := nI (a ((rbn a L k) + 1))) (by rw [nI_clamp (by omega)]) ?_
                refine lv_bipush (v := nI 93) hx hb dM_isOne_110 (by decide) ?_
                refine wl_icmp_eq (tgt := 129) hx hb dM_isOne_112 (by decide) (by omega) (by omega) (fun c112 => ?_) (fun c112 => ?_)
                · skip
                  refine lv_iload hx hb dM_isOne_129 (lv_at hl 7 rfl) ?_
                  refine wl_if_ne (tgt := 146) hx hb dM_isOne_131 (by decide) (by omega) (fun c131 => ?_) (fun c131 => ?_)
                  · skip
                    refine lv_iconst (v := nI 1) hx hb dM_isOne_146 (by decide) ?_
                    refine lv_goto (tgt := 151) hx hb dM_isOne_147 (by decide) ?_
                    refine lv_istore (lv' := [(5, .int (nI 1)), (7, .int (nI (rbv a L k))), (6, .int (nI (rbv a L k))), (3, .int (nI (rbn a L k))), (0, .ref m0), (1, .int (nI ix)), (2, .int (nI x)), (4, .int (nI 0))]) hx hb dM_isOne_151 hl (by decide) rfl (fun ls hl => ?_)
                    refine lv_goto (tgt := 46) hx hb dM_isOne_153 (by decide) ?_
                    have hl : lv_has ls 8 [(5, .int (nI 1)), (7, .int (nI (rbv a L k))), (6, .int (nI (rbv a L k))), (3, .int (nI (tnx a L k))), (0, .ref m0), (1, .int (nI ix)), (2, .int (nI x)), (4, .int (nI 0))] := by rw [← (tn_0 (rng_c (bnd_3 c112))).1]; exact hl
                    exact ih46 (rr + 1, tnx a L k, true, rbv a L k) H locs ls ⟨(show (rr + 1) ≤ (tnx a L k) from by have := (tnx_le a c51).2; omega), (show (tnx a L k) ≤ L from (tnx_le a c51).1), (show MI a L x (ix + 1) (rr + 1) (tnx a L k) true from MI_s hMI c51 c62 hr0 (mi_t (bN_nz c131))), hP.sub [0, 1] rfl, hD.sub [0, 1] (by decide) rfl, hS, lv_sub hl [4, 5, 6, 3, 7, 0] rfl⟩ (by have := tnx_le a c51; (try dsimp only); omega)
                  · skip
                    refine lv_iload_n hx hb dM_isOne_134 rfl (lv_at hl 5 rfl) ?_
                    refine lv_iload hx hb dM_isOne_135 (lv_at hl 1 rfl) ?_
                    refine wl_icmp_lt (tgt := 150) hx hb dM_isOne_137 (by decide) (by omega) (by omega) (fun c137 => ?_) (fun c137 => ?_)
                    · skip
                      refine lv_iconst (v := nI 0) hx hb dM_isOne_150 (by decide) ?_
                      refine lv_istore (lv' := [(5, .int (nI 0)), (7, .int (nI (rbv a L k))), (6, .int (nI (rbv a L k))), (3, .int (nI (rbn a L k))), (0, .ref m0), (1, .int (nI ix)), (2, .int (nI x)), (4, .int (nI 0))]) hx hb dM_isOne_151 hl (by decide) rfl (fun ls hl => ?_)
                      refine lv_goto (tgt := 46) hx hb dM_isOne_153 (by decide) ?_
                      have hl : lv_has ls 8 [(5, .int (nI 0)), (7, .int (nI (rbv a L k))), (6, .int (nI (rbv a L k))), (3, .int (nI (tnx a L k))), (0, .ref m0), (1, .int (nI ix)), (2, .int (nI x)), (4, .int (nI 0))] := by rw [← (tn_0 (rng_c (bnd_3 c112))).1]; exact hl
                      exact ih46 (rr + 1, tnx a L k, false, rbv a L k) H locs ls ⟨(show (rr + 1) ≤ (tnx a L k) from by have := (tnx_le a c51).2; omega), (show (tnx a L k) ≤ L from (tnx_le a c51).1), (show MI a L x (ix + 1) (rr + 1) (tnx a L k) false from MI_s hMI c51 c62 hr0 (mi_l (bN_z c131) c137)), hP.sub [0, 1] rfl, hD.sub [0, 1] (by decide) rfl, hS, lv_sub hl [4, 5, 6, 3, 7, 0] rfl⟩ (by have := tnx_le a c51; (try dsimp only); omega)
                    · skip
                      refine lv_iload_n hx hb dM_isOne_140 rfl (lv_at hl 5 rfl) ?_
                      refine lv_iload hx hb dM_isOne_141 (lv_at hl 0 rfl) ?_
                      refine wl_icmp_gt (tgt := 150) hx hb dM_isOne_143 (by decide) (by omega) (by omega) (fun c143 => ?_) (fun c143 => ?_)
                      · skip
                        refine lv_iconst (v := nI 0) hx hb dM_isOne_150 (by decide) ?_
                        refine lv_istore (lv' := [(5, .int (nI 0)), (7, .int (nI (rbv a L k))), (6, .int (nI (rbv a L k))), (3, .int (nI (rbn a L k))), (0, .ref m0), (1, .int (nI ix)), (2, .int (nI x)), (4, .int (nI 0))]) hx hb dM_isOne_151 hl (by decide) rfl (fun ls hl => ?_)
                        refine lv_goto (tgt := 46) hx hb dM_isOne_153 (by decide) ?_
                        have hl : lv_has ls 8 [(5, .int (nI 0)), (7, .int (nI (rbv a L k))), (6, .int (nI (rbv a L k))), (3, .int (nI (tnx a L k))), (0, .ref m0), (1, .int (nI ix)), (2, .int (nI x)), (4, .int (nI 0))] := by rw [← (tn_0 (rng_c (bnd_3 c112))).1]; exact hl
                        exact ih46 (rr + 1, tnx a L k, false, rbv a L k) H locs ls ⟨(show (rr + 1) ≤ (tnx a L k) from by have := (tnx_le a c51).2; omega), (show (tnx a L k) ≤ L from (tnx_le a c51).1), (show MI a L x (ix + 1) (rr + 1) (tnx a L k) false from MI_s hMI c51 c62 hr0 (mi_h (bN_z c131) (by rw [(tn_0 (rng_c (bnd_3 c112))).2]; exact c143))), hP.sub [0, 1] rfl, hD.sub [0, 1] (by decide) rfl, hS, lv_sub hl [4, 5, 6, 3, 7, 0] rfl⟩ (by have := tnx_le a c51; (try dsimp only); omega)
                      · skip
                        refine lv_iconst (v := nI 1) hx hb dM_isOne_146 (by decide) ?_
                        refine lv_goto (tgt := 151) hx hb dM_isOne_147 (by decide) ?_
                        refine lv_istore (lv' := [(5, .int (nI 1)), (7, .int (nI (rbv a L k))), (6, .int (nI (rbv a L k))), (3, .int (nI (rbn a L k))), (0, .ref m0), (1, .int (nI ix)), (2, .int (nI x)), (4, .int (nI 0))]) hx hb dM_isOne_151 hl (by decide) rfl (fun ls hl => ?_)
                        refine lv_goto (tgt := 46) hx hb dM_isOne_153 (by decide) ?_
                        have hl : lv_has ls 8 [(5, .int (nI 1)), (7, .int (nI (rbv a L k))), (6, .int (nI (rbv a L k))), (3, .int (nI (tnx a L k))), (0, .ref m0), (1, .int (nI ix)), (2, .int (nI x)), (4, .int (nI 0))] := by rw [← (tn_0 (rng_c (bnd_3 c112))).1]; exact hl
                        exact ih46 (rr + 1, tnx a L k, true, rbv a L k) H locs ls ⟨(show (rr + 1) ≤ (tnx a L k) from by have := (tnx_le a c51).2; omega), (show (tnx a L k) ≤ L from (tnx_le a c51).1), (show MI a L x (ix + 1) (rr + 1) (tnx a L k) true from MI_s hMI c51 c62 hr0 (mi_i c137 (by rw [(tn_0 (rng_c (bnd_3 c112))).2]; exact c143))), hP.sub [0, 1] rfl, hD.sub [0, 1] (by decide) rfl, hS, lv_sub hl [4, 5, 6, 3, 7, 0] rfl⟩ (by have := tnx_le a c51; (try dsimp only); omega)
                · skip
                  refine lv_aload_n hx hb dM_isOne_115 rfl (lv_at hl 3 rfl) ?_
                  refine lv_iload_n hx hb dM_isOne_116 rfl (lv_at hl 2 rfl) ?_
                  refine lv_iconst (v := nI 1) hx hb dM_isOne_117 (by decide) ?_
                  refine lv_iadd hx hb dM_isOne_118 ?_
                  refine wl_asi (y := nI ((rbn a L k) + 1)) (nI_add _ _) ?_
                  have hPc := hP.sub (ws' := [(m0, .inr (3, [.ref kt, .ref kp, .ref kw, .int (nI tl), .int (nI L), .int (nI wn), .int (nI en), .int (nI (rbv a L k)), .ref kf])), (kp, .inl (cI, 400, .inl (fun j => nI (a j))))]) [0, 1] rfl
                  have hDc := hD.sub (ws' := [(m0, .inr (3, [.ref kt, .ref kp, .ref kw, .int (nI tl), .int (nI L), .int (nI wn), .int (nI en), .int (nI (rbv a L k)), .ref kf])), (kp, .inl (cI, 400, .inl (fun j => nI (a j))))]) [0, 1] (by decide) rfl
                  have hFc := va_free (wc := [(m0, .inr (3, [.ref kt, .ref kp, .ref kw, .int (nI tl), .int (nI L), .int (nI wn), .int (nI en), .int (nI (rbv a L k)), .ref kf])), (kp, .inl (cI, 400, .inl (fun j => nI (a j))))]) hD hS hA [0, 1] rfl
                  refine va_calli (va_runV (As := [.int (nI ((rbn a L k) + 1))]) (rest := []) ⟨hx, hb, hml, hown, hts⟩ (c_M_tells l dC dI cI cJ cZ m0 kt kp kw kf H.size tl L wn en (rbv a L k) a ((rbn a L k) + 1) hL ha c88) (cwV 1 hts gM_isOne_M_tells rfl rfl rfl (by decide +kernel) ⟨Nat.le_of_ble_eq_true rfl, Nat.le_of_ble_eq_true rfl⟩) ⟨fun a U g mk q => by obtain ⟨q0, q1, qP, qK, qD⟩ := q; exact ⟨q0, q1, qP, va_K.moved (u := U) (U := U.calling g mk a) (Vm.Alike.refl U.vm) qK, qD⟩, va_recv hK hPc (ci := 3) (q0 := 0) rfl rfl, fun U hU hW => ⟨rfl, by rw [hU], by rw [hU]; exact hPc, va_K.moved hW.alike hK, hDc.weaken (fun _ _ _ _ => trivial)⟩⟩ rfl rfl hl.1 rfl (lv_room (Nat.le_of_ble_eq_true rfl)) dM_isOne_119 ⟨show 0 + 0 + 0 ≤ 0 from by decide, show 0 + 0 + 0 ≤ 0 from by decide⟩) hS (fun q _ h => hFc q h) hFc (fun r119 u t H1 locs ht hvm hw119 hB hz1 hk1 hS => ?_)
                  obtain ⟨td2119, rfl⟩ : ∃ z, z = u := ⟨_, rfl⟩
                  obtain ⟨hP1, hK1, hD1⟩ := hB
                  rw [ht] at hP1
                  try dsimp only at hw119 hP1 hD1
                  obtain ⟨hP, hD⟩ := va_join (wr := []) (w1 := [(m0, .inr (3, [.ref kt, .ref kp, .ref kw, .int (nI tl), .int (nI L), .int (nI wn), .int (nI en), .int (nI td2119), .ref kf])), (kp, .inl (cI, 400, .inl (fun j => nI (a j))))]) hP hD [0, 1] [] rfl rfl (by decide) (by decide) hk1 hFc hP1 hD1
                  generalize H1 = H at hP hS ⊢
                  have hP : va_P (dC, dI) vwCl [(m0, .inr (3, [.ref kt, .ref kp, .ref kw, .int (nI tl), .int (nI L), .int (nI wn), .int (nI en), .int (nI td2119), .ref kf])), (kp, .inl (cI, 400, .inl (fun j => nI (a j))))] H := hP
                  have hD : va_D A [(m0, .inr (3, [.ref kt, .ref kp, .ref kw, .int (nI tl), .int (nI L), .int (nI wn), .int (nI en), .int (nI td2119), .ref kf])), (kp, .inl (cI, 400, .inl (fun j => nI (a j))))] := hD
                  obtain ⟨rfl, hr119⟩ := hw119
                  refine wl_asi (y := nI (rbn a L (rbn a L k + 1))) (hr119) ?_
                  have h5 := rbv_lt ha c88
                  refine lv_istore_n (lv' := [(3, .int (nI (rbn a L (rbn a L k + 1)))), (7, .int (nI (rbv a L k))), (6, .int (nI (rbv a L k))), (0, .ref m0), (1, .int (nI ix)), (2, .int (nI x)), (4, .int (nI 0)), (5, .int (nI (bN q)))]) hx hb dM_isOne_122 rfl hl (by decide) rfl (fun ls hl => ?_)
                  refine lv_aload_n hx hb dM_isOne_123 rfl (lv_at hl 3 rfl) ?_
                  refine va_get (D := (dC, dI)) (ci := 3) (v := .int (nI (rbv a L (rbn a L k + 1)))) (C := RX3) (T := TX3) (N := 9) hx hb hts (by decide +kernel) hown hK hP 0 rfl rfl 7 (by decide) (hts (.fieldLink RX3 37 "WildCardsModel" "told" "I") (by decide +kernel)) (fun _ h9 => h9) rfl dM_isOne_124 ?_
                  refine lv_istore (lv' := [(7, .int (nI (rbv a L (rbn a L k + 1)))), (3, .int (nI (rbn a L (rbn a L k + 1)))), (6, .int (nI (rbv a L k))), (0, .ref m0), (1, .int (nI ix)), (2, .int (nI x)), (4, .int (nI 0)), (5, .int (nI (bN q)))]) hx hb dM_isOne_127 hl (by decide) rfl (fun ls hl => ?_)
                  refine lv_iload hx hb dM_isOne_129 (lv_at hl 7 rfl) ?_
                  refine wl_if_ne (tgt := 146) hx hb dM_isOne_131 (by decide) (by omega) (fun c131 => ?_) (fun c131 => ?_)
                  · skip
                    refine lv_iconst (v := nI 1) hx hb dM_isOne_146 (by decide) ?_
                    refine lv_goto (tgt := 151) hx hb dM_isOne_147 (by decide) ?_
                    refine lv_istore (lv' := [(5, .int (nI 1)), (7, .int (nI (rbv a L (rbn a L k + 1)))), (3, .int (nI (rbn a L (rbn a L k + 1)))), (6, .int (nI (rbv a L k))), (0, .ref m0), (1, .int (nI ix)), (2, .int (nI x)), (4, .int (nI 0))]) hx hb dM_isOne_151 hl (by decide) rfl (fun ls hl => ?_)
                    refine lv_goto (tgt := 46) hx hb dM_isOne_153 (by decide) ?_
                    have hl : lv_has ls 8 [(5, .int (nI 1)), (7, .int (nI (rbv a L (rbn a L k + 1)))), (3, .int (nI (tnx a L k))), (6, .int (nI (rbv a L k))), (0, .ref m0), (1, .int (nI ix)), (2, .int (nI x)), (4, .int (nI 0))] := by rw [← (tn_1 (rng_1 (by omega) c99 (by rw [bnd_2 c88 c112]; decide))).1]; exact hl
                    exact ih46 (rr + 1, tnx a L k, true, rbv a L (rbn a L k + 1)) H locs ls ⟨(show (rr + 1) ≤ (tnx a L k) from by have := (tnx_le a c51).2; omega), (show (tnx a L k) ≤ L from (tnx_le a c51).1), (show MI a L x (ix + 1) (rr + 1) (tnx a L k) true from MI_s hMI c51 c62 hr0 (mi_t (bN_nz c131))), hP.sub [0, 1] rfl, hD.sub [0, 1] (by decide) rfl, hS, lv_sub hl [4, 5, 6, 2, 7, 0] rfl⟩ (by have := tnx_le a c51; (try dsimp only); omega)
                  · skip
                    refine lv_iload_n hx hb dM_isOne_134 rfl (lv_at hl 5 rfl) ?_
                    refine lv_iload hx hb dM_isOne_135 (lv_at hl 2 rfl) ?_
                    refine wl_icmp_lt (tgt := 150) hx hb dM_isOne_137 (by decide) (by omega) (by omega) (fun c137 => ?_) (fun c137 => ?_)
                    · skip
                      refine lv_iconst (v := nI 0) hx hb dM_isOne_150 (by decide) ?_
                      refine lv_istore (lv' := [(5, .int (nI 0)), (7, .int (nI (rbv a L (rbn a L k + 1)))), (3, .int (nI (rbn a L (rbn a L k + 1)))), (6, .int (nI (rbv a L k))), (0, .ref m0), (1, .int (nI ix)), (2, .int (nI x)), (4, .int (nI 0))]) hx hb dM_isOne_151 hl (by decide) rfl (fun ls hl => ?_)
                      refine lv_goto (tgt := 46) hx hb dM_isOne_153 (by decide) ?_
                      have hl : lv_has ls 8 [(5, .int (nI 0)), (7, .int (nI (rbv a L (rbn a L k + 1)))), (3, .int (nI (tnx a L k))), (6, .int (nI (rbv a L k))), (0, .ref m0), (1, .int (nI ix)), (2, .int (nI x)), (4, .int (nI 0))] := by rw [← (tn_1 (rng_1 (by omega) c99 (by rw [bnd_2 c88 c112]; decide))).1]; exact hl
                      exact ih46 (rr + 1, tnx a L k, false, rbv a L (rbn a L k + 1)) H locs ls ⟨(show (rr + 1) ≤ (tnx a L k) from by have := (tnx_le a c51).2; omega), (show (tnx a L k) ≤ L from (tnx_le a c51).1), (show MI a L x (ix + 1) (rr + 1) (tnx a L k) false from MI_s hMI c51 c62 hr0 (mi_l (bN_z c131) c137)), hP.sub [0, 1] rfl, hD.sub [0, 1] (by decide) rfl, hS, lv_sub hl [4, 5, 6, 2, 7, 0] rfl⟩ (by have := tnx_le a c51; (try dsimp only); omega)
                    · skip
                      refine lv_iload_n hx hb dM_isOne_140 rfl (lv_at hl 5 rfl) ?_
                      refine lv_iload hx hb dM_isOne_141 (lv_at hl 0 rfl) ?_
                      refine wl_icmp_gt (tgt := 150) hx hb dM_isOne_143 (by decide) (by omega) (by omega) (fun c143 => ?_) (fun c143 => ?_)
                      · skip
                        refine lv_iconst (v := nI 0) hx hb dM_isOne_150 (by decide) ?_
                        refine lv_istore (lv' := [(5, .int (nI 0)), (7, .int (nI (rbv a L (rbn a L k + 1)))), (3, .int (nI (rbn a L (rbn a L k + 1)))), (6, .int (nI (rbv a L k))), (0, .ref m0), (1, .int (nI ix)), (2, .int (nI x)), (4, .int (nI 0))]) hx hb dM_isOne_151 hl (by decide) rfl (fun ls hl => ?_)
                        refine lv_goto (tgt := 46) hx hb dM_isOne_153 (by decide) ?_
                        have hl : lv_has ls 8 [(5, .int (nI 0)), (7, .int (nI (rbv a L (rbn a L k + 1)))), (3, .int (nI (tnx a L k))), (6, .int (nI (rbv a L k))), (0, .ref m0), (1, .int (nI ix)), (2, .int (nI x)), (4, .int (nI 0))] := by rw [← (tn_1 (rng_1 (by omega) c99 (by rw [bnd_2 c88 c112]; decide))).1]; exact hl
                        exact ih46 (rr + 1, tnx a L k, false, rbv a L (rbn a L k + 1)) H locs ls ⟨(show (rr + 1) ≤ (tnx a L k) from by have := (tnx_le a c51).2; omega), (show (tnx a L k) ≤ L from (tnx_le a c51).1), (show MI a L x (ix + 1) (rr + 1) (tnx a L k) false from MI_s hMI c51 c62 hr0 (mi_h (bN_z c131) (by rw [(tn_1 (rng_1 (by omega) c99 (by rw [bnd_2 c88 c112]; decide))).2]; exact c143))), hP.sub [0, 1] rfl, hD.sub [0, 1] (by decide) rfl, hS, lv_sub hl [4, 5, 6, 2, 7, 0] rfl⟩ (by have := tnx_le a c51; (try dsimp only); omega)
                      · skip
                        refine lv_iconst (v := nI 1) hx hb dM_isOne_146 (by decide) ?_
                        refine lv_goto (tgt := 151) hx hb dM_isOne_147 (by decide) ?_
                        refine lv_istore (lv' := [(5, .int (nI 1)), (7, .int (nI (rbv a L (rbn a L k + 1)))), (3, .int (nI (rbn a L (rbn a L k + 1)))), (6, .int (nI (rbv a L k))), (0, .ref m0), (1, .int (nI ix)), (2, .int (nI x)), (4, .int (nI 0))]) hx hb dM_isOne_151 hl (by decide) rfl (fun ls hl => ?_)
                        refine lv_goto (tgt := 46) hx hb dM_isOne_153 (by decide) ?_
                        have hl : lv_has ls 8 [(5, .int (nI 1)), (7, .int (nI (rbv a L (rbn a L k + 1)))), (3, .int (nI (tnx a L k))), (6, .int (nI (rbv a L k))), (0, .ref m0), (1, .int (nI ix)), (2, .int (nI x)), (4, .int (nI 0))] := by rw [← (tn_1 (rng_1 (by omega) c99 (by rw [bnd_2 c88 c112]; decide))).1]; exact hl
                        exact ih46 (rr + 1, tnx a L k, true, rbv a L (rbn a L k + 1)) H locs ls ⟨(show (rr + 1) ≤ (tnx a L k) from by have := (tnx_le a c51).2; omega), (show (tnx a L k) ≤ L from (tnx_le a c51).1), (show MI a L x (ix + 1) (rr + 1) (tnx a L k) true from MI_s hMI c51 c62 hr0 (mi_i c137 (by rw [(tn_1 (rng_1 (by omega) c99 (by rw [bnd_2 c88 c112]; decide))).2]; exact c143))), hP.sub [0, 1] rfl, hD.sub [0, 1] (by decide) rfl, hS, lv_sub hl [4, 5, 6, 2, 7, 0] rfl⟩ (by have := tnx_le a c51; (try dsimp only); omega)
    · skip
      refine lv_iconst (v := nI 1) hx hb dM_isOne_23 (by decide) ?_
      refine lv_goto (tgt := 28) hx hb dM_isOne_24 (by decide) ?_
      refine lv_istore (lv' := [(4, .int (nI 1)), (3, .int (nI (ix + 1))), (0, .ref m0), (1, .int (nI ix)), (2, .int (nI x))]) hx hb dM_isOne_28 hl (by decide) rfl (fun ls hl => ?_)
      refine lv_iload_n hx hb dM_isOne_30 rfl (lv_at hl 1 rfl) ?_
      refine lv_iload hx hb dM_isOne_31 (lv_at hl 0 rfl) ?_
      refine lv_if_eq (tgt := 40) hx hb dM_isOne_33 (by decide) (fun c33 => ?_) (fun c33 => ?_)
      · first | exact absurd c33 (by decide) | exact absurd (by decide) c33
      · skip
        refine lv_iconst (v := nI 1) hx hb dM_isOne_36 (by decide) ?_
        refine lv_goto (tgt := 41) hx hb dM_isOne_37 (by decide) ?_
        refine lv_iadd hx hb dM_isOne_41 ?_
        refine wl_asi (y := nI ((ix + 1) + 1)) (nI_add _ _) ?_
        refine lv_istore_n (lv' := [(3, .int (nI ((ix + 1) + 1))), (4, .int (nI 1)), (0, .ref m0), (1, .int (nI ix)), (2, .int (nI x))]) hx hb dM_isOne_42 rfl hl (by decide) rfl (fun ls hl => ?_)
        refine lv_iconst (v := nI 0) hx hb dM_isOne_43 (by decide) ?_
        refine lv_istore (lv' := [(5, .int (nI 0)), (3, .int (nI ((ix + 1) + 1))), (4, .int (nI 1)), (0, .ref m0), (1, .int (nI ix)), (2, .int (nI x))]) hx hb dM_isOne_44 hl (by decide) rfl (fun ls hl => ?_)
        refine wl_loop (σ := Nat × Nat × Bool × Nat) (fun z9 => L - z9.2.1) (fun z9 H locs ls => (z9.1 ≤ z9.2.1) ∧ (z9.2.1 ≤ L) ∧ (MI a L x (ix + 1 + 1) z9.1 z9.2.1 z9.2.2.1) ∧ va_P (dC, dI) vwCl [(m0, .inr (3, [.ref kt, .ref kp, .ref kw, .int (nI tl), .int (nI L), .int (nI wn), .int (nI en), .int (nI z9.2.2.2), .ref kf])), (kp, .inl (cI, 400, .inl (fun j => nI (a j))))] H ∧ va_D A [(m0, .inr (3, [.ref kt, .ref kp, .ref kw, .int (nI tl), .int (nI L), .int (nI wn), .int (nI en), .int (nI z9.2.2.2), .ref kf])), (kp, .inl (cI, 400, .inl (fun j => nI (a j))))] ∧ va_S A s.heap H locs ∧ lv_has ls 8 [(0, .ref m0), (1, .int (nI ix)), (2, .int (nI x)), (3, .int (nI z9.2.1)), (4, .int (nI 1)), (5, .int (nI (bN z9.2.2.1)))]) ?_ (0, ix + 1 + 1, false, td) ⟨(show (0) ≤ (ix + 1 + 1) from Nat.zero_le _), (show (ix + 1 + 1) ≤ L from by omega), (show MI a L x (ix + 1 + 1) (0) (ix + 1 + 1) false from MI_0 _ _ _ _), hP.sub [0, 1] rfl, hD.sub [0, 1] (by decide) rfl, hS, lv_sub hl [3, 4, 5, 1, 2, 0] rfl⟩
        intro z9 H locs ls hI ih46
        obtain ⟨rr, k, q, td⟩ := z9
        obtain ⟨hr0, hk, hMI, hP, hD, hS, hl⟩ := hI
        try dsimp only at hr0 hk hMI hP hD hl
        have hP : va_P (dC, dI) vwCl [(m0, .inr (3, [.ref kt, .ref kp, .ref kw, .int (nI tl), .int (nI L), .int (nI wn), .int (nI en), .int (nI td), .ref kf])), (kp, .inl (cI, 400, .inl (fun j => nI (a j))))] H := hP
        have hD : va_D A [(m0, .inr (3, [.ref kt, .ref kp, .ref kw, .int (nI tl), .int (nI L), .int (nI wn), .int (nI en), .int (nI td), .ref kf])), (kp, .inl (cI, 400, .inl (fun j => nI (a j))))] := hD
        have hl : lv_has ls 8 [(0, .ref m0), (1, .int (nI ix)), (2, .int (nI x)), (3, .int (nI k)), (4, .int (nI 1)), (5, .int (nI (bN q)))] := hl
        have hq := bN_lt q
        refine lv_iload_n hx hb dM_isOne_46 rfl (lv_at hl 3 rfl) ?_
        refine lv_aload_n hx hb dM_isOne_47 rfl (lv_at hl 0 rfl) ?_
        refine va_get (D := (dC, dI)) (ci := 3) (v := .int (nI L)) (C := RX3) (T := TX3) (N := 9) hx hb hts (by decide +kernel) hown hK hP 0 rfl rfl 4 (by decide) (hts (.fieldLink RX3 31 "WildCardsModel" "size" "I") (by decide +kernel)) (fun _ h9 => h9) rfl dM_isOne_48 ?_
        refine wl_icmp_ge (tgt := 156) hx hb dM_isOne_51 (by decide) (by omega) (by omega) (fun c51 => ?_) (fun c51 => ?_)
        · skip
          refine lv_aload_n hx hb dM_isOne_156 rfl (lv_at hl 0 rfl) ?_
          refine lv_iload_n hx hb dM_isOne_157 rfl (lv_at hl 3 rfl) ?_
          refine lv_aload_n hx hb dM_isOne_158 rfl (lv_at hl 0 rfl) ?_
          refine va_get (D := (dC, dI)) (ci := 3) (v := .int (nI L)) (C := RX3) (T := TX3) (N := 9) hx hb hts (by decide +kernel) hown hK hP 0 rfl rfl 4 (by decide) (hts (.fieldLink RX3 31 "WildCardsModel" "size" "I") (by decide +kernel)) (fun _ h9 => h9) rfl dM_isOne_159 ?_
          refine wl_icmp_ge (tgt := 171) hx hb dM_isOne_162 (by decide) (by omega) (by omega) (fun c162 => ?_) (fun c162 => ?_)
          · skip
            refine lv_iload_n hx hb dM_isOne_171 rfl (lv_at hl 3 rfl) ?_
            refine va_put (D := (dC, dI)) (ci := 3) (v := .int (nI k)) (ty := .int) (C := RX3) (T := TX3) (N := 9) hx hb hts (by decide +kernel) tyX3 tyX3_ok nmX3 hown hK hP hD hS 0 rfl rfl 6 (by decide) (hts (.fieldLink RX3 44 "WildCardsModel" "end" "I") (by decide +kernel)) (fun _ h9 => h9) rfl (by decide +kernel) rfl rfl (Nat.le_of_ble_eq_true rfl) dM_isOne_172 (fun H locs hP hD hS => ?_)
            have hP : va_P (dC, dI) vwCl [(m0, .inr (3, [.ref kt, .ref kp, .ref kw, .int (nI tl), .int (nI L), .int (nI wn), .int (nI k), .int (nI td), .ref kf])), (kp, .inl (cI, 400, .inl (fun j => nI (a j))))] H := hP
            have hD : va_D A [(m0, .inr (3, [.ref kt, .ref kp, .ref kw, .int (nI tl), .int (nI L), .int (nI wn), .int (nI k), .int (nI td), .ref kf])), (kp, .inl (cI, 400, .inl (fun j => nI (a j))))] := hD
            refine lv_iload hx hb dM_isOne_175 (lv_at hl 5 rfl) ?_
            refine lv_iload hx hb dM_isOne_177 (lv_at hl 4 rfl) ?_
            refine wl_icmp_eq (tgt := 186) hx hb dM_isOne_179 (by decide) (by omega) (by omega) (fun c179 => ?_) (fun c179 => ?_)
            · skip
              refine lv_iconst (v := nI 0) hx hb dM_isOne_186 (by decide) ?_
              have hP9 := hP.sub (ws' := [(m0, .inr (3, [.ref kt, .ref kp, .ref kw, .int (nI tl), .int (nI L), .int (nI wn), .int (nI k), .int (nI td), .ref kf])), (kp, .inl (cI, 400, .inl (fun j => nI (a j))))]) [0, 1] rfl
              have hD9 := hD.sub (ws' := [(m0, .inr (3, [.ref kt, .ref kp, .ref kw, .int (nI tl), .int (nI L), .int (nI wn), .int (nI k), .int (nI td), .ref kf])), (kp, .inl (cI, 400, .inl (fun j => nI (a j))))]) [0, 1] (by decide) rfl
              exact W.zret (v := nI 0) hx hb hr (by decide) (fun t ht hW => ⟨⟨nI 0, (k, td), rfl, (show k = min (brn a L (ix + 1)) L ∧ (nI 0) = if brs a L (ix + 1) x = true then 1 else 0 from ⟨br_n1b (brg_1 c9 c20) (MI_e hMI (bnd_1 c51)).1 c162, br_r1s (brg_1 c9 c20) (MI_e hMI (bnd_1 c51)).2 c179⟩), by rw [ht]; exact hP9, va_K.moved hW.alike hK, hD9⟩, hS.F ht⟩) hS.2.2 dM_isOne_187
            · skip
              refine lv_iconst (v := nI 1) hx hb dM_isOne_182 (by decide) ?_
              refine lv_goto (tgt := 187) hx hb dM_isOne_183 (by decide) ?_
              have hP9 := hP.sub (ws' := [(m0, .inr (3, [.ref kt, .ref kp, .ref kw, .int (nI tl), .int (nI L), .int (nI wn), .int (nI k), .int (nI td), .ref kf])), (kp, .inl (cI, 400, .inl (fun j => nI (a j))))]) [0, 1] rfl
              have hD9 := hD.sub (ws' := [(m0, .inr (3, [.ref kt, .ref kp, .ref kw, .int (nI tl), .int (nI L), .int (nI wn), .int (nI k), .int (nI td), .ref kf])), (kp, .inl (cI, 400, .inl (fun j => nI (a j))))]) [0, 1] (by decide) rfl
              exact W.zret (v := nI 1) hx hb hr (by decide) (fun t ht hW => ⟨⟨nI 1, (k, td), rfl, (show k = min (brn a L (ix + 1)) L ∧ (nI 1) = if brs a L (ix + 1) x = true then 1 else 0 from ⟨br_n1b (brg_1 c9 c20) (MI_e hMI (bnd_1 c51)).1 c162, br_r1d (brg_1 c9 c20) (MI_e hMI (bnd_1 c51)).2 c179⟩), by rw [ht]; exact hP9, va_K.moved hW.alike hK, hD9⟩, hS.F ht⟩) hS.2.2 dM_isOne_187
          · skip
            refine lv_iload_n hx hb dM_isOne_165 rfl (lv_at hl 3 rfl) ?_
            refine lv_iconst (v := nI 1) hx hb dM_isOne_166 (by decide) ?_
            refine lv_iadd hx hb dM_isOne_167 ?_
            refine wl_asi (y := nI (k + 1)) (nI_add _ _) ?_
            refine lv_goto (tgt := 172) hx hb dM_isOne_168 (by decide) ?_
            refine va_put (D := (dC, dI)) (ci := 3) (v := .int (nI (k + 1))) (ty := .int) (C := RX3) (T := TX3) (N := 9) hx hb hts (by decide +kernel) tyX3 tyX3_ok nmX3 hown hK hP hD hS 0 rfl rfl 6 (by decide) (hts (.fieldLink RX3 44 "WildCardsModel" "end" "I") (by decide +kernel)) (fun _ h9 => h9) rfl (by decide +kernel) rfl rfl (Nat.le_of_ble_eq_true rfl) dM_isOne_172 (fun H locs hP hD hS => ?_)
            have hP : va_P (dC, dI) vwCl [(m0, .inr (3, [.ref kt, .ref kp, .ref kw, .int (nI tl), .int (nI L), .int (nI wn), .int (nI (k + 1)), .int (nI td), .ref kf])), (kp, .inl (cI, 400, .inl (fun j => nI (a j))))] H := hP
            have hD : va_D A [(m0, .inr (3, [.ref kt, .ref kp, .ref kw, .int (nI tl), .int (nI L), .int (nI wn), .int (nI (k + 1)), .int (nI td), .ref kf])), (kp, .inl (cI, 400, .inl (fun j => nI (a j))))] := hD
            refine lv_iload hx hb dM_isOne_175 (lv_at hl 5 rfl) ?_
            refine lv_iload hx hb dM_isOne_177 (lv_at hl 4 rfl) ?_
            refine wl_icmp_eq (tgt := 186) hx hb dM_isOne_179 (by decide) (by omega) (by omega) (fun c179 => ?_) (fun c179 => ?_)
            · skip
              refine lv_iconst (v := nI 0) hx hb dM_isOne_186 (by decide) ?_
              have hP9 := hP.sub (ws' := [(m0, .inr (3, [.ref kt, .ref kp, .ref kw, .int (nI tl), .int (nI L), .int (nI wn), .int (nI (k + 1)), .int (nI td), .ref kf])), (kp, .inl (cI, 400, .inl (fun j => nI (a j))))]) [0, 1] rfl
              have hD9 := hD.sub (ws' := [(m0, .inr (3, [.ref kt, .ref kp, .ref kw, .int (nI tl), .int (nI L), .int (nI wn), .int (nI (k + 1)), .int (nI td), .ref kf])), (kp, .inl (cI, 400, .inl (fun j => nI (a j))))]) [0, 1] (by decide) rfl
              exact W.zret (v := nI 0) hx hb hr (by decide) (fun t ht hW => ⟨⟨nI 0, (k + 1, td), rfl, (show (k + 1) = min (brn a L (ix + 1)) L ∧ (nI 0) = if brs a L (ix + 1) x = true then 1 else 0 from ⟨br_n1a (brg_1 c9 c20) (MI_e hMI (bnd_1 c51)).1 c162, br_r1s (brg_1 c9 c20) (MI_e hMI (bnd_1 c51)).2 c179⟩), by rw [ht]; exact hP9, va_K.moved hW.alike hK, hD9⟩, hS.F ht⟩) hS.2.2 dM_isOne_187
            · skip
              refine lv_iconst (v := nI 1) hx hb dM_isOne_182 (by decide) ?_
              refine lv_goto (tgt := 187) hx hb dM_isOne_183 (by decide) ?_
              have hP9 := hP.sub (ws' := [(m0, .inr (3, [.ref kt, .ref kp, .ref kw, .int (nI tl), .int (nI L), .int (nI wn), .int (nI (k + 1)), .int (nI td), .ref kf])), (kp, .inl (cI, 400, .inl (fun j => nI (a j))))]) [0, 1] rfl
              have hD9 := hD.sub (ws' := [(m0, .inr (3, [.ref kt, .ref kp, .ref kw, .int (nI tl), .int (nI L), .int (nI wn), .int (nI (k + 1)), .int (nI td), .ref kf])), (kp, .inl (cI, 400, .inl (fun j => nI (a j))))]) [0, 1] (by decide) rfl
              exact W.zret (v := nI 1) hx hb hr (by decide) (fun t ht hW => ⟨⟨nI 1, (k + 1, td), rfl, (show (k + 1) = min (brn a L (ix + 1)) L ∧ (nI 1) = if brs a L (ix + 1) x = true then 1 else 0 from ⟨br_n1a (brg_1 c9 c20) (MI_e hMI (bnd_1 c51)).1 c162, br_r1d (brg_1 c9 c20) (MI_e hMI (bnd_1 c51)).2 c179⟩), by rw [ht]; exact hP9, va_K.moved hW.alike hK, hD9⟩, hS.F ht⟩) hS.2.2 dM_isOne_187
        · skip
          have h9 := ha k c51
          refine lv_aload_n hx hb dM_isOne_54 rfl (lv_at hl 0 rfl) ?_
          refine va_get (D := (dC, dI)) (ci := 3) (v := .ref kp) (C := RX3) (T := TX3) (N := 9) hx hb hts (by decide +kernel) hown hK hP 0 rfl rfl 1 (by decide) (hts (.fieldLink RX3 13 "WildCardsModel" "pattern" "[I") (by decide +kernel)) (fun _ h9 => h9) rfl dM_isOne_55 ?_
          refine lv_iload_n hx hb dM_isOne_58 rfl (lv_at hl 3 rfl) ?_
          refine va_iald hx hb hK hP 1 0 rfl rfl (vp_in_nI (by omega) (by omega)) dM_isOne_59 ?_
          refine wl_asi (y := nI (a k)) (by rw [nI_clamp (by omega)]) ?_
          refine lv_bipush (v := nI 93) hx hb dM_isOne_60 (by decide) ?_
          refine wl_icmp_eq (tgt := 156) hx hb dM_isOne_62 (by decide) (by omega) (by omega) (fun c62 => ?_) (fun c62 => ?_)
          · skip
            refine lv_aload_n hx hb dM_isOne_156 rfl (lv_at hl 0 rfl) ?_
            refine lv_iload_n hx hb dM_isOne_157 rfl (lv_at hl 3 rfl) ?_
            refine lv_aload_n hx hb dM_isOne_158 rfl (lv_at hl 0 rfl) ?_
            refine va_get (D := (dC, dI)) (ci := 3) (v := .int (nI L)) (C := RX3) (T := TX3) (N := 9) hx hb hts (by decide +kernel) hown hK hP 0 rfl rfl 4 (by decide) (hts (.fieldLink RX3 31 "WildCardsModel" "size" "I") (by decide +kernel)) (fun _ h9 => h9) rfl dM_isOne_159 ?_
            refine wl_icmp_ge (tgt := 171) hx hb dM_isOne_162 (by decide) (by omega) (by omega) (fun c162 => ?_) (fun c162 => ?_)
            · skip
              refine lv_iload_n hx hb dM_isOne_171 rfl (lv_at hl 3 rfl) ?_
              refine va_put (D := (dC, dI)) (ci := 3) (v := .int (nI k)) (ty := .int) (C := RX3) (T := TX3) (N := 9) hx hb hts (by decide +kernel) tyX3 tyX3_ok nmX3 hown hK hP hD hS 0 rfl rfl 6 (by decide) (hts (.fieldLink RX3 44 "WildCardsModel" "end" "I") (by decide +kernel)) (fun _ h9 => h9) rfl (by decide +kernel) rfl rfl (Nat.le_of_ble_eq_true rfl) dM_isOne_172 (fun H locs hP hD hS => ?_)
              have hP : va_P (dC, dI) vwCl [(m0, .inr (3, [.ref kt, .ref kp, .ref kw, .int (nI tl), .int (nI L), .int (nI wn), .int (nI k), .int (nI td), .ref kf])), (kp, .inl (cI, 400, .inl (fun j => nI (a j))))] H := hP
              have hD : va_D A [(m0, .inr (3, [.ref kt, .ref kp, .ref kw, .int (nI tl), .int (nI L), .int (nI wn), .int (nI k), .int (nI td), .ref kf])), (kp, .inl (cI, 400, .inl (fun j => nI (a j))))] := hD
              refine lv_iload hx hb dM_isOne_175 (lv_at hl 5 rfl) ?_
              refine lv_iload hx hb dM_isOne_177 (lv_at hl 4 rfl) ?_
              refine wl_icmp_eq (tgt := 186) hx hb dM_isOne_179 (by decide) (by omega) (by omega) (fun c179 => ?_) (fun c179 => ?_)
              · skip
                refine lv_iconst (v := nI 0) hx hb dM_isOne_186 (by decide) ?_
                have hP9 := hP.sub (ws' := [(m0, .inr (3, [.ref kt, .ref kp, .ref kw, .int (nI tl), .int (nI L), .int (nI wn), .int (nI k), .int (nI td), .ref kf])), (kp, .inl (cI, 400, .inl (fun j => nI (a j))))]) [0, 1] rfl
                have hD9 := hD.sub (ws' := [(m0, .inr (3, [.ref kt, .ref kp, .ref kw, .int (nI tl), .int (nI L), .int (nI wn), .int (nI k), .int (nI td), .ref kf])), (kp, .inl (cI, 400, .inl (fun j => nI (a j))))]) [0, 1] (by decide) rfl
                exact W.zret (v := nI 0) hx hb hr (by decide) (fun t ht hW => ⟨⟨nI 0, (k, td), rfl, (show k = min (brn a L (ix + 1)) L ∧ (nI 0) = if brs a L (ix + 1) x = true then 1 else 0 from ⟨br_n1b (brg_1 c9 c20) (MI_e hMI (bnd_3 c62)).1 c162, br_r1s (brg_1 c9 c20) (MI_e hMI (bnd_3 c62)).2 c179⟩), by rw [ht]; exact hP9, va_K.moved hW.alike hK, hD9⟩, hS.F ht⟩) hS.2.2 dM_isOne_187
              · skip
                refine lv_iconst (v := nI 1) hx hb dM_isOne_182 (by decide) ?_
                refine lv_goto (tgt := 187) hx hb dM_isOne_183 (by decide) ?_
                have hP9 := hP.sub (ws' := [(m0, .inr (3, [.ref kt, .ref kp, .ref kw, .int (nI tl), .int (nI L), .int (nI wn), .int (nI k), .int (nI td), .ref kf])), (kp, .inl (cI, 400, .inl (fun j => nI (a j))))]) [0, 1] rfl
                have hD9 := hD.sub (ws' := [(m0, .inr (3, [.ref kt, .ref kp, .ref kw, .int (nI tl), .int (nI L), .int (nI wn), .int (nI k), .int (nI td), .ref kf])), (kp, .inl (cI, 400, .inl (fun j => nI (a j))))]) [0, 1] (by decide) rfl
                exact W.zret (v := nI 1) hx hb hr (by decide) (fun t ht hW => ⟨⟨nI 1, (k, td), rfl, (show k = min (brn a L (ix + 1)) L ∧ (nI 1) = if brs a L (ix + 1) x = true then 1 else 0 from ⟨br_n1b (brg_1 c9 c20) (MI_e hMI (bnd_3 c62)).1 c162, br_r1d (brg_1 c9 c20) (MI_e hMI (bnd_3 c62)).2 c179⟩), by rw [ht]; exact hP9, va_K.moved hW.alike hK, hD9⟩, hS.F ht⟩) hS.2.2 dM_isOne_187
            · skip
              refine lv_iload_n hx hb dM_isOne_165 rfl (lv_at hl 3 rfl) ?_
              refine lv_iconst (v := nI 1) hx hb dM_isOne_166 (by decide) ?_
              refine lv_iadd hx hb dM_isOne_167 ?_
              refine wl_asi (y := nI (k + 1)) (nI_add _ _) ?_
              refine lv_goto (tgt := 172) hx hb dM_isOne_168 (by decide) ?_
              refine va_put (D := (dC, dI)) (ci := 3) (v := .int (nI (k + 1))) (ty := .int) (C := RX3) (T := TX3) (N := 9) hx hb hts (by decide +kernel) tyX3 tyX3_ok nmX3 hown hK hP hD hS 0 rfl rfl 6 (by decide) (hts (.fieldLink RX3 44 "WildCardsModel" "end" "I") (by decide +kernel)) (fun _ h9 => h9) rfl (by decide +kernel) rfl rfl (Nat.le_of_ble_eq_true rfl) dM_isOne_172 (fun H locs hP hD hS => ?_)
              have hP : va_P (dC, dI) vwCl [(m0, .inr (3, [.ref kt, .ref kp, .ref kw, .int (nI tl), .int (nI L), .int (nI wn), .int (nI (k + 1)), .int (nI td), .ref kf])), (kp, .inl (cI, 400, .inl (fun j => nI (a j))))] H := hP
              have hD : va_D A [(m0, .inr (3, [.ref kt, .ref kp, .ref kw, .int (nI tl), .int (nI L), .int (nI wn), .int (nI (k + 1)), .int (nI td), .ref kf])), (kp, .inl (cI, 400, .inl (fun j => nI (a j))))] := hD
              refine lv_iload hx hb dM_isOne_175 (lv_at hl 5 rfl) ?_
              refine lv_iload hx hb dM_isOne_177 (lv_at hl 4 rfl) ?_
              refine wl_icmp_eq (tgt := 186) hx hb dM_isOne_179 (by decide) (by omega) (by omega) (fun c179 => ?_) (fun c179 => ?_)
              · skip
                refine lv_iconst (v := nI 0) hx hb dM_isOne_186 (by decide) ?_
                have hP9 := hP.sub (ws' := [(m0, .inr (3, [.ref kt, .ref kp, .ref kw, .int (nI tl), .int (nI L), .int (nI wn), .int (nI (k + 1)), .int (nI td), .ref kf])), (kp, .inl (cI, 400, .inl (fun j => nI (a j))))]) [0, 1] rfl
                have hD9 := hD.sub (ws' := [(m0, .inr (3, [.ref kt, .ref kp, .ref kw, .int (nI tl), .int (nI L), .int (nI wn), .int (nI (k + 1)), .int (nI td), .ref kf])), (kp, .inl (cI, 400, .inl (fun j => nI (a j))))]) [0, 1] (by decide) rfl
                exact W.zret (v := nI 0) hx hb hr (by decide) (fun t ht hW => ⟨⟨nI 0, (k + 1, td), rfl, (show (k + 1) = min (brn a L (ix + 1)) L ∧ (nI 0) = if brs a L (ix + 1) x = true then 1 else 0 from ⟨br_n1a (brg_1 c9 c20) (MI_e hMI (bnd_3 c62)).1 c162, br_r1s (brg_1 c9 c20) (MI_e hMI (bnd_3 c62)).2 c179⟩), by rw [ht]; exact hP9, va_K.moved hW.alike hK, hD9⟩, hS.F ht⟩) hS.2.2 dM_isOne_187
              · skip
                refine lv_iconst (v := nI 1) hx hb dM_isOne_182 (by decide) ?_
                refine lv_goto (tgt := 187) hx hb dM_isOne_183 (by decide) ?_
                have hP9 := hP.sub (ws' := [(m0, .inr (3, [.ref kt, .ref kp, .ref kw, .int (nI tl), .int (nI L), .int (nI wn), .int (nI (k + 1)), .int (nI td), .ref kf])), (kp, .inl (cI, 400, .inl (fun j => nI (a j))))]) [0, 1] rfl
                have hD9 := hD.sub (ws' := [(m0, .inr (3, [.ref kt, .ref kp, .ref kw, .int (nI tl), .int (nI L), .int (nI wn), .int (nI (k + 1)), .int (nI td), .ref kf])), (kp, .inl (cI, 400, .inl (fun j => nI (a j))))]) [0, 1] (by decide) rfl
                exact W.zret (v := nI 1) hx hb hr (by decide) (fun t ht hW => ⟨⟨nI 1, (k + 1, td), rfl, (show (k + 1) = min (brn a L (ix + 1)) L ∧ (nI 1) = if brs a L (ix + 1) x = true then 1 else 0 from ⟨br_n1a (brg_1 c9 c20) (MI_e hMI (bnd_3 c62)).1 c162, br_r1d (brg_1 c9 c20) (MI_e hMI (bnd_3 c62)).2 c179⟩), by rw [ht]; exact hP9, va_K.moved hW.alike hK, hD9⟩, hS.F ht⟩) hS.2.2 dM_isOne_187
          · skip
            refine lv_aload_n hx hb dM_isOne_65 rfl (lv_at hl 0 rfl) ?_
            refine lv_iload_n hx hb dM_isOne_66 rfl (lv_at hl 3 rfl) ?_
            have hPc := hP.sub (ws' := [(m0, .inr (3, [.ref kt, .ref kp, .ref kw, .int (nI tl), .int (nI L), .int (nI wn), .int (nI en), .int (nI td), .ref kf])), (kp, .inl (cI, 400, .inl (fun j => nI (a j))))]) [0, 1] rfl
            have hDc := hD.sub (ws' := [(m0, .inr (3, [.ref kt, .ref kp, .ref kw, .int (nI tl), .int (nI L), .int (nI wn), .int (nI en), .int (nI td), .ref kf])), (kp, .inl (cI, 400, .inl (fun j => nI (a j))))]) [0, 1] (by decide) rfl
            have hFc := va_free (wc := [(m0, .inr (3, [.ref kt, .ref kp, .ref kw, .int (nI tl), .int (nI L), .int (nI wn), .int (nI en), .int (nI td), .ref kf])), (kp, .inl (cI, 400, .inl (fun j => nI (a j))))]) hD hS hA [0, 1] rfl
            refine va_calli (va_runV (As := [.int (nI k)]) (rest := []) ⟨hx, hb, hml, hown, hts⟩ (c_M_tells l dC dI cI cJ cZ m0 kt kp kw kf H.size tl L wn en td a k hL ha c51) (cwV 1 hts gM_isOne_M_tells rfl rfl rfl (by decide +kernel) ⟨Nat.le_of_ble_eq_true rfl, Nat.le_of_ble_eq_true rfl⟩) ⟨fun a U g mk q => by obtain ⟨q0, q1, qP, qK, qD⟩ := q; exact ⟨q0, q1, qP, va_K.moved (u := U) (U := U.calling g mk a) (Vm.Alike.refl U.vm) qK, qD⟩, va_recv hK hPc (ci := 3) (q0 := 0) rfl rfl, fun U hU hW => ⟨rfl, by rw [hU], by rw [hU]; exact hPc, va_K.moved hW.alike hK, hDc.weaken (fun _ _ _ _ => trivial)⟩⟩ rfl rfl hl.1 rfl (lv_room (Nat.le_of_ble_eq_true rfl)) dM_isOne_67 ⟨show 0 + 0 ≤ 0 from by decide, show 0 + 0 ≤ 0 from by decide⟩) hS (fun q _ h => hFc q h) hFc (fun r67 u t H1 locs ht hvm hw67 hB hz1 hk1 hS => ?_)
            obtain ⟨td267, rfl⟩ : ∃ z, z = u := ⟨_, rfl⟩
            obtain ⟨hP1, hK1, hD1⟩ := hB
            rw [ht] at hP1
            try dsimp only at hw67 hP1 hD1
            obtain ⟨hP, hD⟩ := va_join (wr := []) (w1 := [(m0, .inr (3, [.ref kt, .ref kp, .ref kw, .int (nI tl), .int (nI L), .int (nI wn), .int (nI en), .int (nI td267), .ref kf])), (kp, .inl (cI, 400, .inl (fun j => nI (a j))))]) hP hD [0, 1] [] rfl rfl (by decide) (by decide) hk1 hFc hP1 hD1
            generalize H1 = H at hP hS ⊢
            have hP : va_P (dC, dI) vwCl [(m0, .inr (3, [.ref kt, .ref kp, .ref kw, .int (nI tl), .int (nI L), .int (nI wn), .int (nI en), .int (nI td267), .ref kf])), (kp, .inl (cI, 400, .inl (fun j => nI (a j))))] H := hP
            have hD : va_D A [(m0, .inr (3, [.ref kt, .ref kp, .ref kw, .int (nI tl), .int (nI L), .int (nI wn), .int (nI en), .int (nI td267), .ref kf])), (kp, .inl (cI, 400, .inl (fun j => nI (a j))))] := hD
            obtain ⟨rfl, hr67⟩ := hw67
            refine wl_asi (y := nI (rbn a L k)) (hr67) ?_
            have h7 := rbn_le a c51
            have h6 := rbv_lt ha c51
            refine lv_istore_n (lv' := [(3, .int (nI (rbn a L k))), (0, .ref m0), (1, .int (nI ix)), (2, .int (nI x)), (4, .int (nI 1)), (5, .int (nI (bN q)))]) hx hb dM_isOne_70 rfl hl (by decide) rfl (fun ls hl => ?_)
            refine lv_aload_n hx hb dM_isOne_71 rfl (lv_at hl 1 rfl) ?_
            refine va_get (D := (dC, dI)) (ci := 3) (v := .int (nI (rbv a L k))) (C := RX3) (T := TX3) (N := 9) hx hb hts (by decide +kernel) hown hK hP 0 rfl rfl 7 (by decide) (hts (.fieldLink RX3 37 "WildCardsModel" "told" "I") (by decide +kernel)) (fun _ h9 => h9) rfl dM_isOne_72 ?_
            refine lv_istore (lv' := [(6, .int (nI (rbv a L k))), (3, .int (nI (rbn a L k))), (0, .ref m0), (1, .int (nI ix)), (2, .int (nI x)), (4, .int (nI 1)), (5, .int (nI (bN q)))]) hx hb dM_isOne_75 hl (by decide) rfl (fun ls hl => ?_)
            refine lv_iload hx hb dM_isOne_77 (lv_at hl 0 rfl) ?_
            refine lv_istore (lv' := [(7, .int (nI (rbv a L k))), (6, .int (nI (rbv a L k))), (3, .int (nI (rbn a L k))), (0, .ref m0), (1, .int (nI ix)), (2, .int (nI x)), (4, .int (nI 1)), (5, .int (nI (bN q)))]) hx hb dM_isOne_79 hl (by decide) rfl (fun ls hl => ?_)
            refine lv_iload_n hx hb dM_isOne_81 rfl (lv_at hl 2 rfl) ?_
            refine lv_iconst (v := nI 1) hx hb dM_isOne_82 (by decide) ?_
            refine lv_iadd hx hb dM_isOne_83 ?_
            refine wl_asi (y := nI ((rbn a L k) + 1)) (nI_add _ _) ?_
            refine lv_aload_n hx hb dM_isOne_84 rfl (lv_at hl 3 rfl) ?_
            refine va_get (D := (dC, dI)) (ci := 3) (v := .int (nI L)) (C := RX3) (T := TX3) (N := 9) hx hb hts (by decide +kernel) hown hK hP 0 rfl rfl 4 (by decide) (hts (.fieldLink RX3 31 "WildCardsModel" "size" "I") (by decide +kernel)) (fun _ h9 => h9) rfl dM_isOne_85 ?_
            refine wl_icmp_ge (tgt := 129) hx hb dM_isOne_88 (by decide) (by omega) (by omega) (fun c88 => ?_) (fun c88 => ?_)
            · skip
              refine lv_iload hx hb dM_isOne_129 (lv_at hl 7 rfl) ?_
              refine wl_if_ne (tgt := 146) hx hb dM_isOne_131 (by decide) (by omega) (fun c131 => ?_) (fun c131 => ?_)
              · skip
                refine lv_iconst (v := nI 1) hx hb dM_isOne_146 (by decide) ?_
                refine lv_goto (tgt := 151) hx hb dM_isOne_147 (by decide) ?_
                refine lv_istore (lv' := [(5, .int (nI 1)), (7, .int (nI (rbv a L k))), (6, .int (nI (rbv a L k))), (3, .int (nI (rbn a L k))), (0, .ref m0), (1, .int (nI ix)), (2, .int (nI x)), (4, .int (nI 1))]) hx hb dM_isOne_151 hl (by decide) rfl (fun ls hl => ?_)
                refine lv_goto (tgt := 46) hx hb dM_isOne_153 (by decide) ?_
                have hl : lv_has ls 8 [(5, .int (nI 1)), (7, .int (nI (rbv a L k))), (6, .int (nI (rbv a L k))), (3, .int (nI (tnx a L k))), (0, .ref m0), (1, .int (nI ix)), (2, .int (nI x)), (4, .int (nI 1))] := by rw [← (tn_0 (rng_c (bnd_1 c88))).1]; exact hl
                exact ih46 (rr + 1, tnx a L k, true, rbv a L k) H locs ls ⟨(show (rr + 1) ≤ (tnx a L k) from by have := (tnx_le a c51).2; omega), (show (tnx a L k) ≤ L from (tnx_le a c51).1), (show MI a L x (ix + 1 + 1) (rr + 1) (tnx a L k) true from MI_s hMI c51 c62 hr0 (mi_t (bN_nz c131))), hP.sub [0, 1] rfl, hD.sub [0, 1] (by decide) rfl, hS, lv_sub hl [4, 5, 6, 3, 7, 0] rfl⟩ (by have := tnx_le a c51; (try dsimp only); omega)
              · skip
                refine lv_iload_n hx hb dM_isOne_134 rfl (lv_at hl 5 rfl) ?_
                refine lv_iload hx hb dM_isOne_135 (lv_at hl 1 rfl) ?_
                refine wl_icmp_lt (tgt := 150) hx hb dM_isOne_137 (by decide) (by omega) (by omega) (fun c137 => ?_) (fun c137 => ?_)
                · skip
                  refine lv_iconst (v := nI 0) hx hb dM_isOne_150 (by decide) ?_
                  refine lv_istore (lv' := [(5, .int (nI 0)), (7, .int (nI (rbv a L k))), (6, .int (nI (rbv a L k))), (3, .int (nI (rbn a L k))), (0, .ref m0), (1, .int (nI ix)), (2, .int (nI x)), (4, .int (nI 1))]) hx hb dM_isOne_151 hl (by decide) rfl (fun ls hl => ?_)
                  refine lv_goto (tgt := 46) hx hb dM_isOne_153 (by decide) ?_
                  have hl : lv_has ls 8 [(5, .int (nI 0)), (7, .int (nI (rbv a L k))), (6, .int (nI (rbv a L k))), (3, .int (nI (tnx a L k))), (0, .ref m0), (1, .int (nI ix)), (2, .int (nI x)), (4, .int (nI 1))] := by rw [← (tn_0 (rng_c (bnd_1 c88))).1]; exact hl
                  exact ih46 (rr + 1, tnx a L k, false, rbv a L k) H locs ls ⟨(show (rr + 1) ≤ (tnx a L k) from by have := (tnx_le a c51).2; omega), (show (tnx a L k) ≤ L from (tnx_le a c51).1), (show MI a L x (ix + 1 + 1) (rr + 1) (tnx a L k) false from MI_s hMI c51 c62 hr0 (mi_l (bN_z c131) c137)), hP.sub [0, 1] rfl, hD.sub [0, 1] (by decide) rfl, hS, lv_sub hl [4, 5, 6, 3, 7, 0] rfl⟩ (by have := tnx_le a c51; (try dsimp only); omega)
                · skip
                  refine lv_iload_n hx hb dM_isOne_140 rfl (lv_at hl 5 rfl) ?_
                  refine lv_iload hx hb dM_isOne_141 (lv_at hl 0 rfl) ?_
                  refine wl_icmp_gt (tgt := 150) hx hb dM_isOne_143 (by decide) (by omega) (by omega) (fun c143 => ?_) (fun c143 => ?_)
                  · skip
                    refine lv_iconst (v := nI 0) hx hb dM_isOne_150 (by decide) ?_
                    refine lv_istore (lv' := [(5, .int (nI 0)), (7, .int (nI (rbv a L k))), (6, .int (nI (rbv a L k))), (3, .int (nI (rbn a L k))), (0, .ref m0), (1, .int (nI ix)), (2, .int (nI x)), (4, .int (nI 1))]) hx hb dM_isOne_151 hl (by decide) rfl (fun ls hl => ?_)
                    refine lv_goto (tgt := 46) hx hb dM_isOne_153 (by decide) ?_
                    have hl : lv_has ls 8 [(5, .int (nI 0)), (7, .int (nI (rbv a L k))), (6, .int (nI (rbv a L k))), (3, .int (nI (tnx a L k))), (0, .ref m0), (1, .int (nI ix)), (2, .int (nI x)), (4, .int (nI 1))] := by rw [← (tn_0 (rng_c (bnd_1 c88))).1]; exact hl
                    exact ih46 (rr + 1, tnx a L k, false, rbv a L k) H locs ls ⟨(show (rr + 1) ≤ (tnx a L k) from by have := (tnx_le a c51).2; omega), (show (tnx a L k) ≤ L from (tnx_le a c51).1), (show MI a L x (ix + 1 + 1) (rr + 1) (tnx a L k) false from MI_s hMI c51 c62 hr0 (mi_h (bN_z c131) (by rw [(tn_0 (rng_c (bnd_1 c88))).2]; exact c143))), hP.sub [0, 1] rfl, hD.sub [0, 1] (by decide) rfl, hS, lv_sub hl [4, 5, 6, 3, 7, 0] rfl⟩ (by have := tnx_le a c51; (try dsimp only); omega)
                  · skip
                    refine lv_iconst (v := nI 1) hx hb dM_isOne_146 (by decide) ?_
                    refine lv_goto (tgt := 151) hx hb dM_isOne_147 (by decide) ?_
                    refine lv_istore (lv' := [(5, .int (nI 1)), (7, .int (nI (rbv a L k))), (6, .int (nI (rbv a L k))), (3, .int (nI (rbn a L k))), (0, .ref m0), (1, .int (nI ix)), (2, .int (nI x)), (4, .int (nI 1))]) hx hb dM_isOne_151 hl (by decide) rfl (fun ls hl => ?_)
                    refine lv_goto (tgt := 46) hx hb dM_isOne_153 (by decide) ?_
                    have hl : lv_has ls 8 [(5, .int (nI 1)), (7, .int (nI (rbv a L k))), (6, .int (nI (rbv a L k))), (3, .int (nI (tnx a L k))), (0, .ref m0), (1, .int (nI ix)), (2, .int (nI x)), (4, .int (nI 1))] := by rw [← (tn_0 (rng_c (bnd_1 c88))).1]; exact hl
                    exact ih46 (rr + 1, tnx a L k, true, rbv a L k) H locs ls ⟨(show (rr + 1) ≤ (tnx a L k) from by have := (tnx_le a c51).2; omega), (show (tnx a L k) ≤ L from (tnx_le a c51).1), (show MI a L x (ix + 1 + 1) (rr + 1) (tnx a L k) true from MI_s hMI c51 c62 hr0 (mi_i c137 (by rw [(tn_0 (rng_c (bnd_1 c88))).2]; exact c143))), hP.sub [0, 1] rfl, hD.sub [0, 1] (by decide) rfl, hS, lv_sub hl [4, 5, 6, 3, 7, 0] rfl⟩ (by have := tnx_le a c51; (try dsimp only); omega)
            · skip
              have h10 := ha _ (show rbn a L k < L by omega)
              refine lv_aload_n hx hb dM_isOne_91 rfl (lv_at hl 3 rfl) ?_
              refine va_get (D := (dC, dI)) (ci := 3) (v := .ref kp) (C := RX3) (T := TX3) (N := 9) hx hb hts (by decide +kernel) hown hK hP 0 rfl rfl 1 (by decide) (hts (.fieldLink RX3 13 "WildCardsModel" "pattern" "[I") (by decide +kernel)) (fun _ h9 => h9) rfl dM_isOne_92 ?_
              refine lv_iload_n hx hb dM_isOne_95 rfl (lv_at hl 2 rfl) ?_
              refine va_iald hx hb hK hP 1 0 rfl rfl (vp_in_nI (by omega) (by omega)) dM_isOne_96 ?_
              refine wl_asi (y := nI (a (rbn a L k))) (by rw [nI_clamp (by omega)]) ?_
              refine lv_bipush (v := nI 45) hx hb dM_isOne_97 (by decide) ?_
              refine wl_icmp_ne (tgt := 129) hx hb dM_isOne_99 (by decide) (by omega) (by omega) (fun c99 => ?_) (fun c99 => ?_)
              · skip
                refine lv_iload hx hb dM_isOne_129 (lv_at hl 7 rfl) ?_
                refine wl_if_ne (tgt := 146) hx hb dM_isOne_131 (by decide) (by omega) (fun c131 => ?_) (fun c131 => ?_)
                · skip
                  refine lv_iconst (v := nI 1) hx hb dM_isOne_146 (by decide) ?_
                  refine lv_goto (tgt := 151) hx hb dM_isOne_147 (by decide) ?_
                  refine lv_istore (lv' := [(5, .int (nI 1)), (7, .int (nI (rbv a L k))), (6, .int (nI (rbv a L k))), (3, .int (nI (rbn a L k))), (0, .ref m0), (1, .int (nI ix)), (2, .int (nI x)), (4, .int (nI 1))]) hx hb dM_isOne_151 hl (by decide) rfl (fun ls hl => ?_)
                  refine lv_goto (tgt := 46) hx hb dM_isOne_153 (by decide) ?_
                  have hl : lv_has ls 8 [(5, .int (nI 1)), (7, .int (nI (rbv a L k))), (6, .int (nI (rbv a L k))), (3, .int (nI (tnx a L k))), (0, .ref m0), (1, .int (nI ix)), (2, .int (nI x)), (4, .int (nI 1))] := by rw [← (tn_0 (rng_b c99)).1]; exact hl
                  exact ih46 (rr + 1, tnx a L k, true, rbv a L k) H locs ls ⟨(show (rr + 1) ≤ (tnx a L k) from by have := (tnx_le a c51).2; omega), (show (tnx a L k) ≤ L from (tnx_le a c51).1), (show MI a L x (ix + 1 + 1) (rr + 1) (tnx a L k) true from MI_s hMI c51 c62 hr0 (mi_t (bN_nz c131))), hP.sub [0, 1] rfl, hD.sub [0, 1] (by decide) rfl, hS, lv_sub hl [4, 5, 6, 3, 7, 0] rfl⟩ (by have := tnx_le a c51; (try dsimp only); omega)
                · skip
                  refine lv_iload_n hx hb dM_isOne_134 rfl (lv_at hl 5 rfl) ?_
                  refine lv_iload hx hb dM_isOne_135 (lv_at hl 1 rfl) ?_
                  refine wl_icmp_lt (tgt := 150) hx hb dM_isOne_137 (by decide) (by omega) (by omega) (fun c137 => ?_) (fun c137 => ?_)
                  · skip
                    refine lv_iconst (v := nI 0) hx hb dM_isOne_150 (by decide) ?_
                    refine lv_istore (lv' := [(5, .int (nI 0)), (7, .int (nI (rbv a L k))), (6, .int (nI (rbv a L k))), (3, .int (nI (rbn a L k))), (0, .ref m0), (1, .int (nI ix)), (2, .int (nI x)), (4, .int (nI 1))]) hx hb dM_isOne_151 hl (by decide) rfl (fun ls hl => ?_)
                    refine lv_goto (tgt := 46) hx hb dM_isOne_153 (by decide) ?_
                    have hl : lv_has ls 8 [(5, .int (nI 0)), (7, .int (nI (rbv a L k))), (6, .int (nI (rbv a L k))), (3, .int (nI (tnx a L k))), (0, .ref m0), (1, .int (nI ix)), (2, .int (nI x)), (4, .int (nI 1))] := by rw [← (tn_0 (rng_b c99)).1]; exact hl
                    exact ih46 (rr + 1, tnx a L k, false, rbv a L k) H locs ls ⟨(show (rr + 1) ≤ (tnx a L k) from by have := (tnx_le a c51).2; omega), (show (tnx a L k) ≤ L from (tnx_le a c51).1), (show MI a L x (ix + 1 + 1) (rr + 1) (tnx a L k) false from MI_s hMI c51 c62 hr0 (mi_l (bN_z c131) c137)), hP.sub [0, 1] rfl, hD.sub [0, 1] (by decide) rfl, hS, lv_sub hl [4, 5, 6, 3, 7, 0] rfl⟩ (by have := tnx_le a c51; (try dsimp only); omega)
                  · skip
                    refine lv_iload_n hx hb dM_isOne_140 rfl (lv_at hl 5 rfl) ?_
                    refine lv_iload hx hb dM_isOne_141 (lv_at hl 0 rfl) ?_
                    refine wl_icmp_gt (tgt := 150) hx hb dM_isOne_143 (by decide) (by omega) (by omega) (fun c143 => ?_) (fun c143 => ?_)
                    · skip
                      refine lv_iconst (v := nI 0) hx hb dM_isOne_150 (by decide) ?_
                      refine lv_istore (lv' := [(5, .int (nI 0)), (7, .int (nI (rbv a L k))), (6, .int (nI (rbv a L k))), (3, .int (nI (rbn a L k))), (0, .ref m0), (1, .int (nI ix)), (2, .int (nI x)), (4, .int (nI 1))]) hx hb dM_isOne_151 hl (by decide) rfl (fun ls hl => ?_)
                      refine lv_goto (tgt := 46) hx hb dM_isOne_153 (by decide) ?_
                      have hl : lv_has ls 8 [(5, .int (nI 0)), (7, .int (nI (rbv a L k))), (6, .int (nI (rbv a L k))), (3, .int (nI (tnx a L k))), (0, .ref m0), (1, .int (nI ix)), (2, .int (nI x)), (4, .int (nI 1))] := by rw [← (tn_0 (rng_b c99)).1]; exact hl
                      exact ih46 (rr + 1, tnx a L k, false, rbv a L k) H locs ls ⟨(show (rr + 1) ≤ (tnx a L k) from by have := (tnx_le a c51).2; omega), (show (tnx a L k) ≤ L from (tnx_le a c51).1), (show MI a L x (ix + 1 + 1) (rr + 1) (tnx a L k) false from MI_s hMI c51 c62 hr0 (mi_h (bN_z c131) (by rw [(tn_0 (rng_b c99)).2]; exact c143))), hP.sub [0, 1] rfl, hD.sub [0, 1] (by decide) rfl, hS, lv_sub hl [4, 5, 6, 3, 7, 0] rfl⟩ (by have := tnx_le a c51; (try dsimp only); omega)
                    · skip
                      refine lv_iconst (v := nI 1) hx hb dM_isOne_146 (by decide) ?_
                      refine lv_goto (tgt := 151) hx hb dM_isOne_147 (by decide) ?_
                      refine lv_istore (lv' := [(5, .int (nI 1)), (7, .int (nI (rbv a L k))), (6, .int (nI (rbv a L k))), (3, .int (nI (rbn a L k))), (0, .ref m0), (1, .int (nI ix)), (2, .int (nI x)), (4, .int (nI 1))]) hx hb dM_isOne_151 hl (by decide) rfl (fun ls hl => ?_)
                      refine lv_goto (tgt := 46) hx hb dM_isOne_153 (by decide) ?_
                      have hl : lv_has ls 8 [(5, .int (nI 1)), (7, .int (nI (rbv a L k))), (6, .int (nI (rbv a L k))), (3, .int (nI (tnx a L k))), (0, .ref m0), (1, .int (nI ix)), (2, .int (nI x)), (4, .int (nI 1))] := by rw [← (tn_0 (rng_b c99)).1]; exact hl
                      exact ih46 (rr + 1, tnx a L k, true, rbv a L k) H locs ls ⟨(show (rr + 1) ≤ (tnx a L k) from by have := (tnx_le a c51).2; omega), (show (tnx a L k) ≤ L from (tnx_le a c51).1), (show MI a L x (ix + 1 + 1) (rr + 1) (tnx a L k) true from MI_s hMI c51 c62 hr0 (mi_i c137 (by rw [(tn_0 (rng_b c99)).2]; exact c143))), hP.sub [0, 1] rfl, hD.sub [0, 1] (by decide) rfl, hS, lv_sub hl [4, 5, 6, 3, 7, 0] rfl⟩ (by have := tnx_le a c51; (try dsimp only); omega)
              · skip
                have h11 := ha _ c88
                refine lv_aload_n hx hb dM_isOne_102 rfl (lv_at hl 3 rfl) ?_
                refine va_get (D := (dC, dI)) (ci := 3) (v := .ref kp) (C := RX3) (T := TX3) (N := 9) hx hb hts (by decide +kernel) hown hK hP 0 rfl rfl 1 (by decide) (hts (.fieldLink RX3 13 "WildCardsModel" "pattern" "[I") (by decide +kernel)) (fun _ h9 => h9) rfl dM_isOne_103 ?_
                refine lv_iload_n hx hb dM_isOne_106 rfl (lv_at hl 2 rfl) ?_
                refine lv_iconst (v := nI 1) hx hb dM_isOne_107 (by decide) ?_
                refine lv_iadd hx hb dM_isOne_108 ?_
                refine wl_asi (y := nI ((rbn a L k) + 1)) (nI_add _ _) ?_
                refine va_iald hx hb hK hP 1 0 rfl rfl (vp_in_nI (by omega) (by omega)) dM_isOne_109 ?_
                refine wl_asi (y := nI (a ((rbn a L k) + 1))) (by rw [nI_clamp (by omega)]) ?_
                refine lv_bipush (v := nI 93) hx hb dM_isOne_110 (by decide) ?_
                refine wl_icmp_eq (tgt := 129) hx hb dM_isOne_112 (by decide) (by omega) (by omega) (fun c112 => ?_) (fun c112 => ?_)
                · skip
                  refine lv_iload hx hb dM_isOne_129 (lv_at hl 7 rfl) ?_
                  refine wl_if_ne (tgt := 146) hx hb dM_isOne_131 (by decide) (by omega) (fun c131 => ?_) (fun c131 => ?_)
                  · skip
                    refine lv_iconst (v := nI 1) hx hb dM_isOne_146 (by decide) ?_
                    refine lv_goto (tgt := 151) hx hb dM_isOne_147 (by decide) ?_
                    refine lv_istore (lv' := [(5, .int (nI 1)), (7, .int (nI (rbv a L k))), (6, .int (nI (rbv a L k))), (3, .int (nI (rbn a L k))), (0, .ref m0), (1, .int (nI ix)), (2, .int (nI x)), (4, .int (nI 1))]) hx hb dM_isOne_151 hl (by decide) rfl (fun ls hl => ?_)
                    refine lv_goto (tgt := 46) hx hb dM_isOne_153 (by decide) ?_
                    have hl : lv_has ls 8 [(5, .int (nI 1)), (7, .int (nI (rbv a L k))), (6, .int (nI (rbv a L k))), (3, .int (nI (tnx a L k))), (0, .ref m0), (1, .int (nI ix)), (2, .int (nI x)), (4, .int (nI 1))] := by rw [← (tn_0 (rng_c (bnd_3 c112))).1]; exact hl
                    exact ih46 (rr + 1, tnx a L k, true, rbv a L k) H locs ls ⟨(show (rr + 1) ≤ (tnx a L k) from by have := (tnx_le a c51).2; omega), (show (tnx a L k) ≤ L from (tnx_le a c51).1), (show MI a L x (ix + 1 + 1) (rr + 1) (tnx a L k) true from MI_s hMI c51 c62 hr0 (mi_t (bN_nz c131))), hP.sub [0, 1] rfl, hD.sub [0, 1] (by decide) rfl, hS, lv_sub hl [4, 5, 6, 3, 7, 0] rfl⟩ (by have := tnx_le a c51; (try dsimp only); omega)
                  · skip
                    refine lv_iload_n hx hb dM_isOne_134 rfl (lv_at hl 5 rfl) ?_
                    refine lv_iload hx hb dM_isOne_135 (lv_at hl 1 rfl) ?_
                    refine wl_icmp_lt (tgt := 150) hx hb dM_isOne_137 (by decide) (by omega) (by omega) (fun c137 => ?_) (fun c137 => ?_)
                    · skip
                      refine lv_iconst (v := nI 0) hx hb dM_isOne_150 (by decide) ?_
                      refine lv_istore (lv' := [(5, .int (nI 0)), (7, .int (nI (rbv a L k))), (6, .int (nI (rbv a L k))), (3, .int (nI (rbn a L k))), (0, .ref m0), (1, .int (nI ix)), (2, .int (nI x)), (4, .int (nI 1))]) hx hb dM_isOne_151 hl (by decide) rfl (fun ls hl => ?_)
                      refine lv_goto (tgt := 46) hx hb dM_isOne_153 (by decide) ?_
                      have hl : lv_has ls 8 [(5, .int (nI 0)), (7, .int (nI (rbv a L k))), (6, .int (nI (rbv a L k))), (3, .int (nI (tnx a L k))), (0, .ref m0), (1, .int (nI ix)), (2, .int (nI x)), (4, .int (nI 1))] := by rw [← (tn_0 (rng_c (bnd_3 c112))).1]; exact hl
                      exact ih46 (rr + 1, tnx a L k, false, rbv a L k) H locs ls ⟨(show (rr + 1) ≤ (tnx a L k) from by have := (tnx_le a c51).2; omega), (show (tnx a L k) ≤ L from (tnx_le a c51).1), (show MI a L x (ix + 1 + 1) (rr + 1) (tnx a L k) false from MI_s hMI c51 c62 hr0 (mi_l (bN_z c131) c137)), hP.sub [0, 1] rfl, hD.sub [0, 1] (by decide) rfl, hS, lv_sub hl [4, 5, 6, 3, 7, 0] rfl⟩ (by have := tnx_le a c51; (try dsimp only); omega)
                    · skip
                      refine lv_iload_n hx hb dM_isOne_140 rfl (lv_at hl 5 rfl) ?_
                      refine lv_iload hx hb dM_isOne_141 (lv_at hl 0 rfl) ?_
                      refine wl_icmp_gt (tgt := 150) hx hb dM_isOne_143 (by decide) (by omega) (by omega) (fun c143 => ?_) (fun c143 => ?_)
                      · skip
                        refine lv_iconst (v := nI 0) hx hb dM_isOne_150 (by decide) ?_
                        refine lv_istore (lv' := [(5, .int (nI 0)), (7, .int (nI (rbv a L k))), (6, .int (nI (rbv a L k))), (3, .int (nI (rbn a L k))), (0, .ref m0), (1, .int (nI ix)), (2, .int (nI x)), (4, .int (nI 1))]) hx hb dM_isOne_151 hl (by decide) rfl (fun ls hl => ?_)
                        refine lv_goto (tgt := 46) hx hb dM_isOne_153 (by decide) ?_
                        have hl : lv_has ls 8 [(5, .int (nI 0)), (7, .int (nI (rbv a L k))), (6, .int (nI (rbv a L k))), (3, .int (nI (tnx a L k))), (0, .ref m0), (1, .int (nI ix)), (2, .int (nI x)), (4, .int (nI 1))] := by rw [← (tn_0 (rng_c (bnd_3 c112))).1]; exact hl
                        exact ih46 (rr + 1, tnx a L k, false, rbv a L k) H locs ls ⟨(show (rr + 1) ≤ (tnx a L k) from by have := (tnx_le a c51).2; omega), (show (tnx a L k) ≤ L from (tnx_le a c51).1), (show MI a L x (ix + 1 + 1) (rr + 1) (tnx a L k) false from MI_s hMI c51 c62 hr0 (mi_h (bN_z c131) (by rw [(tn_0 (rng_c (bnd_3 c112))).2]; exact c143))), hP.sub [0, 1] rfl, hD.sub [0, 1] (by decide) rfl, hS, lv_sub hl [4, 5, 6, 3, 7, 0] rfl⟩ (by have := tnx_le a c51; (try dsimp only); omega)
                      · skip
                        refine lv_iconst (v := nI 1) hx hb dM_isOne_146 (by decide) ?_
                        refine lv_goto (tgt := 151) hx hb dM_isOne_147 (by decide) ?_
                        refine lv_istore (lv' := [(5, .int (nI 1)), (7, .int (nI (rbv a L k))), (6, .int (nI (rbv a L k))), (3, .int (nI (rbn a L k))), (0, .ref m0), (1, .int (nI ix)), (2, .int (nI x)), (4, .int (nI 1))]) hx hb dM_isOne_151 hl (by decide) rfl (fun ls hl => ?_)
                        refine lv_goto (tgt := 46) hx hb dM_isOne_153 (by decide) ?_
                        have hl : lv_has ls 8 [(5, .int (nI 1)), (7, .int (nI (rbv a L k))), (6, .int (nI (rbv a L k))), (3, .int (nI (tnx a L k))), (0, .ref m0), (1, .int (nI ix)), (2, .int (nI x)), (4, .int (nI 1))] := by rw [← (tn_0 (rng_c (bnd_3 c112))).1]; exact hl
                        exact ih46 (rr + 1, tnx a L k, true, rbv a L k) H locs ls ⟨(show (rr + 1) ≤ (tnx a L k) from by have := (tnx_le a c51).2; omega), (show (tnx a L k) ≤ L from (tnx_le a c51).1), (show MI a L x (ix + 1 + 1) (rr + 1) (tnx a L k) true from MI_s hMI c51 c62 hr0 (mi_i c137 (by rw [(tn_0 (rng_c (bnd_3 c112))).2]; exact c143))), hP.sub [0, 1] rfl, hD.sub [0, 1] (by decide) rfl, hS, lv_sub hl [4, 5, 6, 3, 7, 0] rfl⟩ (by have := tnx_le a c51; (try dsimp only); omega)
                · skip
                  refine lv_aload_n hx hb dM_isOne_115 rfl (lv_at hl 3 rfl) ?_
                  refine lv_iload_n hx hb dM_isOne_116 rfl (lv_at hl 2 rfl) ?_
                  refine lv_iconst (v := nI 1) hx hb dM_isOne_117 (by decide) ?_
                  refine lv_iadd hx hb dM_isOne_118 ?_
                  refine wl_asi (y := nI ((rbn a L k) + 1)) (nI_add _ _) ?_
                  have hPc := hP.sub (ws' := [(m0, .inr (3, [.ref kt, .ref kp, .ref kw, .int (nI tl), .int (nI L), .int (nI wn), .int (nI en), .int (nI (rbv a L k)), .ref kf])), (kp, .inl (cI, 400, .inl (fun j => nI (a j))))]) [0, 1] rfl
                  have hDc := hD.sub (ws' := [(m0, .inr (3, [.ref kt, .ref kp, .ref kw, .int (nI tl), .int (nI L), .int (nI wn), .int (nI en), .int (nI (rbv a L k)), .ref kf])), (kp, .inl (cI, 400, .inl (fun j => nI (a j))))]) [0, 1] (by decide) rfl
                  have hFc := va_free (wc := [(m0, .inr (3, [.ref kt, .ref kp, .ref kw, .int (nI tl), .int (nI L), .int (nI wn), .int (nI en), .int (nI (rbv a L k)), .ref kf])), (kp, .inl (cI, 400, .inl (fun j => nI (a j))))]) hD hS hA [0, 1] rfl
                  refine va_calli (va_runV (As := [.int (nI ((rbn a L k) + 1))]) (rest := []) ⟨hx, hb, hml, hown, hts⟩ (c_M_tells l dC dI cI cJ cZ m0 kt kp kw kf H.size tl L wn en (rbv a L k) a ((rbn a L k) + 1) hL ha c88) (cwV 1 hts gM_isOne_M_tells rfl rfl rfl (by decide +kernel) ⟨Nat.le_of_ble_eq_true rfl, Nat.le_of_ble_eq_true rfl⟩) ⟨fun a U g mk q => by obtain ⟨q0, q1, qP, qK, qD⟩ := q; exact ⟨q0, q1, qP, va_K.moved (u := U) (U := U.calling g mk a) (Vm.Alike.refl U.vm) qK, qD⟩, va_recv hK hPc (ci := 3) (q0 := 0) rfl rfl, fun U hU hW => ⟨rfl, by rw [hU], by rw [hU]; exact hPc, va_K.moved hW.alike hK, hDc.weaken (fun _ _ _ _ => trivial)⟩⟩ rfl rfl hl.1 rfl (lv_room (Nat.le_of_ble_eq_true rfl)) dM_isOne_119 ⟨show 0 + 0 + 0 ≤ 0 from by decide, show 0 + 0 + 0 ≤ 0 from by decide⟩) hS (fun q _ h => hFc q h) hFc (fun r119 u t H1 locs ht hvm hw119 hB hz1 hk1 hS => ?_)
                  obtain ⟨td2119, rfl⟩ : ∃ z, z = u := ⟨_, rfl⟩
                  obtain ⟨hP1, hK1, hD1⟩ := hB
                  rw [ht] at hP1
                  try dsimp only at hw119 hP1 hD1
                  obtain ⟨hP, hD⟩ := va_join (wr := []) (w1 := [(m0, .inr (3, [.ref kt, .ref kp, .ref kw, .int (nI tl), .int (nI L), .int (nI wn), .int (nI en), .int (nI td2119), .ref kf])), (kp, .inl (cI, 400, .inl (fun j => nI (a j))))]) hP hD [0, 1] [] rfl rfl (by decide) (by decide) hk1 hFc hP1 hD1
                  generalize H1 = H at hP hS ⊢
                  have hP : va_P (dC, dI) vwCl [(m0, .inr (3, [.ref kt, .ref kp, .ref kw, .int (nI tl), .int (nI L), .int (nI wn), .int (nI en), .int (nI td2119), .ref kf])), (kp, .inl (cI, 400, .inl (fun j => nI (a j))))] H := hP
                  have hD : va_D A [(m0, .inr (3, [.ref kt, .ref kp, .ref kw, .int (nI tl), .int (nI L), .int (nI wn), .int (nI en), .int (nI td2119), .ref kf])), (kp, .inl (cI, 400, .inl (fun j => nI (a j))))] := hD
                  obtain ⟨rfl, hr119⟩ := hw119
                  refine wl_asi (y := nI (rbn a L (rbn a L k + 1))) (hr119) ?_
                  have h5 := rbv_lt ha c88
                  refine lv_istore_n (lv' := [(3, .int (nI (rbn a L (rbn a L k + 1)))), (7, .int (nI (rbv a L k))), (6, .int (nI (rbv a L k))), (0, .ref m0), (1, .int (nI ix)), (2, .int (nI x)), (4, .int (nI 1)), (5, .int (nI (bN q)))]) hx hb dM_isOne_122 rfl hl (by decide) rfl (fun ls hl => ?_)
                  refine lv_aload_n hx hb dM_isOne_123 rfl (lv_at hl 3 rfl) ?_
                  refine va_get (D := (dC, dI)) (ci := 3) (v := .int (nI (rbv a L (rbn a L k + 1)))) (C := RX3) (T := TX3) (N := 9) hx hb hts (by decide +kernel) hown hK hP 0 rfl rfl 7 (by decide) (hts (.fieldLink RX3 37 "WildCardsModel" "told" "I") (by decide +kernel)) (fun _ h9 => h9) rfl dM_isOne_124 ?_
                  refine lv_istore (lv' := [(7, .int (nI (rbv a L (rbn a L k + 1)))), (3, .int (nI (rbn a L (rbn a L k + 1)))), (6, .int (nI (rbv a L k))), (0, .ref m0), (1, .int (nI ix)), (2, .int (nI x)), (4, .int (nI 1)), (5, .int (nI (bN q)))]) hx hb dM_isOne_127 hl (by decide) rfl (fun ls hl => ?_)
                  refine lv_iload hx hb dM_isOne_129 (lv_at hl 7 rfl) ?_
                  refine wl_if_ne (tgt := 146) hx hb dM_isOne_131 (by decide) (by omega) (fun c131 => ?_) (fun c131 => ?_)
                  · skip
                    refine lv_iconst (v := nI 1) hx hb dM_isOne_146 (by decide) ?_
                    refine lv_goto (tgt := 151) hx hb dM_isOne_147 (by decide) ?_
                    refine lv_istore (lv' := [(5, .int (nI 1)), (7, .int (nI (rbv a L (rbn a L k + 1)))), (3, .int (nI (rbn a L (rbn a L k + 1)))), (6, .int (nI (rbv a L k))), (0, .ref m0), (1, .int (nI ix)), (2, .int (nI x)), (4, .int (nI 1))]) hx hb dM_isOne_151 hl (by decide) rfl (fun ls hl => ?_)
                    refine lv_goto (tgt := 46) hx hb dM_isOne_153 (by decide) ?_
                    have hl : lv_has ls 8 [(5, .int (nI 1)), (7, .int (nI (rbv a L (rbn a L k + 1)))), (3, .int (nI (tnx a L k))), (6, .int (nI (rbv a L k))), (0, .ref m0), (1, .int (nI ix)), (2, .int (nI x)), (4, .int (nI 1))] := by rw [← (tn_1 (rng_1 (by omega) c99 (by rw [bnd_2 c88 c112]; decide))).1]; exact hl
                    exact ih46 (rr + 1, tnx a L k, true, rbv a L (rbn a L k + 1)) H locs ls ⟨(show (rr + 1) ≤ (tnx a L k) from by have := (tnx_le a c51).2; omega), (show (tnx a L k) ≤ L from (tnx_le a c51).1), (show MI a L x (ix + 1 + 1) (rr + 1) (tnx a L k) true from MI_s hMI c51 c62 hr0 (mi_t (bN_nz c131))), hP.sub [0, 1] rfl, hD.sub [0, 1] (by decide) rfl, hS, lv_sub hl [4, 5, 6, 2, 7, 0] rfl⟩ (by have := tnx_le a c51; (try dsimp only); omega)
                  · skip
                    refine lv_iload_n hx hb dM_isOne_134 rfl (lv_at hl 5 rfl) ?_
                    refine lv_iload hx hb dM_isOne_135 (lv_at hl 2 rfl) ?_
                    refine wl_icmp_lt (tgt := 150) hx hb dM_isOne_137 (by decide) (by omega) (by omega) (fun c137 => ?_) (fun c137 => ?_)
                    · skip
                      refine lv_iconst (v := nI 0) hx hb dM_isOne_150 (by decide) ?_
                      refine lv_istore (lv' := [(5, .int (nI 0)), (7, .int (nI (rbv a L (rbn a L k + 1)))), (3, .int (nI (rbn a L (rbn a L k + 1)))), (6, .int (nI (rbv a L k))), (0, .ref m0), (1, .int (nI ix)), (2, .int (nI x)), (4, .int (nI 1))]) hx hb dM_isOne_151 hl (by decide) rfl (fun ls hl => ?_)
                      refine lv_goto (tgt := 46) hx hb dM_isOne_153 (by decide) ?_
                      have hl : lv_has ls 8 [(5, .int (nI 0)), (7, .int (nI (rbv a L (rbn a L k + 1)))), (3, .int (nI (tnx a L k))), (6, .int (nI (rbv a L k))), (0, .ref m0), (1, .int (nI ix)), (2, .int (nI x)), (4, .int (nI 1))] := by rw [← (tn_1 (rng_1 (by omega) c99 (by rw [bnd_2 c88 c112]; decide))).1]; exact hl
                      exact ih46 (rr + 1, tnx a L k, false, rbv a L (rbn a L k + 1)) H locs ls ⟨(show (rr + 1) ≤ (tnx a L k) from by have := (tnx_le a c51).2; omega), (show (tnx a L k) ≤ L from (tnx_le a c51).1), (show MI a L x (ix + 1 + 1) (rr + 1) (tnx a L k) false from MI_s hMI c51 c62 hr0 (mi_l (bN_z c131) c137)), hP.sub [0, 1] rfl, hD.sub [0, 1] (by decide) rfl, hS, lv_sub hl [4, 5, 6, 2, 7, 0] rfl⟩ (by have := tnx_le a c51; (try dsimp only); omega)
                    · skip
                      refine lv_iload_n hx hb dM_isOne_140 rfl (lv_at hl 5 rfl) ?_
                      refine lv_iload hx hb dM_isOne_141 (lv_at hl 0 rfl) ?_
                      refine wl_icmp_gt (tgt := 150) hx hb dM_isOne_143 (by decide) (by omega) (by omega) (fun c143 => ?_) (fun c143 => ?_)
                      · skip
                        refine lv_iconst (v := nI 0) hx hb dM_isOne_150 (by decide) ?_
                        refine lv_istore (lv' := [(5, .int (nI 0)), (7, .int (nI (rbv a L (rbn a L k + 1)))), (3, .int (nI (rbn a L (rbn a L k + 1)))), (6, .int (nI (rbv a L k))), (0, .ref m0), (1, .int (nI ix)), (2, .int (nI x)), (4, .int (nI 1))]) hx hb dM_isOne_151 hl (by decide) rfl (fun ls hl => ?_)
                        refine lv_goto (tgt := 46) hx hb dM_isOne_153 (by decide) ?_
                        have hl : lv_has ls 8 [(5, .int (nI 0)), (7, .int (nI (rbv a L (rbn a L k + 1)))), (3, .int (nI (tnx a L k))), (6, .int (nI (rbv a L k))), (0, .ref m0), (1, .int (nI ix)), (2, .int (nI x)), (4, .int (nI 1))] := by rw [← (tn_1 (rng_1 (by omega) c99 (by rw [bnd_2 c88 c112]; decide))).1]; exact hl
                        exact ih46 (rr + 1, tnx a L k, false, rbv a L (rbn a L k + 1)) H locs ls ⟨(show (rr + 1) ≤ (tnx a L k) from by have := (tnx_le a c51).2; omega), (show (tnx a L k) ≤ L from (tnx_le a c51).1), (show MI a L x (ix + 1 + 1) (rr + 1) (tnx a L k) false from MI_s hMI c51 c62 hr0 (mi_h (bN_z c131) (by rw [(tn_1 (rng_1 (by omega) c99 (by rw [bnd_2 c88 c112]; decide))).2]; exact c143))), hP.sub [0, 1] rfl, hD.sub [0, 1] (by decide) rfl, hS, lv_sub hl [4, 5, 6, 2, 7, 0] rfl⟩ (by have := tnx_le a c51; (try dsimp only); omega)
                      · skip
                        refine lv_iconst (v := nI 1) hx hb dM_isOne_146 (by decide) ?_
                        refine lv_goto (tgt := 151) hx hb dM_isOne_147 (by decide) ?_
                        refine lv_istore (lv' := [(5, .int (nI 1)), (7, .int (nI (rbv a L (rbn a L k + 1)))), (3, .int (nI (rbn a L (rbn a L k + 1)))), (6, .int (nI (rbv a L k))), (0, .ref m0), (1, .int (nI ix)), (2, .int (nI x)), (4, .int (nI 1))]) hx hb dM_isOne_151 hl (by decide) rfl (fun ls hl => ?_)
                        refine lv_goto (tgt := 46) hx hb dM_isOne_153 (by decide) ?_
                        have hl : lv_has ls 8 [(5, .int (nI 1)), (7, .int (nI (rbv a L (rbn a L k + 1)))), (3, .int (nI (tnx a L k))), (6, .int (nI (rbv a L k))), (0, .ref m0), (1, .int (nI ix)), (2, .int (nI x)), (4, .int (nI 1))] := by rw [← (tn_1 (rng_1 (by omega) c99 (by rw [bnd_2 c88 c112]; decide))).1]; exact hl
                        exact ih46 (rr + 1, tnx a L k, true, rbv a L (rbn a L k + 1)) H locs ls ⟨(show (rr + 1) ≤ (tnx a L k) from by have := (tnx_le a c51).2; omega), (show (tnx a L k) ≤ L from (tnx_le a c51).1), (show MI a L x (ix + 1 + 1) (rr + 1) (tnx a L k) true from MI_s hMI c51 c62 hr0 (mi_i c137 (by rw [(tn_1 (rng_1 (by omega) c99 (by rw [bnd_2 c88 c112]; decide))).2]; exact c143))), hP.sub [0, 1] rfl, hD.sub [0, 1] (by decide) rfl, hS, lv_sub hl [4, 5, 6, 2, 7, 0] rfl⟩ (by have := tnx_le a c51; (try dsimp only); omega)
