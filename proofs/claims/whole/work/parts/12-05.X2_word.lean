set_option maxHeartbeats 4000000 in
set_option maxRecDepth 100000 in
theorem c_X2_word (l : Launch) (dC : Nat → ClassId) (dI : Nat → Nat → Nat) (cI cJ cZ : ClassId) (h0 qP qW hT : Nat) (sz : Nat) (tl : Nat) (wn : Nat) (tp : Nat → Nat) (lt : Nat → Nat) (htl : tl ≤ 400) : Met l yX2_word wsX2_word ({ frames := 1, cells := 0, slots := 0, locals := 40 }) (va_Pc [.ref h0] (fun U => U.heap.size = sz ∧ va_P (dC, dI) vwCl [(h0, .inr (2, [.ref qP, .int (nI tl), .ref qW, .int (nI wn), .ref hT])), (qP, .inl (cI, 400, .inl (fun j => nI (tp j)))), (qW, .inl (cI, 400, .inl (fun j => nI (lt j))))] U.heap ∧ va_K (dC, dI) vwCl [(cI, .int), (cJ, .long), (cZ, .boolean)] U ∧ va_D (fun _ => True) [(h0, .inr (2, [.ref qP, .int (nI tl), .ref qW, .int (nI wn), .ref hT])), (qP, .inl (cI, 400, .inl (fun j => nI (tp j)))), (qW, .inl (cI, 400, .inl (fun j => nI (lt j))))])) (va_Qi (fun (r : Int32) (u : Unit) => r = nI tl) (fun (u : Unit) (t : State) => va_P (dC, dI) vwCl [(h0, .inr (2, [.ref qP, .int (nI 0), .ref qW, .int (nI tl), .ref hT])), (qP, .inl (cI, 400, .inl (fun j => nI (tp j)))), (qW, .inl (cI, 400, .inl (fun j => nI ((va_cpy tp lt 0 0 tl) j))))] t.heap ∧ va_K (dC, dI) vwCl [(cI, .int), (cJ, .long), (cZ, .boolean)] t ∧ va_D (va_A [(h0, .inr (2, [.ref qP, .int (nI tl), .ref qW, .int (nI wn), .ref hT])), (qP, .inl (cI, 400, .inl (fun j => nI (tp j)))), (qW, .inl (cI, 400, .inl (fun j => nI (lt j))))] sz) [(h0, .inr (2, [.ref qP, .int (nI 0), .ref qW, .int (nI tl), .ref hT])), (qP, .inl (cI, 400, .inl (fun j => nI (tp j)))), (qW, .inl (cI, 400, .inl (fun j => nI ((va_cpy tp lt 0 0 tl) j))))]) (va_A [(h0, .inr (2, [.ref qP, .int (nI tl), .ref qW, .int (nI wn), .ref hT])), (qP, .inl (cI, 400, .inl (fun j => nI (tp j)))), (qW, .inl (cI, 400, .inl (fun j => nI (lt j))))] sz)) 0 0 (va_A [(h0, .inr (2, [.ref qP, .int (nI tl), .ref qW, .int (nI wn), .ref hT])), (qP, .inl (cI, 400, .inl (fun j => nI (tp j)))), (qW, .inl (cI, 400, .inl (fun j => nI (lt j))))] sz) := by
  refine Met.ofW (cc := cX2_word) (maxL := 2) (ret := (some .int)) (by decide) rfl ?_
  intro p e s m args below meth c s₁ B hml hv
  obtain ⟨rfl, hsz, hP, hK, hD0⟩ := hv
  have hx := B.exec
  have hb := B.bytes
  have hr := B.returns
  have hts := atoms_spec (ws := wsX2_word) B.pre
  have hown : s.vm.findClass RX2 = some m.cls := findClass_of_methodNamed B.named
  have hlocks := B.notSynchronized
  subst hsz
  have hD := hD0.self (sz := s.heap.size)
  generalize hAe : va_A [(h0, .inr (2, [.ref qP, .int (nI tl), .ref qW, .int (nI wn), .ref hT])), (qP, .inl (cI, 400, .inl (fun j => nI (tp j)))), (qW, .inl (cI, 400, .inl (fun j => nI (lt j))))] s.heap.size = A at hD ⊢
  have hA : ∀ q : Nat, s.heap.size ≤ q → A q := fun q h => by rw [← hAe]; exact Or.inr h
  have hS : va_S A s.heap s.heap [] := va_S.rf
  have hP : va_P (dC, dI) vwCl [(h0, .inr (2, [.ref qP, .int (nI tl), .ref qW, .int (nI wn), .ref hT])), (qP, .inl (cI, 400, .inl (fun j => nI (tp j)))), (qW, .inl (cI, 400, .inl (fun j => nI (lt j))))] s.heap := hP
  have hl := lv_entry ([.ref h0]) (n := 2) (Nat.le_of_ble_eq_true rfl)
  rw [lg_entry_eq]
  generalize (lg_sl ([.ref h0]) ++ List.replicate (2 - (lg_sl ([.ref h0])).length) Slot.unset).toArray = ls at hl ⊢
  have hl : lv_has ls 2 [(0, .ref h0)] := hl
  skip
  refine lv_aload_n hx hb dX2_word_0 rfl (lv_at hl 0 rfl) ?_
  refine va_get (D := (dC, dI)) (ci := 2) (v := .int (nI tl)) (C := RX2) (T := TX2) (N := 5) hx hb hts (by decide +kernel) hown hK hP 0 rfl rfl 1 (by decide) (hts (.fieldLink RX2 23 "WildCards" "tapeLength" "I") (by decide +kernel)) (fun _ h9 => h9) rfl dX2_word_1 ?_
  refine lv_istore_n (lv' := [(1, .int (nI tl)), (0, .ref h0)]) hx hb dX2_word_4 rfl hl (by decide) rfl (fun ls hl => ?_)
  refine lv_aload_n hx hb dX2_word_5 rfl (lv_at hl 1 rfl) ?_
  refine va_get (D := (dC, dI)) (ci := 2) (v := .ref qP) (C := RX2) (T := TX2) (N := 5) hx hb hts (by decide +kernel) hown hK hP 0 rfl rfl 0 (by decide) (hts (.fieldLink RX2 9 "WildCards" "tape" "[I") (by decide +kernel)) (fun _ h9 => h9) rfl dX2_word_6 ?_
  refine lv_iconst (v := nI 0) hx hb dX2_word_9 (by decide) ?_
  refine lv_aload_n hx hb dX2_word_10 rfl (lv_at hl 1 rfl) ?_
  refine va_get (D := (dC, dI)) (ci := 2) (v := .ref qW) (C := RX2) (T := TX2) (N := 5) hx hb hts (by decide +kernel) hown hK hP 0 rfl rfl 2 (by decide) (hts (.fieldLink RX2 13 "WildCards" "letters" "[I") (by decide +kernel)) (fun _ h9 => h9) rfl dX2_word_11 ?_
  refine lv_iconst (v := nI 0) hx hb dX2_word_14 (by decide) ?_
  refine lv_iload_n hx hb dX2_word_15 rfl (lv_at hl 0 rfl) ?_
  refine va_copyi (ty := .int) hx hb (by rw [hml]; exact hl.1.symm) hown (hts (.methodLink RX2 42 arraycopyName) (by decide +kernel)) (hts (.native arraycopyName) (by decide +kernel)) (hts (.static arraycopyName) (by decide +kernel)) (hts (.initialized "java/lang/System") (by decide +kernel)) hK hP hD hS 1 2 0 0 rfl rfl rfl rfl rfl (nI_pos (by omega)) (nI_pos (by omega)) (nI_pos (by omega)) (by rw [nI_clamp (by omega), nI_clamp (by omega)]; omega) (by rw [nI_clamp (by omega), nI_clamp (by omega)]; omega) (fun i hi => rfl) (Nat.le_of_ble_eq_true rfl) (Nat.le_of_ble_eq_true rfl) dX2_word_16 (fun H locs hP hD hS => ?_)
  simp only [nI_clamp (show 0 < 2 ^ 31 by omega), nI_clamp (show 0 < 2 ^ 31 by omega), nI_clamp (show tl < 2 ^ 31 by omega)] at hP hD
  rw [wl_cpyN] at hP hD
  have hP : va_P (dC, dI) vwCl [(h0, .inr (2, [.ref qP, .int (nI tl), .ref qW, .int (nI wn), .ref hT])), (qP, .inl (cI, 400, .inl (fun j => nI (tp j)))), (qW, .inl (cI, 400, .inl (fun j => nI ((va_cpy tp lt 0 0 tl) j))))] H := hP
  have hD : va_D A [(h0, .inr (2, [.ref qP, .int (nI tl), .ref qW, .int (nI wn), .ref hT])), (qP, .inl (cI, 400, .inl (fun j => nI (tp j)))), (qW, .inl (cI, 400, .inl (fun j => nI ((va_cpy tp lt 0 0 tl) j))))] := hD
  refine lv_aload_n hx hb dX2_word_19 rfl (lv_at hl 1 rfl) ?_
  refine lv_iload_n hx hb dX2_word_20 rfl (lv_at hl 0 rfl) ?_
  refine va_put (D := (dC, dI)) (ci := 2) (v := .int (nI tl)) (ty := .int) (C := RX2) (T := TX2) (N := 5) hx hb hts (by decide +kernel) tyX2 tyX2_ok nmX2 hown hK hP hD hS 0 rfl rfl 3 (by decide) (hts (.fieldLink RX2 48 "WildCards" "letterCount" "I") (by decide +kernel)) (fun _ h9 => h9) rfl (by decide +kernel) rfl rfl (Nat.le_of_ble_eq_true rfl) dX2_word_21 (fun H locs hP hD hS => ?_)
  have hP : va_P (dC, dI) vwCl [(h0, .inr (2, [.ref qP, .int (nI tl), .ref qW, .int (nI tl), .ref hT])), (qP, .inl (cI, 400, .inl (fun j => nI (tp j)))), (qW, .inl (cI, 400, .inl (fun j => nI ((va_cpy tp lt 0 0 tl) j))))] H := hP
  have hD : va_D A [(h0, .inr (2, [.ref qP, .int (nI tl), .ref qW, .int (nI tl), .ref hT])), (qP, .inl (cI, 400, .inl (fun j => nI (tp j)))), (qW, .inl (cI, 400, .inl (fun j => nI ((va_cpy tp lt 0 0 tl) j))))] := hD
  refine lv_aload_n hx hb dX2_word_24 rfl (lv_at hl 1 rfl) ?_
  refine lv_iconst (v := nI 0) hx hb dX2_word_25 (by decide) ?_
  refine va_put (D := (dC, dI)) (ci := 2) (v := .int (nI 0)) (ty := .int) (C := RX2) (T := TX2) (N := 5) hx hb hts (by decide +kernel) tyX2 tyX2_ok nmX2 hown hK hP hD hS 0 rfl rfl 1 (by decide) (hts (.fieldLink RX2 23 "WildCards" "tapeLength" "I") (by decide +kernel)) (fun _ h9 => h9) rfl (by decide +kernel) rfl rfl (Nat.le_of_ble_eq_true rfl) dX2_word_26 (fun H locs hP hD hS => ?_)
  have hP : va_P (dC, dI) vwCl [(h0, .inr (2, [.ref qP, .int (nI 0), .ref qW, .int (nI tl), .ref hT])), (qP, .inl (cI, 400, .inl (fun j => nI (tp j)))), (qW, .inl (cI, 400, .inl (fun j => nI ((va_cpy tp lt 0 0 tl) j))))] H := hP
  have hD : va_D A [(h0, .inr (2, [.ref qP, .int (nI 0), .ref qW, .int (nI tl), .ref hT])), (qP, .inl (cI, 400, .inl (fun j => nI (tp j)))), (qW, .inl (cI, 400, .inl (fun j => nI ((va_cpy tp lt 0 0 tl) j))))] := hD
  refine lv_iload_n hx hb dX2_word_29 rfl (lv_at hl 0 rfl) ?_
  have hP9 := hP.sub (ws' := [(h0, .inr (2, [.ref qP, .int (nI 0), .ref qW, .int (nI tl), .ref hT])), (qP, .inl (cI, 400, .inl (fun j => nI (tp j)))), (qW, .inl (cI, 400, .inl (fun j => nI ((va_cpy tp lt 0 0 tl) j))))]) [0, 1, 2] rfl
  have hD9 := hD.sub (ws' := [(h0, .inr (2, [.ref qP, .int (nI 0), .ref qW, .int (nI tl), .ref hT])), (qP, .inl (cI, 400, .inl (fun j => nI (tp j)))), (qW, .inl (cI, 400, .inl (fun j => nI ((va_cpy tp lt 0 0 tl) j))))]) [0, 1, 2] (by decide) rfl
  exact W.iret (v := nI tl) hx hb hr  (fun t ht hW => ⟨⟨nI tl, (), rfl, (show (nI tl) = nI tl from rfl), by rw [ht]; exact hP9, va_K.moved hW.alike hK, hD9⟩, hS.F ht⟩) hS.2.2 dX2_word_30
