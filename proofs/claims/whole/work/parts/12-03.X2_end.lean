set_option maxHeartbeats 4000000 in
set_option maxRecDepth 100000 in
theorem c_X2_end (l : Launch) (dC : Nat → ClassId) (dI : Nat → Nat → Nat) (cI cJ cZ : ClassId) (h0 qP qW hT : Nat) (sz : Nat) (tl : Nat) (wn : Nat) (n : Int32) (htl : tl ≤ 400) : Met l yX2_end wsX2_end ({ frames := 0, cells := 0, slots := 0, locals := 0 }) (va_Pc [.ref h0, .int n] (fun U => U.heap.size = sz ∧ va_P (dC, dI) vwCl [(h0, .inr (2, [.ref qP, .int (nI tl), .ref qW, .int (nI wn), .ref hT]))] U.heap ∧ va_K (dC, dI) vwCl [(cI, .int), (cJ, .long), (cZ, .boolean)] U ∧ va_D (fun _ => True) [(h0, .inr (2, [.ref qP, .int (nI tl), .ref qW, .int (nI wn), .ref hT]))])) (va_Qi (fun (r : Int32) (u : Nat) => (∃ k0, k0 ≤ tl ∧ n = nI k0 ∧ u = k0 ∧ r = 1) ∨ ((n < 0 ∨ ¬ n ≤ nI tl) ∧ u = tl ∧ r = 0)) (fun (u : Nat) (t : State) => va_P (dC, dI) vwCl [(h0, .inr (2, [.ref qP, .int (nI u), .ref qW, .int (nI wn), .ref hT]))] t.heap ∧ va_K (dC, dI) vwCl [(cI, .int), (cJ, .long), (cZ, .boolean)] t ∧ va_D (va_A [(h0, .inr (2, [.ref qP, .int (nI tl), .ref qW, .int (nI wn), .ref hT]))] sz) [(h0, .inr (2, [.ref qP, .int (nI u), .ref qW, .int (nI wn), .ref hT]))]) (va_A [(h0, .inr (2, [.ref qP, .int (nI tl), .ref qW, .int (nI wn), .ref hT]))] sz)) 0 0 (va_A [(h0, .inr (2, [.ref qP, .int (nI tl), .ref qW, .int (nI wn), .ref hT]))] sz) := by
  refine Met.ofW (cc := cX2_end) (maxL := 2) (ret := (some .boolean)) (by decide) rfl ?_
  intro p e s m args below meth c s₁ B hml hv
  obtain ⟨rfl, hsz, hP, hK, hD0⟩ := hv
  have hx := B.exec
  have hb := B.bytes
  have hr := B.returns
  have hts := atoms_spec (ws := wsX2_end) B.pre
  have hown : s.vm.findClass RX2 = some m.cls := findClass_of_methodNamed B.named
  have hlocks := B.notSynchronized
  subst hsz
  have hD := hD0.self (sz := s.heap.size)
  generalize hAe : va_A [(h0, .inr (2, [.ref qP, .int (nI tl), .ref qW, .int (nI wn), .ref hT]))] s.heap.size = A at hD ⊢
  have hA : ∀ q : Nat, s.heap.size ≤ q → A q := fun q h => by rw [← hAe]; exact Or.inr h
  have hS : va_S A s.heap s.heap [] := va_S.rf
  have hP : va_P (dC, dI) vwCl [(h0, .inr (2, [.ref qP, .int (nI tl), .ref qW, .int (nI wn), .ref hT]))] s.heap := hP
  have hl := lv_entry ([.ref h0, .int n]) (n := 2) (Nat.le_of_ble_eq_true rfl)
  rw [lg_entry_eq]
  generalize (lg_sl ([.ref h0, .int n]) ++ List.replicate (2 - (lg_sl ([.ref h0, .int n])).length) Slot.unset).toArray = ls at hl ⊢
  have hl : lv_has ls 2 [(0, .ref h0), (1, .int n)] := hl
  skip
  refine lv_iload_n hx hb dX2_end_0 rfl (lv_at hl 1 rfl) ?_
  refine lv_if_lt (tgt := 12) hx hb dX2_end_1 (by decide) (fun c1 => ?_) (fun c1 => ?_)
  · skip
    refine lv_iconst (v := nI 0) hx hb dX2_end_12 (by decide) ?_
    have hP9 := hP.sub (ws' := [(h0, .inr (2, [.ref qP, .int (nI tl), .ref qW, .int (nI wn), .ref hT]))]) [0] rfl
    have hD9 := hD.sub (ws' := [(h0, .inr (2, [.ref qP, .int (nI tl), .ref qW, .int (nI wn), .ref hT]))]) [0] (by decide) rfl
    exact W.zret (v := nI 0) hx hb hr (by decide) (fun t ht hW => ⟨⟨nI 0, tl, rfl, (show (∃ k0, k0 ≤ tl ∧ n = nI k0 ∧ tl = k0 ∧ (nI 0) = 1) ∨ ((n < 0 ∨ ¬ n ≤ nI tl) ∧ tl = tl ∧ (nI 0) = 0) from Or.inr ⟨Or.inl c1, rfl, rfl⟩), by rw [ht]; exact hP9, va_K.moved hW.alike hK, hD9⟩, hS.F ht⟩) hS.2.2 dX2_end_13
  · skip
    refine lv_iload_n hx hb dX2_end_4 rfl (lv_at hl 1 rfl) ?_
    refine lv_aload_n hx hb dX2_end_5 rfl (lv_at hl 0 rfl) ?_
    refine va_get (D := (dC, dI)) (ci := 2) (v := .int (nI tl)) (C := RX2) (T := TX2) (N := 5) hx hb hts (by decide +kernel) hown hK hP 0 rfl rfl 1 (by decide) (hts (.fieldLink RX2 23 "WildCards" "tapeLength" "I") (by decide +kernel)) (fun _ h9 => h9) rfl dX2_end_6 ?_
    refine lv_icmp_le (tgt := 14) hx hb dX2_end_9 (by decide) (fun c9 => ?_) (fun c9 => ?_)
    · skip
      obtain ⟨k, hk, en⟩ := nI_of2 (nI_toInt (show tl < 2 ^ 31 by omega)) c1 c9
      refine lv_aload_n hx hb dX2_end_14 rfl (lv_at hl 0 rfl) ?_
      refine lv_iload_n hx hb dX2_end_15 rfl (lv_at hl 1 rfl) ?_
      refine wl_asi (y := nI k) (en) ?_
      refine va_put (D := (dC, dI)) (ci := 2) (v := .int (nI k)) (ty := .int) (C := RX2) (T := TX2) (N := 5) hx hb hts (by decide +kernel) tyX2 tyX2_ok nmX2 hown hK hP hD hS 0 rfl rfl 1 (by decide) (hts (.fieldLink RX2 23 "WildCards" "tapeLength" "I") (by decide +kernel)) (fun _ h9 => h9) rfl (by decide +kernel) rfl rfl (Nat.le_of_ble_eq_true rfl) dX2_end_16 (fun H locs hP hD hS => ?_)
      have hP : va_P (dC, dI) vwCl [(h0, .inr (2, [.ref qP, .int (nI k), .ref qW, .int (nI wn), .ref hT]))] H := hP
      have hD : va_D A [(h0, .inr (2, [.ref qP, .int (nI k), .ref qW, .int (nI wn), .ref hT]))] := hD
      refine lv_iconst (v := nI 1) hx hb dX2_end_19 (by decide) ?_
      have hP9 := hP.sub (ws' := [(h0, .inr (2, [.ref qP, .int (nI k), .ref qW, .int (nI wn), .ref hT]))]) [0] rfl
      have hD9 := hD.sub (ws' := [(h0, .inr (2, [.ref qP, .int (nI k), .ref qW, .int (nI wn), .ref hT]))]) [0] (by decide) rfl
      exact W.zret (v := nI 1) hx hb hr (by decide) (fun t ht hW => ⟨⟨nI 1, k, rfl, (show (∃ k0, k0 ≤ tl ∧ n = nI k0 ∧ k = k0 ∧ (nI 1) = 1) ∨ ((n < 0 ∨ ¬ n ≤ nI tl) ∧ k = tl ∧ (nI 1) = 0) from Or.inl ⟨k, hk, en, rfl, rfl⟩), by rw [ht]; exact hP9, va_K.moved hW.alike hK, hD9⟩, hS.F ht⟩) hS.2.2 dX2_end_20
    · skip
      refine lv_iconst (v := nI 0) hx hb dX2_end_12 (by decide) ?_
      have hP9 := hP.sub (ws' := [(h0, .inr (2, [.ref qP, .int (nI tl), .ref qW, .int (nI wn), .ref hT]))]) [0] rfl
      have hD9 := hD.sub (ws' := [(h0, .inr (2, [.ref qP, .int (nI tl), .ref qW, .int (nI wn), .ref hT]))]) [0] (by decide) rfl
      exact W.zret (v := nI 0) hx hb hr (by decide) (fun t ht hW => ⟨⟨nI 0, tl, rfl, (show (∃ k0, k0 ≤ tl ∧ n = nI k0 ∧ tl = k0 ∧ (nI 0) = 1) ∨ ((n < 0 ∨ ¬ n ≤ nI tl) ∧ tl = tl ∧ (nI 0) = 0) from Or.inr ⟨Or.inr c9, rfl, rfl⟩), by rw [ht]; exact hP9, va_K.moved hW.alike hK, hD9⟩, hS.F ht⟩) hS.2.2 dX2_end_13
