set_option maxHeartbeats 4000000 in
set_option maxRecDepth 100000 in
theorem c_X3_end (l : Launch) (dC : Nat → ClassId) (dI : Nat → Nat → Nat) (cI cJ cZ : ClassId) (m0 kt kp kw kf : Nat) (sz : Nat) (tl : Nat) (L : Nat) (wn : Nat) (en : Nat) (td : Nat) (n : Int32) (htl : tl ≤ 400) : Met l yX3_end wsX3_end ({ frames := 0, cells := 0, slots := 0, locals := 0 }) (va_Pc [.ref m0, .int n] (fun U => U.heap.size = sz ∧ va_P (dC, dI) vwCl [(m0, .inr (3, [.ref kt, .ref kp, .ref kw, .int (nI tl), .int (nI L), .int (nI wn), .int (nI en), .int (nI td), .ref kf]))] U.heap ∧ va_K (dC, dI) vwCl [(cI, .int), (cJ, .long), (cZ, .boolean)] U ∧ va_D (fun _ => True) [(m0, .inr (3, [.ref kt, .ref kp, .ref kw, .int (nI tl), .int (nI L), .int (nI wn), .int (nI en), .int (nI td), .ref kf]))])) (va_Qi (fun (r : Int32) (u : Nat) => (∃ k0, k0 ≤ tl ∧ n = nI k0 ∧ u = k0 ∧ r = 1) ∨ ((n < 0 ∨ ¬ n ≤ nI tl) ∧ u = tl ∧ r = 0)) (fun (u : Nat) (t : State) => va_P (dC, dI) vwCl [(m0, .inr (3, [.ref kt, .ref kp, .ref kw, .int (nI u), .int (nI L), .int (nI wn), .int (nI en), .int (nI td), .ref kf]))] t.heap ∧ va_K (dC, dI) vwCl [(cI, .int), (cJ, .long), (cZ, .boolean)] t ∧ va_D (va_A [(m0, .inr (3, [.ref kt, .ref kp, .ref kw, .int (nI tl), .int (nI L), .int (nI wn), .int (nI en), .int (nI td), .ref kf]))] sz) [(m0, .inr (3, [.ref kt, .ref kp, .ref kw, .int (nI u), .int (nI L), .int (nI wn), .int (nI en), .int (nI td), .ref kf]))]) (va_A [(m0, .inr (3, [.ref kt, .ref kp, .ref kw, .int (nI tl), .int (nI L), .int (nI wn), .int (nI en), .int (nI td), .ref kf]))] sz)) 0 0 (va_A [(m0, .inr (3, [.ref kt, .ref kp, .ref kw, .int (nI tl), .int (nI L), .int (nI wn), .int (nI en), .int (nI td), .ref kf]))] sz) := by
  refine Met.ofW (cc := cX3_end) (maxL := 2) (ret := (some .boolean)) (by decide) rfl ?_
  intro p e s m args below meth c s₁ B hml hv
  obtain ⟨rfl, hsz, hP, hK, hD0⟩ := hv
  have hx := B.exec
  have hb := B.bytes
  have hr := B.returns
  have hts := atoms_spec (ws := wsX3_end) B.pre
  have hown : s.vm.findClass RX3 = some m.cls := findClass_of_methodNamed B.named
  have hlocks := B.notSynchronized
  subst hsz
  have hD := hD0.self (sz := s.heap.size)
  generalize hAe : va_A [(m0, .inr (3, [.ref kt, .ref kp, .ref kw, .int (nI tl), .int (nI L), .int (nI wn), .int (nI en), .int (nI td), .ref kf]))] s.heap.size = A at hD ⊢
  have hA : ∀ q : Nat, s.heap.size ≤ q → A q := fun q h => by rw [← hAe]; exact Or.inr h
  have hS : va_S A s.heap s.heap [] := va_S.rf
  have hP : va_P (dC, dI) vwCl [(m0, .inr (3, [.ref kt, .ref kp, .ref kw, .int (nI tl), .int (nI L), .int (nI wn), .int (nI en), .int (nI td), .ref kf]))] s.heap := hP
  have hl := lv_entry ([.ref m0, .int n]) (n := 2) (Nat.le_of_ble_eq_true rfl)
  rw [lg_entry_eq]
  generalize (lg_sl ([.ref m0, .int n]) ++ List.replicate (2 - (lg_sl ([.ref m0, .int n])).length) Slot.unset).toArray = ls at hl ⊢
  have hl : lv_has ls 2 [(0, .ref m0), (1, .int n)] := hl
  skip
  refine lv_iload_n hx hb dX3_end_0 rfl (lv_at hl 1 rfl) ?_
  refine lv_if_lt (tgt := 12) hx hb dX3_end_1 (by decide) (fun c1 => ?_) (fun c1 => ?_)
  · skip
    refine lv_iconst (v := nI 0) hx hb dX3_end_12 (by decide) ?_
    have hP9 := hP.sub (ws' := [(m0, .inr (3, [.ref kt, .ref kp, .ref kw, .int (nI tl), .int (nI L), .int (nI wn), .int (nI en), .int (nI td), .ref kf]))]) [0] rfl
    have hD9 := hD.sub (ws' := [(m0, .inr (3, [.ref kt, .ref kp, .ref kw, .int (nI tl), .int (nI L), .int (nI wn), .int (nI en), .int (nI td), .ref kf]))]) [0] (by decide) rfl
    exact W.zret (v := nI 0) hx hb hr (by decide) (fun t ht hW => ⟨⟨nI 0, tl, rfl, (show (∃ k0, k0 ≤ tl ∧ n = nI k0 ∧ tl = k0 ∧ (nI 0) = 1) ∨ ((n < 0 ∨ ¬ n ≤ nI tl) ∧ tl = tl ∧ (nI 0) = 0) from Or.inr ⟨Or.inl c1, rfl, rfl⟩), by rw [ht]; exact hP9, va_K.moved hW.alike hK, hD9⟩, hS.F ht⟩) hS.2.2 dX3_end_13
  · skip
    refine lv_iload_n hx hb dX3_end_4 rfl (lv_at hl 1 rfl) ?_
    refine lv_aload_n hx hb dX3_end_5 rfl (lv_at hl 0 rfl) ?_
    refine va_get (D := (dC, dI)) (ci := 3) (v := .int (nI tl)) (C := RX3) (T := TX3) (N := 9) hx hb hts (by decide +kernel) hown hK hP 0 rfl rfl 3 (by decide) (hts (.fieldLink RX3 23 "WildCardsModel" "typed" "I") (by decide +kernel)) (fun _ h9 => h9) rfl dX3_end_6 ?_
    refine lv_icmp_le (tgt := 14) hx hb dX3_end_9 (by decide) (fun c9 => ?_) (fun c9 => ?_)
    · skip
      obtain ⟨k, hk, en2⟩ := nI_of2 (nI_toInt (show tl < 2 ^ 31 by omega)) c1 c9
      refine lv_aload_n hx hb dX3_end_14 rfl (lv_at hl 0 rfl) ?_
      refine lv_iload_n hx hb dX3_end_15 rfl (lv_at hl 1 rfl) ?_
      refine wl_asi (y := nI k) (en2) ?_
      refine va_put (D := (dC, dI)) (ci := 3) (v := .int (nI k)) (ty := .int) (C := RX3) (T := TX3) (N := 9) hx hb hts (by decide +kernel) tyX3 tyX3_ok nmX3 hown hK hP hD hS 0 rfl rfl 3 (by decide) (hts (.fieldLink RX3 23 "WildCardsModel" "typed" "I") (by decide +kernel)) (fun _ h9 => h9) rfl (by decide +kernel) rfl rfl (Nat.le_of_ble_eq_true rfl) dX3_end_16 (fun H locs hP hD hS => ?_)
      have hP : va_P (dC, dI) vwCl [(m0, .inr (3, [.ref kt, .ref kp, .ref kw, .int (nI k), .int (nI L), .int (nI wn), .int (nI en), .int (nI td), .ref kf]))] H := hP
      have hD : va_D A [(m0, .inr (3, [.ref kt, .ref kp, .ref kw, .int (nI k), .int (nI L), .int (nI wn), .int (nI en), .int (nI td), .ref kf]))] := hD
      refine lv_iconst (v := nI 1) hx hb dX3_end_19 (by decide) ?_
      have hP9 := hP.sub (ws' := [(m0, .inr (3, [.ref kt, .ref kp, .ref kw, .int (nI k), .int (nI L), .int (nI wn), .int (nI en), .int (nI td), .ref kf]))]) [0] rfl
      have hD9 := hD.sub (ws' := [(m0, .inr (3, [.ref kt, .ref kp, .ref kw, .int (nI k), .int (nI L), .int (nI wn), .int (nI en), .int (nI td), .ref kf]))]) [0] (by decide) rfl
      exact W.zret (v := nI 1) hx hb hr (by decide) (fun t ht hW => ⟨⟨nI 1, k, rfl, (show (∃ k0, k0 ≤ tl ∧ n = nI k0 ∧ k = k0 ∧ (nI 1) = 1) ∨ ((n < 0 ∨ ¬ n ≤ nI tl) ∧ k = tl ∧ (nI 1) = 0) from Or.inl ⟨k, hk, en2, rfl, rfl⟩), by rw [ht]; exact hP9, va_K.moved hW.alike hK, hD9⟩, hS.F ht⟩) hS.2.2 dX3_end_20
    · skip
      refine lv_iconst (v := nI 0) hx hb dX3_end_12 (by decide) ?_
      have hP9 := hP.sub (ws' := [(m0, .inr (3, [.ref kt, .ref kp, .ref kw, .int (nI tl), .int (nI L), .int (nI wn), .int (nI en), .int (nI td), .ref kf]))]) [0] rfl
      have hD9 := hD.sub (ws' := [(m0, .inr (3, [.ref kt, .ref kp, .ref kw, .int (nI tl), .int (nI L), .int (nI wn), .int (nI en), .int (nI td), .ref kf]))]) [0] (by decide) rfl
      exact W.zret (v := nI 0) hx hb hr (by decide) (fun t ht hW => ⟨⟨nI 0, tl, rfl, (show (∃ k0, k0 ≤ tl ∧ n = nI k0 ∧ tl = k0 ∧ (nI 0) = 1) ∨ ((n < 0 ∨ ¬ n ≤ nI tl) ∧ tl = tl ∧ (nI 0) = 0) from Or.inr ⟨Or.inr c9, rfl, rfl⟩), by rw [ht]; exact hP9, va_K.moved hW.alike hK, hD9⟩, hS.F ht⟩) hS.2.2 dX3_end_13
