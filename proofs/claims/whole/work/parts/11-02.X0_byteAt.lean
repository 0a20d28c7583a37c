set_option maxHeartbeats 4000000 in
set_option maxRecDepth 100000 in
theorem c_X0_byteAt (l : Launch) (dC : Nat → ClassId) (dI : Nat → Nat → Nat) (cI cJ cZ : ClassId) (hR qB hT : Nat) (sz : Nat) (L : Nat) (ix : Nat) (a : Nat → Nat) (pp : Nat) (hL : L ≤ 400) (hp : pp < 2 ^ 31) : Met l yX0_byteAt wsX0_byteAt ({ frames := 0, cells := 0, slots := 0, locals := 0 }) (va_Pc [.ref hR, .int (nI pp)] (fun U => U.heap.size = sz ∧ va_P (dC, dI) vwCl [(hR, .inr (0, [.ref qB, .int (nI L), .ref hT, .int (nI ix)])), (qB, .inl (cI, 400, .inl (fun j => nI (a j))))] U.heap ∧ va_K (dC, dI) vwCl [(cI, .int), (cJ, .long), (cZ, .boolean)] U ∧ va_D (fun _ => True) [(hR, .inr (0, [.ref qB, .int (nI L), .ref hT, .int (nI ix)])), (qB, .inl (cI, 400, .inl (fun j => nI (a j))))])) (va_Qi (fun (r : Int32) (u : Unit) => r = if pp < L then nI (a pp) else (-1)) (fun (u : Unit) (t : State) => va_P (dC, dI) vwCl [(hR, .inr (0, [.ref qB, .int (nI L), .ref hT, .int (nI ix)])), (qB, .inl (cI, 400, .inl (fun j => nI (a j))))] t.heap ∧ va_K (dC, dI) vwCl [(cI, .int), (cJ, .long), (cZ, .boolean)] t ∧ va_D (va_A [(hR, .inr (0, [.ref qB, .int (nI L), .ref hT, .int (nI ix)])), (qB, .inl (cI, 400, .inl (fun j => nI (a j))))] sz) [(hR, .inr (0, [.ref qB, .int (nI L), .ref hT, .int (nI ix)])), (qB, .inl (cI, 400, .inl (fun j => nI (a j))))]) (va_A [(hR, .inr (0, [.ref qB, .int (nI L), .ref hT, .int (nI ix)])), (qB, .inl (cI, 400, .inl (fun j => nI (a j))))] sz)) 0 0 (va_A [(hR, .inr (0, [.ref qB, .int (nI L), .ref hT, .int (nI ix)])), (qB, .inl (cI, 400, .inl (fun j => nI (a j))))] sz) := by
  refine Met.ofW (cc := cX0_byteAt) (maxL := 2) (ret := (some .int)) (by decide) rfl ?_
  intro p e s m args below meth c s₁ B hml hv
  obtain ⟨rfl, hsz, hP, hK, hD0⟩ := hv
  have hx := B.exec
  have hb := B.bytes
  have hr := B.returns
  have hts := atoms_spec (ws := wsX0_byteAt) B.pre
  have hown : s.vm.findClass RX0 = some m.cls := findClass_of_methodNamed B.named
  have hlocks := B.notSynchronized
  subst hsz
  have hD := hD0.self (sz := s.heap.size)
  generalize hAe : va_A [(hR, .inr (0, [.ref qB, .int (nI L), .ref hT, .int (nI ix)])), (qB, .inl (cI, 400, .inl (fun j => nI (a j))))] s.heap.size = A at hD ⊢
  have hA : ∀ q : Nat, s.heap.size ≤ q → A q := fun q h => by rw [← hAe]; exact Or.inr h
  have hS : va_S A s.heap s.heap [] := va_S.rf
  have hP : va_P (dC, dI) vwCl [(hR, .inr (0, [.ref qB, .int (nI L), .ref hT, .int (nI ix)])), (qB, .inl (cI, 400, .inl (fun j => nI (a j))))] s.heap := hP
  have hl := lv_entry ([.ref hR, .int (nI pp)]) (n := 2) (Nat.le_of_ble_eq_true rfl)
  rw [lg_entry_eq]
  generalize (lg_sl ([.ref hR, .int (nI pp)]) ++ List.replicate (2 - (lg_sl ([.ref hR, .int (nI pp)])).length) Slot.unset).toArray = ls at hl ⊢
  have hl : lv_has ls 2 [(0, .ref hR), (1, .int (nI pp))] := hl
  skip
  refine lv_iload_n hx hb dX0_byteAt_0 rfl (lv_at hl 1 rfl) ?_
  refine lv_if_lt (tgt := 21) hx hb dX0_byteAt_1 (by decide) (fun c1 => ?_) (fun c1 => ?_)
  · exact absurd c1 (nI_pos (by omega))
  · skip
    refine lv_iload_n hx hb dX0_byteAt_4 rfl (lv_at hl 1 rfl) ?_
    refine lv_aload_n hx hb dX0_byteAt_5 rfl (lv_at hl 0 rfl) ?_
    refine va_get (D := (dC, dI)) (ci := 0) (v := .int (nI L)) (C := RX0) (T := TX0) (N := 4) hx hb hts (by decide +kernel) hown hK hP 0 rfl rfl 1 (by decide) (hts (.fieldLink RX0 15 "WildCards$Reader" "length" "I") (by decide +kernel)) (fun _ h9 => h9) rfl dX0_byteAt_6 ?_
    refine wl_icmp_ge (tgt := 21) hx hb dX0_byteAt_9 (by decide) (by omega) (by omega) (fun c9 => ?_) (fun c9 => ?_)
    · skip
      refine lv_iconst (v := (-1)) hx hb dX0_byteAt_21 (by decide) ?_
      have hP9 := hP.sub (ws' := [(hR, .inr (0, [.ref qB, .int (nI L), .ref hT, .int (nI ix)])), (qB, .inl (cI, 400, .inl (fun j => nI (a j))))]) [0, 1] rfl
      have hD9 := hD.sub (ws' := [(hR, .inr (0, [.ref qB, .int (nI L), .ref hT, .int (nI ix)])), (qB, .inl (cI, 400, .inl (fun j => nI (a j))))]) [0, 1] (by decide) rfl
      exact W.iret (v := (-1)) hx hb hr  (fun t ht hW => ⟨⟨(-1), (), rfl, (show ((-1)) = if pp < L then nI (a pp) else (-1) from by rw [if_neg (by omega)]), by rw [ht]; exact hP9, va_K.moved hW.alike hK, hD9⟩, hS.F ht⟩) hS.2.2 dX0_byteAt_22
    · skip
      refine lv_aload_n hx hb dX0_byteAt_12 rfl (lv_at hl 0 rfl) ?_
      refine va_get (D := (dC, dI)) (ci := 0) (v := .ref qB) (C := RX0) (T := TX0) (N := 4) hx hb hts (by decide +kernel) hown hK hP 0 rfl rfl 0 (by decide) (hts (.fieldLink RX0 9 "WildCards$Reader" "bytes" "[I") (by decide +kernel)) (fun _ h9 => h9) rfl dX0_byteAt_13 ?_
      refine lv_iload_n hx hb dX0_byteAt_16 rfl (lv_at hl 1 rfl) ?_
      refine va_iald hx hb hK hP 1 0 rfl rfl (vp_in_nI (by omega) (by omega)) dX0_byteAt_17 ?_
      refine wl_asi (y := nI (a pp)) (by rw [nI_clamp (by omega)]) ?_
      refine lv_goto (tgt := 22) hx hb dX0_byteAt_18 (by decide) ?_
      have hP9 := hP.sub (ws' := [(hR, .inr (0, [.ref qB, .int (nI L), .ref hT, .int (nI ix)])), (qB, .inl (cI, 400, .inl (fun j => nI (a j))))]) [0, 1] rfl
      have hD9 := hD.sub (ws' := [(hR, .inr (0, [.ref qB, .int (nI L), .ref hT, .int (nI ix)])), (qB, .inl (cI, 400, .inl (fun j => nI (a j))))]) [0, 1] (by decide) rfl
      exact W.iret (v := nI (a pp)) hx hb hr  (fun t ht hW => ⟨⟨nI (a pp), (), rfl, (show (nI (a pp)) = if pp < L then nI (a pp) else (-1) from by rw [if_pos c9]), by rw [ht]; exact hP9, va_K.moved hW.alike hK, hD9⟩, hS.F ht⟩) hS.2.2 dX0_byteAt_22
