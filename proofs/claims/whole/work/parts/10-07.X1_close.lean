set_option maxHeartbeats 4000000 in
set_option maxRecDepth 100000 in
theorem c_X1_close (l : Launch) (dC : Nat → ClassId) (dI : Nat → Nat → Nat) (cI cJ cZ : ClassId) (hT qT qL qR : Nat) (sz : Nat) (cnt : Nat) (fT : Nat → Int64) (fL : Nat → Int64) (fR : Nat → Int64) (hc : cnt < 400) : Met l yX1_close wsX1_close ({ frames := 0, cells := 0, slots := 0, locals := 0 }) (va_Pc [.ref hT] (fun U => U.heap.size = sz ∧ va_P (dC, dI) vwCl [(hT, .inr (1, [.ref qT, .ref qL, .ref qR, .int (nI cnt)])), (qT, .inl (cJ, 1792, .inr (.inl fT))), (qL, .inl (cJ, 7, .inr (.inl fL))), (qR, .inl (cJ, 7, .inr (.inl fR)))] U.heap ∧ va_K (dC, dI) vwCl [(cI, .int), (cJ, .long), (cZ, .boolean)] U ∧ va_D (fun _ => True) [(hT, .inr (1, [.ref qT, .ref qL, .ref qR, .int (nI cnt)])), (qT, .inl (cJ, 1792, .inr (.inl fT))), (qL, .inl (cJ, 7, .inr (.inl fL))), (qR, .inl (cJ, 7, .inr (.inl fR)))])) (va_Qv (fun (u : Unit) => True) (fun (u : Unit) (t : State) => va_P (dC, dI) vwCl [(hT, .inr (1, [.ref qT, .ref qL, .ref qR, .int (nI (cnt + 1))])), (qT, .inl (cJ, 1792, .inr (.inl fT))), (qL, .inl (cJ, 7, .inr (.inl fL))), (qR, .inl (cJ, 7, .inr (.inl fR)))] t.heap ∧ va_K (dC, dI) vwCl [(cI, .int), (cJ, .long), (cZ, .boolean)] t ∧ va_D (va_A [(hT, .inr (1, [.ref qT, .ref qL, .ref qR, .int (nI cnt)])), (qT, .inl (cJ, 1792, .inr (.inl fT))), (qL, .inl (cJ, 7, .inr (.inl fL))), (qR, .inl (cJ, 7, .inr (.inl fR)))] sz) [(hT, .inr (1, [.ref qT, .ref qL, .ref qR, .int (nI (cnt + 1))])), (qT, .inl (cJ, 1792, .inr (.inl fT))), (qL, .inl (cJ, 7, .inr (.inl fL))), (qR, .inl (cJ, 7, .inr (.inl fR)))]) (va_A [(hT, .inr (1, [.ref qT, .ref qL, .ref qR, .int (nI cnt)])), (qT, .inl (cJ, 1792, .inr (.inl fT))), (qL, .inl (cJ, 7, .inr (.inl fL))), (qR, .inl (cJ, 7, .inr (.inl fR)))] sz)) 0 0 (va_A [(hT, .inr (1, [.ref qT, .ref qL, .ref qR, .int (nI cnt)])), (qT, .inl (cJ, 1792, .inr (.inl fT))), (qL, .inl (cJ, 7, .inr (.inl fL))), (qR, .inl (cJ, 7, .inr (.inl fR)))] sz) := by
  refine Met.ofW (cc := cX1_close) (maxL := 1) (ret := none) (by decide) rfl ?_
  intro p e s m args below meth c s₁ B hml hv
  obtain ⟨rfl, hsz, hP, hK, hD0⟩ := hv
  have hx := B.exec
  have hb := B.bytes
  have hr := B.returns
  have hts := atoms_spec (ws := wsX1_close) B.pre
  have hown : s.vm.findClass RX1 = some m.cls := findClass_of_methodNamed B.named
  have hlocks := B.notSynchronized
  subst hsz
  have hD := hD0.self (sz := s.heap.size)
  generalize hAe : va_A [(hT, .inr (1, [.ref qT, .ref qL, .ref qR, .int (nI cnt)])), (qT, .inl (cJ, 1792, .inr (.inl fT))), (qL, .inl (cJ, 7, .inr (.inl fL))), (qR, .inl (cJ, 7, .inr (.inl fR)))] s.heap.size = A at hD ⊢
  have hA : ∀ q : Nat, s.heap.size ≤ q → A q := fun q h => by rw [← hAe]; exact Or.inr h
  have hS : va_S A s.heap s.heap [] := va_S.rf
  have hP : va_P (dC, dI) vwCl [(hT, .inr (1, [.ref qT, .ref qL, .ref qR, .int (nI cnt)])), (qT, .inl (cJ, 1792, .inr (.inl fT))), (qL, .inl (cJ, 7, .inr (.inl fL))), (qR, .inl (cJ, 7, .inr (.inl fR)))] s.heap := hP
  have hl := lv_entry ([.ref hT]) (n := 1) (Nat.le_of_ble_eq_true rfl)
  rw [lg_entry_eq]
  generalize (lg_sl ([.ref hT]) ++ List.replicate (1 - (lg_sl ([.ref hT])).length) Slot.unset).toArray = ls at hl ⊢
  have hl : lv_has ls 1 [(0, .ref hT)] := hl
  skip
  refine lv_aload_n hx hb dX1_close_0 rfl (lv_at hl 0 rfl) ?_
  refine va_get (D := (dC, dI)) (ci := 1) (v := .int (nI cnt)) (C := RX1) (T := TX1) (N := 4) hx hb hts (by decide +kernel) hown hK hP 0 rfl rfl 3 (by decide) (hts (.fieldLink RX1 27 "WildCards$Things" "count" "I") (by decide +kernel)) (fun _ h9 => h9) rfl dX1_close_1 ?_
  refine lv_sipush (v := nI 400) hx hb dX1_close_4 (by decide) ?_
  refine wl_icmp_ge (tgt := 20) hx hb dX1_close_7 (by decide) (by omega) (by omega) (fun c7 => ?_) (fun c7 => ?_)
  · skip
    exact absurd c7 (by omega)
  · skip
    refine lv_aload_n hx hb dX1_close_10 rfl (lv_at hl 0 rfl) ?_
    refine lv_dup hx hb dX1_close_11 rfl ?_
    refine va_get (D := (dC, dI)) (ci := 1) (v := .int (nI cnt)) (C := RX1) (T := TX1) (N := 4) hx hb hts (by decide +kernel) hown hK hP 0 rfl rfl 3 (by decide) (hts (.fieldLink RX1 27 "WildCards$Things" "count" "I") (by decide +kernel)) (fun _ h9 => h9) rfl dX1_close_12 ?_
    refine lv_iconst (v := nI 1) hx hb dX1_close_15 (by decide) ?_
    refine lv_iadd hx hb dX1_close_16 ?_
    refine wl_asi (y := nI (cnt + 1)) (nI_add _ _) ?_
    refine va_put (D := (dC, dI)) (ci := 1) (v := .int (nI (cnt + 1))) (ty := .int) (C := RX1) (T := TX1) (N := 4) hx hb hts (by decide +kernel) tyX1 tyX1_ok nmX1 hown hK hP hD hS 0 rfl rfl 3 (by decide) (hts (.fieldLink RX1 27 "WildCards$Things" "count" "I") (by decide +kernel)) (fun _ h9 => h9) rfl (by decide +kernel) rfl rfl (Nat.le_of_ble_eq_true rfl) dX1_close_17 (fun H locs hP hD hS => ?_)
    have hP : va_P (dC, dI) vwCl [(hT, .inr (1, [.ref qT, .ref qL, .ref qR, .int (nI (cnt + 1))])), (qT, .inl (cJ, 1792, .inr (.inl fT))), (qL, .inl (cJ, 7, .inr (.inl fL))), (qR, .inl (cJ, 7, .inr (.inl fR)))] H := hP
    have hD : va_D A [(hT, .inr (1, [.ref qT, .ref qL, .ref qR, .int (nI (cnt + 1))])), (qT, .inl (cJ, 1792, .inr (.inl fT))), (qL, .inl (cJ, 7, .inr (.inl fL))), (qR, .inl (cJ, 7, .inr (.inl fR)))] := hD
    have hP9 := hP.sub (ws' := [(hT, .inr (1, [.ref qT, .ref qL, .ref qR, .int (nI (cnt + 1))])), (qT, .inl (cJ, 1792, .inr (.inl fT))), (qL, .inl (cJ, 7, .inr (.inl fL))), (qR, .inl (cJ, 7, .inr (.inl fR)))]) [0, 1, 2, 3] rfl
    have hD9 := hD.sub (ws' := [(hT, .inr (1, [.ref qT, .ref qL, .ref qR, .int (nI (cnt + 1))])), (qT, .inl (cJ, 1792, .inr (.inl fT))), (qL, .inl (cJ, 7, .inr (.inl fL))), (qR, .inl (cJ, 7, .inr (.inl fR)))]) [0, 1, 2, 3] (by decide) rfl
    exact W.vret hx hb hr (fun t ht hW => ⟨⟨(), rfl, trivial, by rw [ht]; exact hP9, va_K.moved hW.alike hK, hD9⟩, hS.F ht⟩) hS.2.2 dX1_close_20
