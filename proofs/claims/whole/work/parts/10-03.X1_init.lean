set_option maxHeartbeats 4000000 in
set_option maxRecDepth 100000 in
theorem c_X1_init (l : Launch) (dC : Nat → ClassId) (dI : Nat → Nat → Nat) (cI cJ cZ : ClassId) (hT : Nat) (sz : Nat) : Met l yX1_init wsX1_init ({ frames := 1, cells := 3, slots := 1806, locals := 12 }) (va_Pc [.ref hT] (fun U => U.heap.size = sz ∧ va_P (dC, dI) vwCl [(hT, .inr (1, [.null, .null, .null, .int (nI 0)]))] U.heap ∧ va_K (dC, dI) vwCl [(cI, .int), (cJ, .long), (cZ, .boolean)] U ∧ va_D (fun _ => True) [(hT, .inr (1, [.null, .null, .null, .int (nI 0)]))])) (va_Qv (fun (u : Nat × Nat × Nat) => True) (fun (u : Nat × Nat × Nat) (t : State) => va_P (dC, dI) vwCl [(hT, .inr (1, [.ref u.1, .ref u.2.1, .ref u.2.2, .int (nI 0)])), (u.1, .inl (cJ, 1792, .inr (.inl (fun _ => 0)))), (u.2.1, .inl (cJ, 7, .inr (.inl (fun _ => 0)))), (u.2.2, .inl (cJ, 7, .inr (.inl (fun _ => 0))))] t.heap ∧ va_K (dC, dI) vwCl [(cI, .int), (cJ, .long), (cZ, .boolean)] t ∧ va_D (va_A [(hT, .inr (1, [.null, .null, .null, .int (nI 0)]))] sz) [(hT, .inr (1, [.ref u.1, .ref u.2.1, .ref u.2.2, .int (nI 0)])), (u.1, .inl (cJ, 1792, .inr (.inl (fun _ => 0)))), (u.2.1, .inl (cJ, 7, .inr (.inl (fun _ => 0)))), (u.2.2, .inl (cJ, 7, .inr (.inl (fun _ => 0))))]) (va_A [(hT, .inr (1, [.null, .null, .null, .int (nI 0)]))] sz)) 3 1806 (va_A [(hT, .inr (1, [.null, .null, .null, .int (nI 0)]))] sz) := by
  refine Met.ofW (cc := cX1_init) (maxL := 1) (ret := none) (by decide) rfl ?_
  intro p e s m args below meth c s₁ B hml hv
  obtain ⟨rfl, hsz, hP, hK, hD0⟩ := hv
  have hx := B.exec
  have hb := B.bytes
  have hr := B.returns
  have hts := atoms_spec (ws := wsX1_init) B.pre
  have hown : s.vm.findClass RX1 = some m.cls := findClass_of_methodNamed B.named
  have hlocks := B.notSynchronized
  have hin : meth.name = "<init>" := (name_of_methodNamed B.named B.method).1
  subst hsz
  have hD := hD0.self (sz := s.heap.size)
  generalize hAe : va_A [(hT, .inr (1, [.null, .null, .null, .int (nI 0)]))] s.heap.size = A at hD ⊢
  have hA : ∀ q : Nat, s.heap.size ≤ q → A q := fun q h => by rw [← hAe]; exact Or.inr h
  have hS : va_S A s.heap s.heap [] := va_S.rf
  have hP : va_P (dC, dI) vwCl [(hT, .inr (1, [.null, .null, .null, .int (nI 0)]))] s.heap := hP
  have hl := lv_entry ([.ref hT]) (n := 1) (Nat.le_of_ble_eq_true rfl)
  rw [lg_entry_eq]
  generalize (lg_sl ([.ref hT]) ++ List.replicate (1 - (lg_sl ([.ref hT])).length) Slot.unset).toArray = ls at hl ⊢
  have hl : lv_has ls 1 [(0, .ref hT)] := hl
  skip
  refine lv_aload_n hx hb dX1_init_0 rfl (lv_at hl 0 rfl) ?_
  refine W.objInit hx hb hown (hts (.methodLink RX1 5 objectInit) (by decide +kernel)) (hts (.instanceMethod objectInit) (by decide +kernel)) (hts (.code objectInit ⟨#[0xb1]⟩ 1 none) (by decide +kernel)) rfl (by rw [hml]; exact hl.1) rfl dX1_init_1 (Nat.le_of_ble_eq_true rfl) (Nat.le_of_ble_eq_true rfl) ?_
  refine W.eq (g2 := F0 m 4 ls []) rfl ?_
  refine lv_aload_n hx hb dX1_init_4 rfl (lv_at hl 0 rfl) ?_
  refine lv_sipush (v := nI 1792) hx hb dX1_init_5 (by decide) ?_
  refine va_newa (atype := .long) (ty := .long) (N' := 1792) (a0 := (1792, .inr (.inl (fun _ => 0)))) hx hb (hts (.arrayClass .long) (by decide +kernel)) rfl hK hP hD hS hA (fun _ => rfl) (nI_pos (by omega)) (nI_clamp (by omega)) (by decide) (show 0 + 1 ≤ 3 from by decide) (show 0 + 1792 ≤ 1806 from by decide) dX1_init_8 (fun q8 cA H hK1 hP hD hS => ?_)
  obtain rfl : cJ = cA := (wl_same_long hK1 3 1 rfl rfl).symm
  have hP : va_P (dC, dI) vwCl [(hT, .inr (1, [.null, .null, .null, .int (nI 0)])), (q8, .inl (cJ, 1792, .inr (.inl (fun _ => 0))))] H := hP
  have hD : va_D A [(hT, .inr (1, [.null, .null, .null, .int (nI 0)])), (q8, .inl (cJ, 1792, .inr (.inl (fun _ => 0))))] := hD
  refine va_putF (D := (dC, dI)) (ci := 1) (v := .ref q8) (ty := .array .long) (C := RX1) (T := TX1) (N := 4) hx hb hts (by decide +kernel) tyX1 tyX1_ok nmX1 hown hK hP hD hS 0 rfl rfl 0 (by decide) (hts (.fieldLink RX1 11 "WildCards$Things" "takers" "[J") (by decide +kernel)) (fun _ h9 => h9) rfl hin rfl (by decide +kernel) rfl rfl (Nat.le_of_ble_eq_true rfl) dX1_init_10 (fun H locs hP hD hS => ?_)
  have hP : va_P (dC, dI) vwCl [(hT, .inr (1, [.ref q8, .null, .null, .int (nI 0)])), (q8, .inl (cJ, 1792, .inr (.inl (fun _ => 0))))] H := hP
  have hD : va_D A [(hT, .inr (1, [.ref q8, .null, .null, .int (nI 0)])), (q8, .inl (cJ, 1792, .inr (.inl (fun _ => 0))))] := hD
  refine lv_aload_n hx hb dX1_init_13 rfl (lv_at hl 0 rfl) ?_
  refine lv_bipush (v := nI 7) hx hb dX1_init_14 (by decide) ?_
  refine va_newa (atype := .long) (ty := .long) (N' := 7) (a0 := (7, .inr (.inl (fun _ => 0)))) hx hb (hts (.arrayClass .long) (by decide +kernel)) rfl hK hP hD hS hA (fun _ => rfl) (nI_pos (by omega)) (nI_clamp (by omega)) (by decide) (show 0 + 1 + 1 ≤ 3 from by decide) (show 0 + 1792 + 7 ≤ 1806 from by decide) dX1_init_16 (fun q16 cA H hK1 hP hD hS => ?_)
  obtain rfl : cJ = cA := (wl_same_long hK1 3 1 rfl rfl).symm
  have hP : va_P (dC, dI) vwCl [(hT, .inr (1, [.ref q8, .null, .null, .int (nI 0)])), (q8, .inl (cJ, 1792, .inr (.inl (fun _ => 0)))), (q16, .inl (cJ, 7, .inr (.inl (fun _ => 0))))] H := hP
  have hD : va_D A [(hT, .inr (1, [.ref q8, .null, .null, .int (nI 0)])), (q8, .inl (cJ, 1792, .inr (.inl (fun _ => 0)))), (q16, .inl (cJ, 7, .inr (.inl (fun _ => 0))))] := hD
  refine va_putF (D := (dC, dI)) (ci := 1) (v := .ref q16) (ty := .array .long) (C := RX1) (T := TX1) (N := 4) hx hb hts (by decide +kernel) tyX1 tyX1_ok nmX1 hown hK hP hD hS 0 rfl rfl 1 (by decide) (hts (.fieldLink RX1 15 "WildCards$Things" "loops" "[J") (by decide +kernel)) (fun _ h9 => h9) rfl hin rfl (by decide +kernel) rfl rfl (Nat.le_of_ble_eq_true rfl) dX1_init_18 (fun H locs hP hD hS => ?_)
  have hP : va_P (dC, dI) vwCl [(hT, .inr (1, [.ref q8, .ref q16, .null, .int (nI 0)])), (q8, .inl (cJ, 1792, .inr (.inl (fun _ => 0)))), (q16, .inl (cJ, 7, .inr (.inl (fun _ => 0))))] H := hP
  have hD : va_D A [(hT, .inr (1, [.ref q8, .ref q16, .null, .int (nI 0)])), (q8, .inl (cJ, 1792, .inr (.inl (fun _ => 0)))), (q16, .inl (cJ, 7, .inr (.inl (fun _ => 0))))] := hD
  refine lv_aload_n hx hb dX1_init_21 rfl (lv_at hl 0 rfl) ?_
  refine lv_bipush (v := nI 7) hx hb dX1_init_22 (by decide) ?_
  refine va_newa (atype := .long) (ty := .long) (N' := 7) (a0 := (7, .inr (.inl (fun _ => 0)))) hx hb (hts (.arrayClass .long) (by decide +kernel)) rfl hK hP hD hS hA (fun _ => rfl) (nI_pos (by omega)) (nI_clamp (by omega)) (by decide) (show 0 + 1 + 1 + 1 ≤ 3 from by decide) (show 0 + 1792 + 7 + 7 ≤ 1806 from by decide) dX1_init_24 (fun q24 cA H hK1 hP hD hS => ?_)
  obtain rfl : cJ = cA := (wl_same_long hK1 3 1 rfl rfl).symm
  have hP : va_P (dC, dI) vwCl [(hT, .inr (1, [.ref q8, .ref q16, .null, .int (nI 0)])), (q8, .inl (cJ, 1792, .inr (.inl (fun _ => 0)))), (q16, .inl (cJ, 7, .inr (.inl (fun _ => 0)))), (q24, .inl (cJ, 7, .inr (.inl (fun _ => 0))))] H := hP
  have hD : va_D A [(hT, .inr (1, [.ref q8, .ref q16, .null, .int (nI 0)])), (q8, .inl (cJ, 1792, .inr (.inl (fun _ => 0)))), (q16, .inl (cJ, 7, .inr (.inl (fun _ => 0)))), (q24, .inl (cJ, 7, .inr (.inl (fun _ => 0))))] := hD
  refine va_putF (D := (dC, dI)) (ci := 1) (v := .ref q24) (ty := .array .long) (C := RX1) (T := TX1) (N := 4) hx hb hts (by decide +kernel) tyX1 tyX1_ok nmX1 hown hK hP hD hS 0 rfl rfl 2 (by decide) (hts (.fieldLink RX1 18 "WildCards$Things" "reached" "[J") (by decide +kernel)) (fun _ h9 => h9) rfl hin rfl (by decide +kernel) rfl rfl (Nat.le_of_ble_eq_true rfl) dX1_init_26 (fun H locs hP hD hS => ?_)
  have hP : va_P (dC, dI) vwCl [(hT, .inr (1, [.ref q8, .ref q16, .ref q24, .int (nI 0)])), (q8, .inl (cJ, 1792, .inr (.inl (fun _ => 0)))), (q16, .inl (cJ, 7, .inr (.inl (fun _ => 0)))), (q24, .inl (cJ, 7, .inr (.inl (fun _ => 0))))] H := hP
  have hD : va_D A [(hT, .inr (1, [.ref q8, .ref q16, .ref q24, .int (nI 0)])), (q8, .inl (cJ, 1792, .inr (.inl (fun _ => 0)))), (q16, .inl (cJ, 7, .inr (.inl (fun _ => 0)))), (q24, .inl (cJ, 7, .inr (.inl (fun _ => 0))))] := hD
  have hP9 := hP.sub (ws' := [(hT, .inr (1, [.ref q8, .ref q16, .ref q24, .int (nI 0)])), (q8, .inl (cJ, 1792, .inr (.inl (fun _ => 0)))), (q16, .inl (cJ, 7, .inr (.inl (fun _ => 0)))), (q24, .inl (cJ, 7, .inr (.inl (fun _ => 0))))]) [0, 1, 2, 3] rfl
  have hD9 := hD.sub (ws' := [(hT, .inr (1, [.ref q8, .ref q16, .ref q24, .int (nI 0)])), (q8, .inl (cJ, 1792, .inr (.inl (fun _ => 0)))), (q16, .inl (cJ, 7, .inr (.inl (fun _ => 0)))), (q24, .inl (cJ, 7, .inr (.inl (fun _ => 0))))]) [0, 1, 2, 3] (by decide) rfl
  refine W.widen (k := 3) (n := 1806) (by omega) (by omega) ?_
  exact W.vret hx hb hr (fun t ht hW => ⟨⟨(q8, q16, q24), rfl, trivial, by rw [ht]; exact hP9, va_K.moved hW.alike hK, hD9⟩, hS.F ht⟩) hS.2.2 dX1_init_29
