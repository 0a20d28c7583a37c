set_option maxHeartbeats 4000000 in
set_option maxRecDepth 100000 in
theorem c_X2_init (l : Launch) (dC : Nat → ClassId) (dI : Nat → Nat → Nat) (cI cJ cZ : ClassId) (h0 : Nat) (sz : Nat) : Met l yX2_init wsX2_init ({ frames := 2, cells := 6, slots := 2610, locals := 32 }) (va_Pc [.ref h0] (fun U => U.heap.size = sz ∧ va_P (dC, dI) vwCl [(h0, .inr (2, [.null, .int (nI 0), .null, .int (nI 0), .null]))] U.heap ∧ va_K (dC, dI) vwCl [(cI, .int), (cJ, .long), (cZ, .boolean)] U ∧ va_D (fun _ => True) [(h0, .inr (2, [.null, .int (nI 0), .null, .int (nI 0), .null]))])) (va_Qv (fun (u : Nat × Nat × Nat × Nat × Nat × Nat) => True) (fun (u : Nat × Nat × Nat × Nat × Nat × Nat) (t : State) => va_P (dC, dI) vwCl [(h0, .inr (2, [.ref u.1, .int (nI 0), .ref u.2.1, .int (nI 0), .ref u.2.2.1])), (u.1, .inl (cI, 400, .inl (fun j => nI ((fun _ => 0) j)))), (u.2.1, .inl (cI, 400, .inl (fun j => nI ((fun _ => 0) j)))), (u.2.2.1, .inr (1, [.ref u.2.2.2.1, .ref u.2.2.2.2.1, .ref u.2.2.2.2.2, .int (nI 0)])), (u.2.2.2.1, .inl (cJ, 1792, .inr (.inl (fun _ => 0)))), (u.2.2.2.2.1, .inl (cJ, 7, .inr (.inl (fun _ => 0)))), (u.2.2.2.2.2, .inl (cJ, 7, .inr (.inl (fun _ => 0))))] t.heap ∧ va_K (dC, dI) vwCl [(cI, .int), (cJ, .long), (cZ, .boolean)] t ∧ va_D (va_A [(h0, .inr (2, [.null, .int (nI 0), .null, .int (nI 0), .null]))] sz) [(h0, .inr (2, [.ref u.1, .int (nI 0), .ref u.2.1, .int (nI 0), .ref u.2.2.1])), (u.1, .inl (cI, 400, .inl (fun j => nI ((fun _ => 0) j)))), (u.2.1, .inl (cI, 400, .inl (fun j => nI ((fun _ => 0) j)))), (u.2.2.1, .inr (1, [.ref u.2.2.2.1, .ref u.2.2.2.2.1, .ref u.2.2.2.2.2, .int (nI 0)])), (u.2.2.2.1, .inl (cJ, 1792, .inr (.inl (fun _ => 0)))), (u.2.2.2.2.1, .inl (cJ, 7, .inr (.inl (fun _ => 0)))), (u.2.2.2.2.2, .inl (cJ, 7, .inr (.inl (fun _ => 0))))]) (va_A [(h0, .inr (2, [.null, .int (nI 0), .null, .int (nI 0), .null]))] sz)) 6 2610 (va_A [(h0, .inr (2, [.null, .int (nI 0), .null, .int (nI 0), .null]))] sz) := by
  refine Met.ofW (cc := cX2_init) (maxL := 1) (ret := none) (by decide) rfl ?_
  intro p e s m args below meth c s₁ B hml hv
  obtain ⟨rfl, hsz, hP, hK, hD0⟩ := hv
  have hx := B.exec
  have hb := B.bytes
  have hr := B.returns
  have hts := atoms_spec (ws := wsX2_init) B.pre
  have hown : s.vm.findClass RX2 = some m.cls := findClass_of_methodNamed B.named
  have hlocks := B.notSynchronized
  have hin : meth.name = "<init>" := (name_of_methodNamed B.named B.method).1
  subst hsz
  have hD := hD0.self (sz := s.heap.size)
  generalize hAe : va_A [(h0, .inr (2, [.null, .int (nI 0), .null, .int (nI 0), .null]))] s.heap.size = A at hD ⊢
  have hA : ∀ q : Nat, s.heap.size ≤ q → A q := fun q h => by rw [← hAe]; exact Or.inr h
  have hS : va_S A s.heap s.heap [] := va_S.rf
  have hP : va_P (dC, dI) vwCl [(h0, .inr (2, [.null, .int (nI 0), .null, .int (nI 0), .null]))] s.heap := hP
  have hl := lv_entry ([.ref h0]) (n := 1) (Nat.le_of_ble_eq_true rfl)
  rw [lg_entry_eq]
  generalize (lg_sl ([.ref h0]) ++ List.replicate (1 - (lg_sl ([.ref h0])).length) Slot.unset).toArray = ls at hl ⊢
  have hl : lv_has ls 1 [(0, .ref h0)] := hl
  skip
  refine lv_aload_n hx hb dX2_init_0 rfl (lv_at hl 0 rfl) ?_
  refine W.objInit hx hb hown (hts (.methodLink RX2 1 objectInit) (by decide +kernel)) (hts (.instanceMethod objectInit) (by decide +kernel)) (hts (.code objectInit ⟨#[0xb1]⟩ 1 none) (by decide +kernel)) rfl (by rw [hml]; exact hl.1) rfl dX2_init_1 (Nat.le_of_ble_eq_true rfl) (Nat.le_of_ble_eq_true rfl) ?_
  refine W.eq (g2 := F0 m 4 ls []) rfl ?_
  refine lv_aload_n hx hb dX2_init_4 rfl (lv_at hl 0 rfl) ?_
  refine lv_sipush (v := nI 400) hx hb dX2_init_5 (by decide) ?_
  refine va_newa (atype := .int) (ty := .int) (N' := 400) (a0 := (400, .inl (fun j => nI ((fun _ => 0) j)))) hx hb (hts (.arrayClass .int) (by decide +kernel)) rfl hK hP hD hS hA (fun _ => rfl) (nI_pos (by omega)) (nI_clamp (by omega)) (by decide) (show 0 + 1 ≤ 6 from by decide) (show 0 + 400 ≤ 2610 from by decide) dX2_init_8 (fun q8 cA H hK1 hP hD hS => ?_)
  obtain rfl : cI = cA := (wl_same_int hK1 3 0 rfl rfl).symm
  have hP : va_P (dC, dI) vwCl [(h0, .inr (2, [.null, .int (nI 0), .null, .int (nI 0), .null])), (q8, .inl (cI, 400, .inl (fun j => nI ((fun _ => 0) j))))] H := hP
  have hD : va_D A [(h0, .inr (2, [.null, .int (nI 0), .null, .int (nI 0), .null])), (q8, .inl (cI, 400, .inl (fun j => nI ((fun _ => 0) j))))] := hD
  refine va_putF (D := (dC, dI)) (ci := 2) (v := .ref q8) (ty := .array .int) (C := RX2) (T := TX2) (N := 5) hx hb hts (by decide +kernel) tyX2 tyX2_ok nmX2 hown hK hP hD hS 0 rfl rfl 0 (by decide) (hts (.fieldLink RX2 9 "WildCards" "tape" "[I") (by decide +kernel)) (fun _ h9 => h9) rfl hin rfl (by decide +kernel) rfl rfl (Nat.le_of_ble_eq_true rfl) dX2_init_10 (fun H locs hP hD hS => ?_)
  have hP : va_P (dC, dI) vwCl [(h0, .inr (2, [.ref q8, .int (nI 0), .null, .int (nI 0), .null])), (q8, .inl (cI, 400, .inl (fun j => nI ((fun _ => 0) j))))] H := hP
  have hD : va_D A [(h0, .inr (2, [.ref q8, .int (nI 0), .null, .int (nI 0), .null])), (q8, .inl (cI, 400, .inl (fun j => nI ((fun _ => 0) j))))] := hD
  refine lv_aload_n hx hb dX2_init_13 rfl (lv_at hl 0 rfl) ?_
  refine lv_sipush (v := nI 400) hx hb dX2_init_14 (by decide) ?_
  refine va_newa (atype := .int) (ty := .int) (N' := 400) (a0 := (400, .inl (fun j => nI ((fun _ => 0) j)))) hx hb (hts (.arrayClass .int) (by decide +kernel)) rfl hK hP hD hS hA (fun _ => rfl) (nI_pos (by omega)) (nI_clamp (by omega)) (by decide) (show 0 + 1 + 1 ≤ 6 from by decide) (show 0 + 400 + 400 ≤ 2610 from by decide) dX2_init_17 (fun q17 cA H hK1 hP hD hS => ?_)
  obtain rfl : cI = cA := (wl_same_int hK1 3 0 rfl rfl).symm
  have hP : va_P (dC, dI) vwCl [(h0, .inr (2, [.ref q8, .int (nI 0), .null, .int (nI 0), .null])), (q8, .inl (cI, 400, .inl (fun j => nI ((fun _ => 0) j)))), (q17, .inl (cI, 400, .inl (fun j => nI ((fun _ => 0) j))))] H := hP
  have hD : va_D A [(h0, .inr (2, [.ref q8, .int (nI 0), .null, .int (nI 0), .null])), (q8, .inl (cI, 400, .inl (fun j => nI ((fun _ => 0) j)))), (q17, .inl (cI, 400, .inl (fun j => nI ((fun _ => 0) j))))] := hD
  refine va_putF (D := (dC, dI)) (ci := 2) (v := .ref q17) (ty := .array .int) (C := RX2) (T := TX2) (N := 5) hx hb hts (by decide +kernel) tyX2 tyX2_ok nmX2 hown hK hP hD hS 0 rfl rfl 2 (by decide) (hts (.fieldLink RX2 13 "WildCards" "letters" "[I") (by decide +kernel)) (fun _ h9 => h9) rfl hin rfl (by decide +kernel) rfl rfl (Nat.le_of_ble_eq_true rfl) dX2_init_19 (fun H locs hP hD hS => ?_)
  have hP : va_P (dC, dI) vwCl [(h0, .inr (2, [.ref q8, .int (nI 0), .ref q17, .int (nI 0), .null])), (q8, .inl (cI, 400, .inl (fun j => nI ((fun _ => 0) j)))), (q17, .inl (cI, 400, .inl (fun j => nI ((fun _ => 0) j))))] H := hP
  have hD : va_D A [(h0, .inr (2, [.ref q8, .int (nI 0), .ref q17, .int (nI 0), .null])), (q8, .inl (cI, 400, .inl (fun j => nI ((fun _ => 0) j)))), (q17, .inl (cI, 400, .inl (fun j => nI ((fun _ => 0) j))))] := hD
  refine lv_aload_n hx hb dX2_init_22 rfl (lv_at hl 0 rfl) ?_
  refine va_new (ci := 1) (fs := [.null, .null, .null, .int (nI 0)]) (C := RX1) (T := TX1) (N := 4) hx hb hts (by decide +kernel) tyX1 tyX1_ok hown (hts (.classLink RX2 16 RX1) (by decide +kernel)) (hts (.instantiable RX1 4) (by decide +kernel)) (hts (.initialized RX1) (by decide +kernel)) hK hP hD hS hA rfl (fun j hj => by rcases (show j = 0 ∨ j = 1 ∨ j = 2 ∨ j = 3 by omega) with rfl | rfl | rfl | rfl <;> rfl) (show 0 + 1 + 1 + 1 ≤ 6 from by decide) (show 0 + 400 + 400 + 4 ≤ 2610 from by decide) dX2_init_23 (fun q23 H hP hD hS => ?_)
  have hP : va_P (dC, dI) vwCl [(h0, .inr (2, [.ref q8, .int (nI 0), .ref q17, .int (nI 0), .null])), (q8, .inl (cI, 400, .inl (fun j => nI ((fun _ => 0) j)))), (q17, .inl (cI, 400, .inl (fun j => nI ((fun _ => 0) j)))), (q23, .inr (1, [.null, .null, .null, .int (nI 0)]))] H := hP
  have hD : va_D A [(h0, .inr (2, [.ref q8, .int (nI 0), .ref q17, .int (nI 0), .null])), (q8, .inl (cI, 400, .inl (fun j => nI ((fun _ => 0) j)))), (q17, .inl (cI, 400, .inl (fun j => nI ((fun _ => 0) j)))), (q23, .inr (1, [.null, .null, .null, .int (nI 0)]))] := hD
  refine lv_dup hx hb dX2_init_26 rfl ?_
  have hPc := hP.sub (ws' := [(q23, .inr (1, [.null, .null, .null, .int (nI 0)]))]) [3] rfl
  have hDc := hD.sub (ws' := [(q23, .inr (1, [.null, .null, .null, .int (nI 0)]))]) [3] (by decide) rfl
  have hFc := va_free (wc := [(q23, .inr (1, [.null, .null, .null, .int (nI 0)]))]) hD hS hA [3] rfl
  refine va_callv (va_runI (As := []) (rest := [.ref q23, .ref h0]) ⟨hx, hb, hml, hown, hts⟩ (c_X1_init l dC dI cI cJ cZ q23 H.size  ) (cwI 0 hts gX2_init_X1_init rfl rfl rfl (hts (.initialized RX1) (by decide +kernel)) (hts (.methodLink RX2 18 yX1_init) (by decide +kernel)) (hts (.instanceMethod yX1_init) (by decide +kernel)) rfl (by decide +kernel) ⟨Nat.le_of_ble_eq_true rfl, Nat.le_of_ble_eq_true rfl⟩) ⟨fun a U g mk q => by obtain ⟨q0, q1, qP, qK, qD⟩ := q; exact ⟨q0, q1, qP, va_K.moved (u := U) (U := U.calling g mk a) (Vm.Alike.refl U.vm) qK, qD⟩, fun U hU hW => ⟨rfl, by rw [hU], by rw [hU]; exact hPc, va_K.moved hW.alike hK, hDc.weaken (fun _ _ _ _ => trivial)⟩⟩ rfl rfl hl.1 rfl (lv_room (Nat.le_of_ble_eq_true rfl)) dX2_init_27 ⟨show 0 + 1 + 1 + 1 + 3 ≤ 6 from by decide, show 0 + 400 + 400 + 4 + 1806 ≤ 2610 from by decide⟩) hS (fun q _ h => hFc q h) hFc (fun u t H1 locs ht hvm hw27 hB hz1 hk1 hS => ?_)
  obtain ⟨qT27, qL27, qR27⟩ := u
  obtain ⟨hP1, hK1, hD1⟩ := hB
  rw [ht] at hP1
  try dsimp only at hw27 hP1 hD1
  obtain ⟨hP, hD⟩ := va_join (wr := [(h0, .inr (2, [.ref q8, .int (nI 0), .ref q17, .int (nI 0), .null])), (q8, .inl (cI, 400, .inl (fun j => nI ((fun _ => 0) j)))), (q17, .inl (cI, 400, .inl (fun j => nI ((fun _ => 0) j))))]) (w1 := [(q23, .inr (1, [.ref qT27, .ref qL27, .ref qR27, .int (nI 0)])), (qT27, .inl (cJ, 1792, .inr (.inl (fun _ => 0)))), (qL27, .inl (cJ, 7, .inr (.inl (fun _ => 0)))), (qR27, .inl (cJ, 7, .inr (.inl (fun _ => 0))))]) hP hD [3] [0, 1, 2] rfl rfl (by decide) (by decide) hk1 hFc hP1 hD1
  generalize H1 = H at hP hS ⊢
  have hP : va_P (dC, dI) vwCl [(h0, .inr (2, [.ref q8, .int (nI 0), .ref q17, .int (nI 0), .null])), (q8, .inl (cI, 400, .inl (fun j => nI ((fun _ => 0) j)))), (q17, .inl (cI, 400, .inl (fun j => nI ((fun _ => 0) j)))), (q23, .inr (1, [.ref qT27, .ref qL27, .ref qR27, .int (nI 0)])), (qT27, .inl (cJ, 1792, .inr (.inl (fun _ => 0)))), (qL27, .inl (cJ, 7, .inr (.inl (fun _ => 0)))), (qR27, .inl (cJ, 7, .inr (.inl (fun _ => 0))))] H := hP
  have hD : va_D A [(h0, .inr (2, [.ref q8, .int (nI 0), .ref q17, .int (nI 0), .null])), (q8, .inl (cI, 400, .inl (fun j => nI ((fun _ => 0) j)))), (q17, .inl (cI, 400, .inl (fun j => nI ((fun _ => 0) j)))), (q23, .inr (1, [.ref qT27, .ref qL27, .ref qR27, .int (nI 0)])), (qT27, .inl (cJ, 1792, .inr (.inl (fun _ => 0)))), (qL27, .inl (cJ, 7, .inr (.inl (fun _ => 0)))), (qR27, .inl (cJ, 7, .inr (.inl (fun _ => 0))))] := hD
  refine va_putF (D := (dC, dI)) (ci := 2) (v := .ref q23) (ty := .object "WildCards$Things") (C := RX2) (T := TX2) (N := 5) hx hb hts (by decide +kernel) tyX2 tyX2_ok nmX2 hown hK hP hD hS 0 rfl rfl 4 (by decide) (hts (.fieldLink RX2 19 "WildCards" "things" "LWildCards$Things;") (by decide +kernel)) (fun _ h9 => h9) rfl hin rfl (by decide +kernel) rfl rfl (Nat.le_of_ble_eq_true rfl) dX2_init_30 (fun H locs hP hD hS => ?_)
  have hP : va_P (dC, dI) vwCl [(h0, .inr (2, [.ref q8, .int (nI 0), .ref q17, .int (nI 0), .ref q23])), (q8, .inl (cI, 400, .inl (fun j => nI ((fun _ => 0) j)))), (q17, .inl (cI, 400, .inl (fun j => nI ((fun _ => 0) j)))), (q23, .inr (1, [.ref qT27, .ref qL27, .ref qR27, .int (nI 0)])), (qT27, .inl (cJ, 1792, .inr (.inl (fun _ => 0)))), (qL27, .inl (cJ, 7, .inr (.inl (fun _ => 0)))), (qR27, .inl (cJ, 7, .inr (.inl (fun _ => 0))))] H := hP
  have hD : va_D A [(h0, .inr (2, [.ref q8, .int (nI 0), .ref q17, .int (nI 0), .ref q23])), (q8, .inl (cI, 400, .inl (fun j => nI ((fun _ => 0) j)))), (q17, .inl (cI, 400, .inl (fun j => nI ((fun _ => 0) j)))), (q23, .inr (1, [.ref qT27, .ref qL27, .ref qR27, .int (nI 0)])), (qT27, .inl (cJ, 1792, .inr (.inl (fun _ => 0)))), (qL27, .inl (cJ, 7, .inr (.inl (fun _ => 0)))), (qR27, .inl (cJ, 7, .inr (.inl (fun _ => 0))))] := hD
  have hP9 := hP.sub (ws' := [(h0, .inr (2, [.ref q8, .int (nI 0), .ref q17, .int (nI 0), .ref q23])), (q8, .inl (cI, 400, .inl (fun j => nI ((fun _ => 0) j)))), (q17, .inl (cI, 400, .inl (fun j => nI ((fun _ => 0) j)))), (q23, .inr (1, [.ref qT27, .ref qL27, .ref qR27, .int (nI 0)])), (qT27, .inl (cJ, 1792, .inr (.inl (fun _ => 0)))), (qL27, .inl (cJ, 7, .inr (.inl (fun _ => 0)))), (qR27, .inl (cJ, 7, .inr (.inl (fun _ => 0))))]) [0, 1, 2, 3, 4, 5, 6] rfl
  have hD9 := hD.sub (ws' := [(h0, .inr (2, [.ref q8, .int (nI 0), .ref q17, .int (nI 0), .ref q23])), (q8, .inl (cI, 400, .inl (fun j => nI ((fun _ => 0) j)))), (q17, .inl (cI, 400, .inl (fun j => nI ((fun _ => 0) j)))), (q23, .inr (1, [.ref qT27, .ref qL27, .ref qR27, .int (nI 0)])), (qT27, .inl (cJ, 1792, .inr (.inl (fun _ => 0)))), (qL27, .inl (cJ, 7, .inr (.inl (fun _ => 0)))), (qR27, .inl (cJ, 7, .inr (.inl (fun _ => 0))))]) [0, 1, 2, 3, 4, 5, 6] (by decide) rfl
  refine W.widen (k := 6) (n := 2610) (by omega) (by omega) ?_
  exact W.vret hx hb hr (fun t ht hW => ⟨⟨(q8, q17, q23, qT27, qL27, qR27), rfl, trivial, by rw [ht]; exact hP9, va_K.moved hW.alike hK, hD9⟩, hS.F ht⟩) hS.2.2 dX2_init_33
