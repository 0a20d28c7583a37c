set_option maxHeartbeats 4000000 in
set_option maxRecDepth 100000 in
theorem c_X1_bitOf (l : Launch) (dC : Nat → ClassId) (dI : Nat → Nat → Nat) (cI cJ cZ : ClassId) (sz : Nat) (q : Nat) (hq : q < 2 ^ 31) : Met l yX1_bitOf wsX1_bitOf ({ frames := 0, cells := 0, slots := 0, locals := 0 }) (va_Pc [.int (nI q)] (fun U => U.heap.size = sz ∧ va_P (dC, dI) vwCl [] U.heap ∧ va_K (dC, dI) vwCl [(cI, .int), (cJ, .long), (cZ, .boolean)] U ∧ va_D (fun _ => True) [])) (va_Ql (fun (r : Int64) (u : Unit) => r = bitL q) (fun (u : Unit) (t : State) => va_P (dC, dI) vwCl [] t.heap ∧ va_K (dC, dI) vwCl [(cI, .int), (cJ, .long), (cZ, .boolean)] t ∧ va_D (va_A [] sz) []) (va_A [] sz)) 0 0 (va_A [] sz) := by
  refine Met.ofW (cc := cX1_bitOf) (maxL := 1) (ret := (some .long)) (by decide) rfl ?_
  intro p e s m args below meth c s₁ B hml hv
  obtain ⟨rfl, hsz, hP, hK, hD0⟩ := hv
  have hx := B.exec
  have hb := B.bytes
  have hr := B.returns
  have hts := atoms_spec (ws := wsX1_bitOf) B.pre
  have hown : s.vm.findClass RX1 = some m.cls := findClass_of_methodNamed B.named
  have hlocks := B.notSynchronized
  subst hsz
  have hD := hD0.self (sz := s.heap.size)
  generalize hAe : va_A [] s.heap.size = A at hD ⊢
  have hA : ∀ q : Nat, s.heap.size ≤ q → A q := fun q h => by rw [← hAe]; exact Or.inr h
  have hS : va_S A s.heap s.heap [] := va_S.rf
  have hP : va_P (dC, dI) vwCl [] s.heap := hP
  have hl := lv_entry ([.int (nI q)]) (n := 1) (Nat.le_of_ble_eq_true rfl)
  rw [lg_entry_eq]
  generalize (lg_sl ([.int (nI q)]) ++ List.replicate (1 - (lg_sl ([.int (nI q)])).length) Slot.unset).toArray = ls at hl ⊢
  have hl : lv_has ls 1 [(0, .int (nI q))] := hl
  skip
  refine lv_lconst (v := 1) hx hb dX1_bitOf_0 (by decide) ?_
  refine lv_iload_n hx hb dX1_bitOf_1 rfl (lv_at hl 0 rfl) ?_
  refine lv_bipush (v := nI 64) hx hb dX1_bitOf_2 (by decide) ?_
  refine lv_irem hx hb dX1_bitOf_4 (by decide) ?_
  refine wl_asi (y := nI (q % 64)) (pk_rem (by omega) (by omega) (by omega)) ?_
  refine lv_lshl (v := 1 <<< ((nI (q % 64)).toInt64 &&& 63)) hx hb dX1_bitOf_5 rfl ?_
  have hP9 := hP.sub (ws' := []) [] rfl
  have hD9 := hD.sub (ws' := []) [] (by decide) rfl
  exact W.lret (v := 1 <<< ((nI (q % 64)).toInt64 &&& 63)) hx hb hr  (fun t ht hW => ⟨⟨1 <<< ((nI (q % 64)).toInt64 &&& 63), (), rfl, (show (1 <<< ((nI (q % 64)).toInt64 &&& 63)) = bitL q from rfl), by rw [ht]; exact hP9, va_K.moved hW.alike hK, hD9⟩, hS.F ht⟩) hS.2.2 dX1_bitOf_6
