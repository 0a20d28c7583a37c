set_option maxHeartbeats 4000000 in
set_option maxRecDepth 100000 in
theorem c_J7_fill_d0a16 (l : Launch) (dC : Nat → ClassId) (dI : Nat → Nat → Nat) (cI cJ cZ : ClassId) (qa : Nat) (sz : Nat) (n : Nat) (f : Nat → Int64) (v : Int64) (hn : n < 2 ^ 31) : Met l yJ7_fill_d0a16 wsJ7_fill_d0a16 ({ frames := 0, cells := 0, slots := 0, locals := 0 }) (va_Pc [.ref qa, .long v] (fun U => U.heap.size = sz ∧ va_P (dC, dI) vwCl [(qa, .inl (cJ, n, .inr (.inl f)))] U.heap ∧ va_K (dC, dI) vwCl [(cI, .int), (cJ, .long), (cZ, .boolean)] U ∧ va_D (fun _ => True) [(qa, .inl (cJ, n, .inr (.inl f)))])) (va_Qv (fun (u : (Nat → Int64)) => ∀ j, j < n → u j = v) (fun (u : (Nat → Int64)) (t : State) => va_P (dC, dI) vwCl [(qa, .inl (cJ, n, .inr (.inl u)))] t.heap ∧ va_K (dC, dI) vwCl [(cI, .int), (cJ, .long), (cZ, .boolean)] t ∧ va_D (va_A [(qa, .inl (cJ, n, .inr (.inl f)))] sz) [(qa, .inl (cJ, n, .inr (.inl u)))]) (va_A [(qa, .inl (cJ, n, .inr (.inl f)))] sz)) 0 0 (va_A [(qa, .inl (cJ, n, .inr (.inl f)))] sz) := by
  refine Met.ofW (cc := cJ7_fill_d0a16) (maxL := 5) (ret := none) (by decide) rfl ?_
  intro p e s m args below meth c s₁ B hml hv
  obtain ⟨rfl, hsz, hP, hK, hD0⟩ := hv
  have hx := B.exec
  have hb := B.bytes
  have hr := B.returns
  have hts := atoms_spec (ws := wsJ7_fill_d0a16) B.pre
  have hown : s.vm.findClass RJ7 = some m.cls := findClass_of_methodNamed B.named
  have hlocks := B.notSynchronized
  subst hsz
  have hD := hD0.self (sz := s.heap.size)
  generalize hAe : va_A [(qa, .inl (cJ, n, .inr (.inl f)))] s.heap.size = A at hD ⊢
  have hA : ∀ q : Nat, s.heap.size ≤ q → A q := fun q h => by rw [← hAe]; exact Or.inr h
  have hS : va_S A s.heap s.heap [] := va_S.rf
  have hP : va_P (dC, dI) vwCl [(qa, .inl (cJ, n, .inr (.inl f)))] s.heap := hP
  have hl := lv_entry ([.ref qa, .long v]) (n := 5) (Nat.le_of_ble_eq_true rfl)
  rw [lg_entry_eq]
  generalize (lg_sl ([.ref qa, .long v]) ++ List.replicate (5 - (lg_sl ([.ref qa, .long v])).length) Slot.unset).toArray = ls at hl ⊢
  have hl : lv_has ls 5 [(0, .ref qa), (1, .long v)] := hl
  skip
  refine lv_iconst (v := nI 0) hx hb dJ7_fill_d0a16_0 (by decide) ?_
  refine lv_istore_n (lv' := [(3, .int (nI 0)), (0, .ref qa), (1, .long v)]) hx hb dJ7_fill_d0a16_1 rfl hl (by decide) rfl (fun ls hl => ?_)
  refine lv_aload_n hx hb dJ7_fill_d0a16_2 rfl (lv_at hl 1 rfl) ?_
  refine va_alen (v := nI n) hx hb hK hP 0 1 rfl rfl rfl dJ7_fill_d0a16_3 ?_
  refine lv_istore (lv' := [(4, .int (nI n)), (3, .int (nI 0)), (0, .ref qa), (1, .long v)]) hx hb dJ7_fill_d0a16_4 hl (by decide) rfl (fun ls hl => ?_)
  refine wl_loop (σ := Nat × (Nat → Int64)) (fun z9 => n - z9.1) (fun z9 H locs ls => (z9.1 ≤ n) ∧ (∀ j, j < z9.1 → z9.2 j = v) ∧ va_P (dC, dI) vwCl [(qa, .inl (cJ, n, .inr (.inl z9.2)))] H ∧ va_D A [(qa, .inl (cJ, n, .inr (.inl z9.2)))] ∧ va_S A s.heap H locs ∧ lv_has ls 5 [(0, .ref qa), (1, .long v), (3, .int (nI z9.1)), (4, .int (nI n))]) ?_ (0, f) ⟨(show (0) ≤ n from Nat.zero_le _), (show ∀ j, j < (0) → f j = v from fun j hj => absurd hj (Nat.not_lt_zero _)), hP.sub [0] rfl, hD.sub [0] (by decide) rfl, hS, lv_sub hl [2, 3, 1, 0] rfl⟩
  intro z9 H locs ls hI ih6
  obtain ⟨i, g⟩ := z9
  obtain ⟨hi, hg, hP, hD, hS, hl⟩ := hI
  try dsimp only at hi hg hP hD hl
  have hP : va_P (dC, dI) vwCl [(qa, .inl (cJ, n, .inr (.inl g)))] H := hP
  have hD : va_D A [(qa, .inl (cJ, n, .inr (.inl g)))] := hD
  have hl : lv_has ls 5 [(0, .ref qa), (1, .long v), (3, .int (nI i)), (4, .int (nI n))] := hl
  refine lv_iload_n hx hb dJ7_fill_d0a16_6 rfl (lv_at hl 2 rfl) ?_
  refine lv_iload hx hb dJ7_fill_d0a16_7 (lv_at hl 3 rfl) ?_
  refine wl_icmp_ge (tgt := 22) hx hb dJ7_fill_d0a16_9 (by decide) (by omega) (by omega) (fun c9 => ?_) (fun c9 => ?_)
  · skip
    have hP9 := hP.sub (ws' := [(qa, .inl (cJ, n, .inr (.inl g)))]) [0] rfl
    have hD9 := hD.sub (ws' := [(qa, .inl (cJ, n, .inr (.inl g)))]) [0] (by decide) rfl
    exact W.vret hx hb hr (fun t ht hW => ⟨⟨g, rfl, (show ∀ j, j < n → g j = v from fun j hj => hg j (by omega)), by rw [ht]; exact hP9, va_K.moved hW.alike hK, hD9⟩, hS.F ht⟩) hS.2.2 dJ7_fill_d0a16_22
  · skip
    refine lv_aload_n hx hb dJ7_fill_d0a16_12 rfl (lv_at hl 0 rfl) ?_
    refine lv_iload_n hx hb dJ7_fill_d0a16_13 rfl (lv_at hl 2 rfl) ?_
    refine lv_lload_n hx hb dJ7_fill_d0a16_14 rfl (lv_at hl 1 rfl) ?_
    refine va_last hx hb hK hP hD hS 0 1 rfl rfl (vp_in_nI (by omega) (by omega)) dJ7_fill_d0a16_15 (fun H locs hP hD hS => ?_)
    rw [nI_clamp (by omega)] at hP hD
    have hP : va_P (dC, dI) vwCl [(qa, .inl (cJ, n, .inr (.inl (vp_updL g i v))))] H := hP
    have hD : va_D A [(qa, .inl (cJ, n, .inr (.inl (vp_updL g i v))))] := hD
    refine lv_iinc (v := nI (i + 1)) (lv' := [(3, .int (nI (i + 1))), (0, .ref qa), (1, .long v), (4, .int (nI n))]) hx hb dJ7_fill_d0a16_16 hl (k := 2) rfl (wl_inc _ _ (by decide)) (by decide) rfl (fun ls hl => ?_)
    refine lv_goto (tgt := 6) hx hb dJ7_fill_d0a16_19 (by decide) ?_
    exact ih6 (i + 1, vp_updL g i v) H locs ls ⟨(show (i + 1) ≤ n from by omega), (show ∀ j, j < (i + 1) → (vp_updL g i v) j = v from fl_s hg), hP.sub [0] rfl, hD.sub [0] (by decide) rfl, hS, lv_sub hl [1, 2, 0, 3] rfl⟩ (by (try dsimp only); omega)
