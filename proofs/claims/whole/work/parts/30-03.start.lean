set_option maxHeartbeats 8000000 in
set_option maxRecDepth 100000 in
/-- THE LAW, from its entry -/
theorem whole_start {p : Program} {e : Env} {s : State} {m : MethodId} {below : List Frame} {meth : Method} {c : Code} (l : Launch) {b L : Nat} {xs : Nat → Int32} (hL : L ≤ 3072) (C0 : lw_At p s m meth c b L xs) : W p l e room_1 s m #[Value.ref b] below meth c s.heap [] 0 0 (lw_Z below #[Value.ref b] s) (entryFrame m ([Value.ref b] : List Value).toArray 4) := by
  obtain ⟨hx, hb, hr, hml, hown0, hts, hX, hbl, hlocks, hgv⟩ := id C0
  have hown : s.vm.findClass RL = some m.cls := hown0
  have hA : ∀ q : Nat, s.heap.size ≤ q → (fun q : Nat => s.heap.size ≤ q) q := fun _ h => h
  have hbA : ¬ (fun q : Nat => s.heap.size ≤ q) b := Nat.not_le.mpr hbl
  obtain ⟨c0, iS0, hKn0⟩ := u_known (C := RX0) (T := TX0) (N := 4) (n := 4) hts inX0 (hts (.instantiable RX0 4) (by decide +kernel))
  obtain ⟨c1, iS1, hKn1⟩ := u_known (C := RX1) (T := TX1) (N := 4) (n := 4) hts inX1 (hts (.instantiable RX1 4) (by decide +kernel))
  obtain ⟨c2, iS2, hKn2⟩ := u_known (C := RX2) (T := TX2) (N := 5) (n := 5) hts inX2 (hts (.instantiable RX2 5) (by decide +kernel))
  obtain ⟨c3, iS3, hKn3⟩ := u_known (C := RX3) (T := TX3) (N := 9) (n := 9) hts inX3 (hts (.instantiable RX3 9) (by decide +kernel))
  obtain ⟨dC, dI, hKc⟩ : ∃ (dC : Nat → ClassId) (dI : Nat → Nat → Nat), ∀ (k : Nat) (q : vw_C), vwCl[k]? = some q → u_Kn s q.1 q.2.1 q.2.2 (dC k) (dI k) := by
    refine ⟨fun k => if k = 0 then c0 else if k = 1 then c1 else if k = 2 then c2 else c3, fun k => if k = 0 then iS0 else if k = 1 then iS1 else if k = 2 then iS2 else iS3, ?_⟩
    intro k q hq
    match k, hq with
    | 0, hq => cases hq; exact hKn0
    | 1, hq => cases hq; exact hKn1
    | 2, hq => cases hq; exact hKn2
    | 3, hq => cases hq; exact hKn3
    | k + 4, hq => simp [vwCl] at hq
  obtain ⟨cI, aI⟩ := wl_arr (hts (.arrayClass .int) (by decide +kernel))
  obtain ⟨cJ, aJ⟩ := wl_arr (hts (.arrayClass .long) (by decide +kernel))
  obtain ⟨cZ, aZ⟩ := wl_arr (hts (.arrayClass .boolean) (by decide +kernel))
  have hK : va_K (dC, dI) vwCl [(cI, .int), (cJ, .long), (cZ, .boolean)] s := ⟨hKc, fun k q h => by
    match k, h with
    | 0, h => cases h; exact aI
    | 1, h => cases h; exact aJ
    | 2, h => cases h; exact aZ
    | k + 3, h => simp at h⟩
  have hS : va_S (fun q : Nat => s.heap.size ≤ q) s.heap s.heap [] := va_S.rf
  have hP : va_P (dC, dI) vwCl [] s.heap := fun k q h => by simp at h
  have hD : va_D (fun q : Nat => s.heap.size ≤ q) [] := ⟨fun i j p q h => by simp at h, fun k q h => by simp at h⟩
  have hl := lv_entry ([.ref b]) (n := 4) (Nat.le_of_ble_eq_true rfl)
  rw [lg_entry_eq]
  generalize (lg_sl ([.ref b]) ++ List.replicate (4 - (lg_sl ([.ref b])).length) Slot.unset).toArray = ls at hl ⊢
  have hl : lv_has ls 4 [(0, .ref b)] := hl
  refine va_new (ci := 2) (fs := [.null, .int (nI 0), .null, .int (nI 0), .null]) (C := RX2) (T := TX2) (N := 5) hx hb hts (inX2) tyX2 tyX2_ok hown (hts (.classLink RL 7 RX2) (by decide +kernel)) (hts (.instantiable RX2 5) (by decide +kernel)) (hts (.initialized RX2) (by decide +kernel)) hK hP hD hS hA rfl (fun j hj => by rcases (show j = 0 ∨ j = 1 ∨ j = 2 ∨ j = 3 ∨ j = 4 by omega) with rfl | rfl | rfl | rfl | rfl <;> rfl) (show 0 + 1 ≤ 600000 from by omega) (show 0 + 5 ≤ 7302250 from by omega) dL_law_0 (fun q0 H hP hD hS => ?_)
  have hP : va_P (dC, dI) vwCl [(q0, .inr (2, [.null, .int (nI 0), .null, .int (nI 0), .null]))] H := hP
  have hD : va_D (fun q : Nat => s.heap.size ≤ q) [(q0, .inr (2, [.null, .int (nI 0), .null, .int (nI 0), .null]))] := hD
  refine lv_dup hx hb dL_law_3 rfl ?_
  have hPc := hP.sub (ws' := [(q0, .inr (2, [.null, .int (nI 0), .null, .int (nI 0), .null]))]) [0] rfl
  have hDc := hD.sub (ws' := [(q0, .inr (2, [.null, .int (nI 0), .null, .int (nI 0), .null]))]) [0] (by decide) rfl
  have hFc := va_free (wc := [(q0, .inr (2, [.null, .int (nI 0), .null, .int (nI 0), .null]))]) hD hS hA [0] rfl
  refine va_callv (va_runI (As := []) (rest := [.ref q0]) ⟨hx, hb, hml, hown, hts⟩ (c_X2_init l dC dI cI cJ cZ q0 H.size  ) (cwI 0 hts gL_law_X2_init rfl rfl rfl (hts (.initialized RX2) (by decide +kernel)) (hts (.methodLink RL 9 yX2_init) (by decide +kernel)) (hts (.instanceMethod yX2_init) (by decide +kernel)) rfl (by decide +kernel) ⟨Nat.le_of_ble_eq_true rfl, Nat.le_of_ble_eq_true rfl⟩) ⟨fun a U g mk q => by obtain ⟨q0, q1, qP, qK, qD⟩ := q; exact ⟨q0, q1, qP, va_K.moved (u := U) (U := U.calling g mk a) (Vm.Alike.refl U.vm) qK, qD⟩, fun U hU hW => ⟨rfl, by rw [hU], by rw [hU]; exact hPc, va_K.moved hW.alike hK, hDc.weaken (fun _ _ _ _ => trivial)⟩⟩ rfl rfl hl.1 rfl (lv_room (Nat.le_of_ble_eq_true rfl)) dL_law_4 ⟨show 0 + 1 + 6 ≤ 600000 from by omega, show 0 + 5 + 2610 ≤ 7302250 from by omega⟩) hS (fun q _ h => hFc q h) hFc (fun u t H1 locs ht hvm hw4 hB hz1 hk1 hS => ?_)
  obtain ⟨qP4, qW4, hT4, qT4, qL4, qR4⟩ := u
  obtain ⟨hP1, hK1, hD1⟩ := hB
  rw [ht] at hP1
  try dsimp only at hw4 hP1 hD1
  obtain ⟨hP, hD⟩ := va_join (wr := []) (w1 := [(q0, .inr (2, [.ref qP4, .int (nI 0), .ref qW4, .int (nI 0), .ref hT4])), (qP4, .inl (cI, 400, .inl (fun j => nI ((fun _ => 0) j)))), (qW4, .inl (cI, 400, .inl (fun j => nI ((fun _ => 0) j)))), (hT4, .inr (1, [.ref qT4, .ref qL4, .ref qR4, .int (nI 0)])), (qT4, .inl (cJ, 1792, .inr (.inl (fun _ => 0)))), (qL4, .inl (cJ, 7, .inr (.inl (fun _ => 0)))), (qR4, .inl (cJ, 7, .inr (.inl (fun _ => 0))))]) hP hD [0] [] rfl rfl (by decide) (by decide) hk1 hFc hP1 hD1
  generalize H1 = H at hP hS ⊢
  have hP : va_P (dC, dI) vwCl [(q0, .inr (2, [.ref qP4, .int (nI 0), .ref qW4, .int (nI 0), .ref hT4])), (qP4, .inl (cI, 400, .inl (fun j => nI ((fun _ => 0) j)))), (qW4, .inl (cI, 400, .inl (fun j => nI ((fun _ => 0) j)))), (hT4, .inr (1, [.ref qT4, .ref qL4, .ref qR4, .int (nI 0)])), (qT4, .inl (cJ, 1792, .inr (.inl (fun _ => 0)))), (qL4, .inl (cJ, 7, .inr (.inl (fun _ => 0)))), (qR4, .inl (cJ, 7, .inr (.inl (fun _ => 0))))] H := hP
  have hD : va_D (fun q : Nat => s.heap.size ≤ q) [(q0, .inr (2, [.ref qP4, .int (nI 0), .ref qW4, .int (nI 0), .ref hT4])), (qP4, .inl (cI, 400, .inl (fun j => nI ((fun _ => 0) j)))), (qW4, .inl (cI, 400, .inl (fun j => nI ((fun _ => 0) j)))), (hT4, .inr (1, [.ref qT4, .ref qL4, .ref qR4, .int (nI 0)])), (qT4, .inl (cJ, 1792, .inr (.inl (fun _ => 0)))), (qL4, .inl (cJ, 7, .inr (.inl (fun _ => 0)))), (qR4, .inl (cJ, 7, .inr (.inl (fun _ => 0))))] := hD
  refine lv_astore_n (lv' := [(1, .ref q0), (0, .ref b)]) hx hb dL_law_7 rfl hl (by decide) rfl (fun ls hl => ?_)
  refine va_new (ci := 3) (fs := [.null, .null, .null, .int (nI 0), .int (nI 0), .int (nI 0), .int (nI 0), .int (nI 0), .null]) (C := RX3) (T := TX3) (N := 9) hx hb hts (inX3) tyX3 tyX3_ok hown (hts (.classLink RL 10 RX3) (by decide +kernel)) (hts (.instantiable RX3 9) (by decide +kernel)) (hts (.initialized RX3) (by decide +kernel)) hK hP hD hS hA rfl (fun j hj => by rcases (show j = 0 ∨ j = 1 ∨ j = 2 ∨ j = 3 ∨ j = 4 ∨ j = 5 ∨ j = 6 ∨ j = 7 ∨ j = 8 by omega) with rfl | rfl | rfl | rfl | rfl | rfl | rfl | rfl | rfl <;> rfl) (show 0 + 1 + 6 + 1 ≤ 600000 from by omega) (show 0 + 5 + 2610 + 9 ≤ 7302250 from by omega) dL_law_8 (fun q8 H hP hD hS => ?_)
  have hP : va_P (dC, dI) vwCl [(q0, .inr (2, [.ref qP4, .int (nI 0), .ref qW4, .int (nI 0), .ref hT4])), (qP4, .inl (cI, 400, .inl (fun j => nI ((fun _ => 0) j)))), (qW4, .inl (cI, 400, .inl (fun j => nI ((fun _ => 0) j)))), (hT4, .inr (1, [.ref qT4, .ref qL4, .ref qR4, .int (nI 0)])), (qT4, .inl (cJ, 1792, .inr (.inl (fun _ => 0)))), (qL4, .inl (cJ, 7, .inr (.inl (fun _ => 0)))), (qR4, .inl (cJ, 7, .inr (.inl (fun _ => 0)))), (q8, .inr (3, [.null, .null, .null, .int (nI 0), .int (nI 0), .int (nI 0), .int (nI 0), .int (nI 0), .null]))] H := hP
  have hD : va_D (fun q : Nat => s.heap.size ≤ q) [(q0, .inr (2, [.ref qP4, .int (nI 0), .ref qW4, .int (nI 0), .ref hT4])), (qP4, .inl (cI, 400, .inl (fun j => nI ((fun _ => 0) j)))), (qW4, .inl (cI, 400, .inl (fun j => nI ((fun _ => 0) j)))), (hT4, .inr (1, [.ref qT4, .ref qL4, .ref qR4, .int (nI 0)])), (qT4, .inl (cJ, 1792, .inr (.inl (fun _ => 0)))), (qL4, .inl (cJ, 7, .inr (.inl (fun _ => 0)))), (qR4, .inl (cJ, 7, .inr (.inl (fun _ => 0)))), (q8, .inr (3, [.null, .null, .null, .int (nI 0), .int (nI 0), .int (nI 0), .int (nI 0), .int (nI 0), .null]))] := hD
  refine lv_dup hx hb dL_law_11 rfl ?_
  have hPc := hP.sub (ws' := [(q8, .inr (3, [.null, .null, .null, .int (nI 0), .int (nI 0), .int (nI 0), .int (nI 0), .int (nI 0), .null]))]) [7] rfl
  have hDc := hD.sub (ws' := [(q8, .inr (3, [.null, .null, .null, .int (nI 0), .int (nI 0), .int (nI 0), .int (nI 0), .int (nI 0), .null]))]) [7] (by decide) rfl
  have hFc := va_free (wc := [(q8, .inr (3, [.null, .null, .null, .int (nI 0), .int (nI 0), .int (nI 0), .int (nI 0), .int (nI 0), .null]))]) hD hS hA [7] rfl
  refine va_callv (va_runI (As := []) (rest := [.ref q8]) ⟨hx, hb, hml, hown, hts⟩ (c_X3_init l dC dI cI cJ cZ q8 H.size  ) (cwI 0 hts gL_law_X3_init rfl rfl rfl (hts (.initialized RX3) (by decide +kernel)) (hts (.methodLink RL 12 yX3_init) (by decide +kernel)) (hts (.instanceMethod yX3_init) (by decide +kernel)) rfl (by decide +kernel) ⟨Nat.le_of_ble_eq_true rfl, Nat.le_of_ble_eq_true rfl⟩) ⟨fun a U g mk q => by obtain ⟨q0, q1, qP, qK, qD⟩ := q; exact ⟨q0, q1, qP, va_K.moved (u := U) (U := U.calling g mk a) (Vm.Alike.refl U.vm) qK, qD⟩, fun U hU hW => ⟨rfl, by rw [hU], by rw [hU]; exact hPc, va_K.moved hW.alike hK, hDc.weaken (fun _ _ _ _ => trivial)⟩⟩ rfl rfl hl.1 rfl (lv_room (Nat.le_of_ble_eq_true rfl)) dL_law_12 ⟨show 0 + 1 + 6 + 1 + 4 ≤ 600000 from by omega, show 0 + 5 + 2610 + 9 + 1601 ≤ 7302250 from by omega⟩) hS (fun q _ h => hFc q h) hFc (fun u t H1 locs ht hvm hw12 hB hz1 hk1 hS => ?_)
  obtain ⟨kt12, kp12, kw12, kf12⟩ := u
  obtain ⟨hP1, hK1, hD1⟩ := hB
  rw [ht] at hP1
  try dsimp only at hw12 hP1 hD1
  obtain ⟨hP, hD⟩ := va_join (wr := [(q0, .inr (2, [.ref qP4, .int (nI 0), .ref qW4, .int (nI 0), .ref hT4])), (qP4, .inl (cI, 400, .inl (fun j => nI ((fun _ => 0) j)))), (qW4, .inl (cI, 400, .inl (fun j => nI ((fun _ => 0) j)))), (hT4, .inr (1, [.ref qT4, .ref qL4, .ref qR4, .int (nI 0)])), (qT4, .inl (cJ, 1792, .inr (.inl (fun _ => 0)))), (qL4, .inl (cJ, 7, .inr (.inl (fun _ => 0)))), (qR4, .inl (cJ, 7, .inr (.inl (fun _ => 0))))]) (w1 := [(q8, .inr (3, [.ref kt12, .ref kp12, .ref kw12, .int (nI 0), .int (nI 0), .int (nI 0), .int (nI 0), .int (nI 0), .ref kf12])), (kt12, .inl (cI, 400, .inl (fun j => nI ((fun _ => 0) j)))), (kp12, .inl (cI, 400, .inl (fun j => nI ((fun _ => 0) j)))), (kw12, .inl (cI, 400, .inl (fun j => nI ((fun _ => 0) j)))), (kf12, .inl (cZ, 401, .inl (fun j => nI (bN ((fun _ => false) j)))))]) hP hD [7] [0, 1, 2, 3, 4, 5, 6] rfl rfl (by decide) (by decide) hk1 hFc hP1 hD1
  generalize H1 = H at hP hS ⊢
  have hP : va_P (dC, dI) vwCl [(q0, .inr (2, [.ref qP4, .int (nI 0), .ref qW4, .int (nI 0), .ref hT4])), (qP4, .inl (cI, 400, .inl (fun j => nI ((fun _ => 0) j)))), (qW4, .inl (cI, 400, .inl (fun j => nI ((fun _ => 0) j)))), (hT4, .inr (1, [.ref qT4, .ref qL4, .ref qR4, .int (nI 0)])), (qT4, .inl (cJ, 1792, .inr (.inl (fun _ => 0)))), (qL4, .inl (cJ, 7, .inr (.inl (fun _ => 0)))), (qR4, .inl (cJ, 7, .inr (.inl (fun _ => 0)))), (q8, .inr (3, [.ref kt12, .ref kp12, .ref kw12, .int (nI 0), .int (nI 0), .int (nI 0), .int (nI 0), .int (nI 0), .ref kf12])), (kt12, .inl (cI, 400, .inl (fun j => nI ((fun _ => 0) j)))), (kp12, .inl (cI, 400, .inl (fun j => nI ((fun _ => 0) j)))), (kw12, .inl (cI, 400, .inl (fun j => nI ((fun _ => 0) j)))), (kf12, .inl (cZ, 401, .inl (fun j => nI (bN ((fun _ => false) j)))))] H := hP
  have hD : va_D (fun q : Nat => s.heap.size ≤ q) [(q0, .inr (2, [.ref qP4, .int (nI 0), .ref qW4, .int (nI 0), .ref hT4])), (qP4, .inl (cI, 400, .inl (fun j => nI ((fun _ => 0) j)))), (qW4, .inl (cI, 400, .inl (fun j => nI ((fun _ => 0) j)))), (hT4, .inr (1, [.ref qT4, .ref qL4, .ref qR4, .int (nI 0)])), (qT4, .inl (cJ, 1792, .inr (.inl (fun _ => 0)))), (qL4, .inl (cJ, 7, .inr (.inl (fun _ => 0)))), (qR4, .inl (cJ, 7, .inr (.inl (fun _ => 0)))), (q8, .inr (3, [.ref kt12, .ref kp12, .ref kw12, .int (nI 0), .int (nI 0), .int (nI 0), .int (nI 0), .int (nI 0), .ref kf12])), (kt12, .inl (cI, 400, .inl (fun j => nI ((fun _ => 0) j)))), (kp12, .inl (cI, 400, .inl (fun j => nI ((fun _ => 0) j)))), (kw12, .inl (cI, 400, .inl (fun j => nI ((fun _ => 0) j)))), (kf12, .inl (cZ, 401, .inl (fun j => nI (bN ((fun _ => false) j)))))] := hD
  refine lv_astore_n (lv' := [(2, .ref q8), (1, .ref q0), (0, .ref b)]) hx hb dL_law_15 rfl hl (by decide) rfl (fun ls hl => ?_)
  refine lv_iconst (v := nI 0) hx hb dL_law_16 (by decide) ?_
  refine lv_istore_n (lv' := [(3, .int (nI 0)), (2, .ref q8), (1, .ref q0), (0, .ref b)]) hx hb dL_law_17 rfl hl (by decide) rfl (fun ls hl => ?_)
  exact law_loop l hL C0 hK q0 qP4 qW4 hT4 qT4 qL4 qR4 q8 kt12 kp12 kw12 kf12 (hP.sub [0, 1, 2, 3, 4, 5, 6, 7, 8, 9, 10, 11] rfl) (hD.sub [0, 1, 2, 3, 4, 5, 6, 7, 8, 9, 10, 11] (by decide) rfl) hS (lv_sub hl [3, 2, 1, 0] rfl)
