set_option maxHeartbeats 4000000 in
set_option maxRecDepth 100000 in
theorem c_X1_tell (l : Launch) (dC : Nat → ClassId) (dI : Nat → Nat → Nat) (cI cJ cZ : ClassId) (hT qT qL qR : Nat) (sz : Nat) (cnt : Nat) (fT : Nat → Int64) (fL : Nat → Int64) (fR : Nat → Int64) (lo : Nat) (hi : Nat) (tb : Nat) (hc : cnt < 448) (hlo : lo < 256) (hhi : hi < 256) (htb : tb < 2) : Met l yX1_tell wsX1_tell ({ frames := 1, cells := 0, slots := 0, locals := 20 }) (va_Pc [.ref hT, .int (nI lo), .int (nI hi), .int (nI tb)] (fun U => U.heap.size = sz ∧ va_P (dC, dI) vwCl [(hT, .inr (1, [.ref qT, .ref qL, .ref qR, .int (nI cnt)])), (qT, .inl (cJ, 1792, .inr (.inl fT))), (qL, .inl (cJ, 7, .inr (.inl fL))), (qR, .inl (cJ, 7, .inr (.inl fR)))] U.heap ∧ va_K (dC, dI) vwCl [(cI, .int), (cJ, .long), (cZ, .boolean)] U ∧ va_D (fun _ => True) [(hT, .inr (1, [.ref qT, .ref qL, .ref qR, .int (nI cnt)])), (qT, .inl (cJ, 1792, .inr (.inl fT))), (qL, .inl (cJ, 7, .inr (.inl fL))), (qR, .inl (cJ, 7, .inr (.inl fR)))])) (va_Qv (fun (u : (Nat → Int64)) => ∀ x k, k < 448 → lb u (448 * x + k) = if k = cnt ∧ lo ≤ x ∧ x ≤ hi then decide (tb ≠ 0) else lb fT (448 * x + k)) (fun (u : (Nat → Int64)) (t : State) => va_P (dC, dI) vwCl [(hT, .inr (1, [.ref qT, .ref qL, .ref qR, .int (nI cnt)])), (qT, .inl (cJ, 1792, .inr (.inl u))), (qL, .inl (cJ, 7, .inr (.inl fL))), (qR, .inl (cJ, 7, .inr (.inl fR)))] t.heap ∧ va_K (dC, dI) vwCl [(cI, .int), (cJ, .long), (cZ, .boolean)] t ∧ va_D (va_A [(hT, .inr (1, [.ref qT, .ref qL, .ref qR, .int (nI cnt)])), (qT, .inl (cJ, 1792, .inr (.inl fT))), (qL, .inl (cJ, 7, .inr (.inl fL))), (qR, .inl (cJ, 7, .inr (.inl fR)))] sz) [(hT, .inr (1, [.ref qT, .ref qL, .ref qR, .int (nI cnt)])), (qT, .inl (cJ, 1792, .inr (.inl u))), (qL, .inl (cJ, 7, .inr (.inl fL))), (qR, .inl (cJ, 7, .inr (.inl fR)))]) (va_A [(hT, .inr (1, [.ref qT, .ref qL, .ref qR, .int (nI cnt)])), (qT, .inl (cJ, 1792, .inr (.inl fT))), (qL, .inl (cJ, 7, .inr (.inl fL))), (qR, .inl (cJ, 7, .inr (.inl fR)))] sz)) 0 0 (va_A [(hT, .inr (1, [.ref qT, .ref qL, .ref qR, .int (nI cnt)])), (qT, .inl (cJ, 1792, .inr (.inl fT))), (qL, .inl (cJ, 7, .inr (.inl fL))), (qR, .inl (cJ, 7, .inr (.inl fR)))] sz) := by
  refine Met.ofW (cc := cX1_tell) (maxL := 8) (ret := none) (by decide) rfl ?_
  intro p e s m args below meth c s₁ B hml hv
  obtain ⟨rfl, hsz, hP, hK, hD0⟩ := hv
  have hx := B.exec
  have hb := B.bytes
  have hr := B.returns
  have hts := atoms_spec (ws := wsX1_tell) B.pre
  have hown : s.vm.findClass RX1 = some m.cls := findClass_of_methodNamed B.named
  have hlocks := B.notSynchronized
  subst hsz
  have hD := hD0.self (sz := s.heap.size)
  generalize hAe : va_A [(hT, .inr (1, [.ref qT, .ref qL, .ref qR, .int (nI cnt)])), (qT, .inl (cJ, 1792, .inr (.inl fT))), (qL, .inl (cJ, 7, .inr (.inl fL))), (qR, .inl (cJ, 7, .inr (.inl fR)))] s.heap.size = A at hD ⊢
  have hA : ∀ q : Nat, s.heap.size ≤ q → A q := fun q h => by rw [← hAe]; exact Or.inr h
  have hS : va_S A s.heap s.heap [] := va_S.rf
  have hP : va_P (dC, dI) vwCl [(hT, .inr (1, [.ref qT, .ref qL, .ref qR, .int (nI cnt)])), (qT, .inl (cJ, 1792, .inr (.inl fT))), (qL, .inl (cJ, 7, .inr (.inl fL))), (qR, .inl (cJ, 7, .inr (.inl fR)))] s.heap := hP
  have hl := lv_entry ([.ref hT, .int (nI lo), .int (nI hi), .int (nI tb)]) (n := 8) (Nat.le_of_ble_eq_true rfl)
  rw [lg_entry_eq]
  generalize (lg_sl ([.ref hT, .int (nI lo), .int (nI hi), .int (nI tb)]) ++ List.replicate (8 - (lg_sl ([.ref hT, .int (nI lo), .int (nI hi), .int (nI tb)])).length) Slot.unset).toArray = ls at hl ⊢
  have hl : lv_has ls 8 [(0, .ref hT), (1, .int (nI lo)), (2, .int (nI hi)), (3, .int (nI tb))] := hl
  skip
  refine lv_iload_n hx hb dX1_tell_0 rfl (lv_at hl 1 rfl) ?_
  refine lv_iconst (v := nI 0) hx hb dX1_tell_1 (by decide) ?_
  refine va_mmax hx hb (by rw [hml]; exact hl.1.symm) hown (hts (.methodLink RX1 35 Lib.Math.max.name) (by decide +kernel)) (hts (.static Lib.Math.max.name) (by decide +kernel)) (hts (.initialized "java/lang/Math") (by decide +kernel)) (hts (.code Lib.Math.max.name Lib.Math.max.code 2 (some .int)) (by decide +kernel)) (Nat.le_of_ble_eq_true rfl) (Nat.le_of_ble_eq_true rfl) (Nat.zero_le _) (Nat.zero_le _) dX1_tell_2 ?_
  refine wl_asi (y := nI lo) (if_neg (nI_nlt (Nat.zero_le _) (by omega))) ?_
  refine lv_istore (lv' := [(4, .int (nI lo)), (0, .ref hT), (1, .int (nI lo)), (2, .int (nI hi)), (3, .int (nI tb))]) hx hb dX1_tell_5 hl (by decide) rfl (fun ls hl => ?_)
  refine lv_iload_n hx hb dX1_tell_7 rfl (lv_at hl 3 rfl) ?_
  refine lv_sipush (v := nI 255) hx hb dX1_tell_8 (by decide) ?_
  refine va_mmin hx hb (by rw [hml]; exact hl.1.symm) hown (hts (.methodLink RX1 41 Lib.Math.min.name) (by decide +kernel)) (hts (.static Lib.Math.min.name) (by decide +kernel)) (hts (.initialized "java/lang/Math") (by decide +kernel)) (hts (.code Lib.Math.min.name Lib.Math.min.code 2 (some .int)) (by decide +kernel)) (Nat.le_of_ble_eq_true rfl) (Nat.le_of_ble_eq_true rfl) (Nat.zero_le _) (Nat.zero_le _) dX1_tell_11 ?_
  refine wl_asi (y := nI hi) (if_neg (nI_nlt (by omega) (by omega))) ?_
  refine lv_istore (lv' := [(5, .int (nI hi)), (4, .int (nI lo)), (0, .ref hT), (1, .int (nI lo)), (2, .int (nI hi)), (3, .int (nI tb))]) hx hb dX1_tell_14 hl (by decide) rfl (fun ls hl => ?_)
  refine lv_iload hx hb dX1_tell_16 (lv_at hl 1 rfl) ?_
  refine lv_istore (lv' := [(6, .int (nI lo)), (5, .int (nI hi)), (4, .int (nI lo)), (0, .ref hT), (1, .int (nI lo)), (2, .int (nI hi)), (3, .int (nI tb))]) hx hb dX1_tell_18 hl (by decide) rfl (fun ls hl => ?_)
  refine wl_loop (σ := Nat × (Nat → Int64)) (fun z9 => 256 - z9.1) (fun z9 H locs ls => (lo ≤ z9.1) ∧ (z9.1 ≤ 256) ∧ (z9.1 ≤ hi + 1 ∨ z9.1 = lo) ∧ (∀ x k, k < 448 → lb z9.2 (448 * x + k) = if k = cnt ∧ lo ≤ x ∧ x < z9.1 then decide (tb ≠ 0) else lb fT (448 * x + k)) ∧ va_P (dC, dI) vwCl [(hT, .inr (1, [.ref qT, .ref qL, .ref qR, .int (nI cnt)])), (qT, .inl (cJ, 1792, .inr (.inl z9.2))), (qL, .inl (cJ, 7, .inr (.inl fL))), (qR, .inl (cJ, 7, .inr (.inl fR)))] H ∧ va_D A [(hT, .inr (1, [.ref qT, .ref qL, .ref qR, .int (nI cnt)])), (qT, .inl (cJ, 1792, .inr (.inl z9.2))), (qL, .inl (cJ, 7, .inr (.inl fL))), (qR, .inl (cJ, 7, .inr (.inl fR)))] ∧ va_S A s.heap H locs ∧ lv_has ls 8 [(0, .ref hT), (1, .int (nI lo)), (2, .int (nI hi)), (3, .int (nI tb)), (4, .int (nI lo)), (5, .int (nI hi)), (6, .int (nI z9.1))]) ?_ (lo, fT) ⟨(show lo ≤ lo from Nat.le_refl _), (show lo ≤ 256 from by omega), (show lo ≤ hi + 1 ∨ lo = lo from Or.inr rfl), (show ∀ x k, k < 448 → lb fT (448 * x + k) = if k = cnt ∧ lo ≤ x ∧ x < lo then decide (tb ≠ 0) else lb fT (448 * x + k) from fun x k _ => by rw [if_neg (by omega)]), hP.sub [0, 1, 2, 3] rfl, hD.sub [0, 1, 2, 3] (by decide) rfl, hS, lv_sub hl [3, 4, 5, 6, 2, 1, 0] rfl⟩
  intro z9 H locs ls hI ih20
  obtain ⟨b, g⟩ := z9
  obtain ⟨hb1, hb2, hb3, hg, hP, hD, hS, hl⟩ := hI
  try dsimp only at hb1 hb2 hb3 hg hP hD hl
  have hP : va_P (dC, dI) vwCl [(hT, .inr (1, [.ref qT, .ref qL, .ref qR, .int (nI cnt)])), (qT, .inl (cJ, 1792, .inr (.inl g))), (qL, .inl (cJ, 7, .inr (.inl fL))), (qR, .inl (cJ, 7, .inr (.inl fR)))] H := hP
  have hD : va_D A [(hT, .inr (1, [.ref qT, .ref qL, .ref qR, .int (nI cnt)])), (qT, .inl (cJ, 1792, .inr (.inl g))), (qL, .inl (cJ, 7, .inr (.inl fL))), (qR, .inl (cJ, 7, .inr (.inl fR)))] := hD
  have hl : lv_has ls 8 [(0, .ref hT), (1, .int (nI lo)), (2, .int (nI hi)), (3, .int (nI tb)), (4, .int (nI lo)), (5, .int (nI hi)), (6, .int (nI b))] := hl
  refine lv_iload hx hb dX1_tell_20 (lv_at hl 6 rfl) ?_
  refine lv_iload hx hb dX1_tell_22 (lv_at hl 5 rfl) ?_
  refine wl_icmp_gt (tgt := 93) hx hb dX1_tell_24 (by decide) (by omega) (by omega) (fun c24 => ?_) (fun c24 => ?_)
  · skip
    have hP9 := hP.sub (ws' := [(hT, .inr (1, [.ref qT, .ref qL, .ref qR, .int (nI cnt)])), (qT, .inl (cJ, 1792, .inr (.inl g))), (qL, .inl (cJ, 7, .inr (.inl fL))), (qR, .inl (cJ, 7, .inr (.inl fR)))]) [0, 1, 2, 3] rfl
    have hD9 := hD.sub (ws' := [(hT, .inr (1, [.ref qT, .ref qL, .ref qR, .int (nI cnt)])), (qT, .inl (cJ, 1792, .inr (.inl g))), (qL, .inl (cJ, 7, .inr (.inl fL))), (qR, .inl (cJ, 7, .inr (.inl fR)))]) [0, 1, 2, 3] (by decide) rfl
    exact W.vret hx hb hr (fun t ht hW => ⟨⟨g, rfl, (show ∀ x k, k < 448 → lb g (448 * x + k) = if k = cnt ∧ lo ≤ x ∧ x ≤ hi then decide (tb ≠ 0) else lb fT (448 * x + k) from tl_end c24 hb3 hg), by rw [ht]; exact hP9, va_K.moved hW.alike hK, hD9⟩, hS.F ht⟩) hS.2.2 dX1_tell_93
  · skip
    refine lv_iload hx hb dX1_tell_27 (lv_at hl 6 rfl) ?_
    refine lv_bipush (v := nI 7) hx hb dX1_tell_29 (by decide) ?_
    refine lv_imul hx hb dX1_tell_31 ?_
    refine wl_asi (y := nI (b * 7)) (pk_mul _ _) ?_
    refine lv_aload_n hx hb dX1_tell_32 rfl (lv_at hl 0 rfl) ?_
    refine va_get (D := (dC, dI)) (ci := 1) (v := .int (nI cnt)) (C := RX1) (T := TX1) (N := 4) hx hb hts (by decide +kernel) hown hK hP 0 rfl rfl 3 (by decide) (hts (.fieldLink RX1 27 "WildCards$Things" "count" "I") (by decide +kernel)) (fun _ h9 => h9) rfl dX1_tell_33 ?_
    refine lv_bipush (v := nI 64) hx hb dX1_tell_36 (by decide) ?_
    refine lv_idiv hx hb dX1_tell_38 (by decide) ?_
    refine wl_asi (y := nI (cnt / 64)) (pk_div (by omega) (by omega) (by omega)) ?_
    refine lv_iadd hx hb dX1_tell_39 ?_
    refine wl_asi (y := nI ((b * 7) + (cnt / 64))) (nI_add _ _) ?_
    refine lv_istore (lv' := [(7, .int (nI ((b * 7) + (cnt / 64)))), (0, .ref hT), (1, .int (nI lo)), (2, .int (nI hi)), (3, .int (nI tb)), (4, .int (nI lo)), (5, .int (nI hi)), (6, .int (nI b))]) hx hb dX1_tell_40 hl (by decide) rfl (fun ls hl => ?_)
    refine lv_iload_n hx hb dX1_tell_42 rfl (lv_at hl 4 rfl) ?_
    refine wl_if_eq (tgt := 66) hx hb dX1_tell_43 (by decide) (by omega) (fun c43 => ?_) (fun c43 => ?_)
    · skip
      refine lv_aload_n hx hb dX1_tell_66 rfl (lv_at hl 1 rfl) ?_
      refine va_get (D := (dC, dI)) (ci := 1) (v := .ref qT) (C := RX1) (T := TX1) (N := 4) hx hb hts (by decide +kernel) hown hK hP 0 rfl rfl 0 (by decide) (hts (.fieldLink RX1 11 "WildCards$Things" "takers" "[J") (by decide +kernel)) (fun _ h9 => h9) rfl dX1_tell_67 ?_
      refine lv_iload hx hb dX1_tell_70 (lv_at hl 0 rfl) ?_
      refine lv_dup2_11 hx hb dX1_tell_72 rfl rfl ?_
      refine va_lald hx hb hK hP 1 1 rfl rfl (vp_in_nI (by omega) (by omega)) dX1_tell_73 ?_
      refine wl_asl (y := g ((b * 7) + (cnt / 64))) (by rw [nI_clamp (by omega)]) ?_
      refine lv_aload_n hx hb dX1_tell_74 rfl (lv_at hl 1 rfl) ?_
      refine va_get (D := (dC, dI)) (ci := 1) (v := .int (nI cnt)) (C := RX1) (T := TX1) (N := 4) hx hb hts (by decide +kernel) hown hK hP 0 rfl rfl 3 (by decide) (hts (.fieldLink RX1 27 "WildCards$Things" "count" "I") (by decide +kernel)) (fun _ h9 => h9) rfl dX1_tell_75 ?_
      have hPc := hP.sub (ws' := []) [] rfl
      have hDc := hD.sub (ws' := []) [] (by decide) rfl
      have hFc := va_free (wc := []) hD hS hA [] rfl
      refine va_calll (va_runS (As := [.int (nI cnt)]) (rest := [.long (g ((b * 7) + (cnt / 64))), .int (nI ((b * 7) + (cnt / 64))), .ref qT]) ⟨hx, hb, hml, hown, hts⟩ (c_X1_bitOf l dC dI cI cJ cZ  H.size cnt (by omega)) (va_cwS 1 hts gX1_tell_X1_bitOf rfl rfl rfl (by decide +kernel) ⟨Nat.le_of_ble_eq_true rfl, Nat.le_of_ble_eq_true rfl⟩) ⟨fun a U g mk q => by obtain ⟨q0, q1, qP, qK, qD⟩ := q; exact ⟨q0, q1, qP, va_K.moved (u := U) (U := U.calling g mk a) (Vm.Alike.refl U.vm) qK, qD⟩, fun U hU hW => ⟨rfl, by rw [hU], by rw [hU]; exact hPc, va_K.moved hW.alike hK, hDc.weaken (fun _ _ _ _ => trivial)⟩⟩ rfl rfl hl.1 rfl (lv_room (Nat.le_of_ble_eq_true rfl)) dX1_tell_78 ⟨show 0 + 0 ≤ 0 from by decide, show 0 + 0 ≤ 0 from by decide⟩) hS (fun q _ h => hFc q h) hFc (fun r78 u t H1 locs ht hvm hw78 hB hz1 hk1 hS => ?_)
      obtain ⟨hP1, hK1, hD1⟩ := hB
      rw [ht] at hP1
      try dsimp only at hw78 hP1 hD1
      obtain ⟨hP, hD⟩ := va_join (wr := [(hT, .inr (1, [.ref qT, .ref qL, .ref qR, .int (nI cnt)])), (qT, .inl (cJ, 1792, .inr (.inl g))), (qL, .inl (cJ, 7, .inr (.inl fL))), (qR, .inl (cJ, 7, .inr (.inl fR)))]) (w1 := []) hP hD [] [0, 1, 2, 3] rfl rfl (by decide) (by decide) hk1 hFc hP1 hD1
      generalize H1 = H at hP hS ⊢
      have hP : va_P (dC, dI) vwCl [(hT, .inr (1, [.ref qT, .ref qL, .ref qR, .int (nI cnt)])), (qT, .inl (cJ, 1792, .inr (.inl g))), (qL, .inl (cJ, 7, .inr (.inl fL))), (qR, .inl (cJ, 7, .inr (.inl fR)))] H := hP
      have hD : va_D A [(hT, .inr (1, [.ref qT, .ref qL, .ref qR, .int (nI cnt)])), (qT, .inl (cJ, 1792, .inr (.inl g))), (qL, .inl (cJ, 7, .inr (.inl fL))), (qR, .inl (cJ, 7, .inr (.inl fR)))] := hD
      refine lv_ldc2 (v := (-1)) hx hb hown (hts (.constantLong RX1 44 (-1)) (by decide +kernel)) dX1_tell_81 ?_
      refine lv_lxor hx hb dX1_tell_84 ?_
      refine lv_land hx hb dX1_tell_85 ?_
      refine va_last hx hb hK hP hD hS 1 1 rfl rfl (vp_in_nI (by omega) (by omega)) dX1_tell_86 (fun H locs hP hD hS => ?_)
      rw [nI_clamp (by omega)] at hP hD
      have hP : va_P (dC, dI) vwCl [(hT, .inr (1, [.ref qT, .ref qL, .ref qR, .int (nI cnt)])), (qT, .inl (cJ, 1792, .inr (.inl (vp_updL g ((b * 7) + (cnt / 64)) ((g ((b * 7) + (cnt / 64))) &&& (r78 ^^^ (-1))))))), (qL, .inl (cJ, 7, .inr (.inl fL))), (qR, .inl (cJ, 7, .inr (.inl fR)))] H := hP
      have hD : va_D A [(hT, .inr (1, [.ref qT, .ref qL, .ref qR, .int (nI cnt)])), (qT, .inl (cJ, 1792, .inr (.inl (vp_updL g ((b * 7) + (cnt / 64)) ((g ((b * 7) + (cnt / 64))) &&& (r78 ^^^ (-1))))))), (qL, .inl (cJ, 7, .inr (.inl fL))), (qR, .inl (cJ, 7, .inr (.inl fR)))] := hD
      refine lv_iinc (v := nI (b + 1)) (lv' := [(6, .int (nI (b + 1))), (7, .int (nI ((b * 7) + (cnt / 64)))), (0, .ref hT), (1, .int (nI lo)), (2, .int (nI hi)), (3, .int (nI tb)), (4, .int (nI lo)), (5, .int (nI hi))]) hx hb dX1_tell_87 hl (k := 7) rfl (wl_inc _ _ (by decide)) (by decide) rfl (fun ls hl => ?_)
      refine lv_goto (tgt := 20) hx hb dX1_tell_90 (by decide) ?_
      exact ih20 (b + 1, vp_updL g ((b * 7) + (cnt / 64)) ((g ((b * 7) + (cnt / 64))) &&& (r78 ^^^ (-1)))) H locs ls ⟨(show lo ≤ (b + 1) from by omega), (show (b + 1) ≤ 256 from by omega), (show (b + 1) ≤ hi + 1 ∨ (b + 1) = lo from Or.inl (by omega)), (show ∀ x k, k < 448 → lb (vp_updL g ((b * 7) + (cnt / 64)) ((g ((b * 7) + (cnt / 64))) &&& (r78 ^^^ (-1)))) (448 * x + k) = if k = cnt ∧ lo ≤ x ∧ x < (b + 1) then decide (tb ≠ 0) else lb fT (448 * x + k) from tl_in hc hb1 hg (fun k => tl_clr (tl_q b cnt hc) (hw78.trans (bitL_mod _ _ (by omega))) (decide_eq_false (fun z => z c43)) k)), hP.sub [0, 1, 2, 3] rfl, hD.sub [0, 1, 2, 3] (by decide) rfl, hS, lv_sub hl [2, 3, 4, 5, 6, 7, 0] rfl⟩ (by (try dsimp only); omega)
    · skip
      refine lv_aload_n hx hb dX1_tell_46 rfl (lv_at hl 1 rfl) ?_
      refine va_get (D := (dC, dI)) (ci := 1) (v := .ref qT) (C := RX1) (T := TX1) (N := 4) hx hb hts (by decide +kernel) hown hK hP 0 rfl rfl 0 (by decide) (hts (.fieldLink RX1 11 "WildCards$Things" "takers" "[J") (by decide +kernel)) (fun _ h9 => h9) rfl dX1_tell_47 ?_
      refine lv_iload hx hb dX1_tell_50 (lv_at hl 0 rfl) ?_
      refine lv_dup2_11 hx hb dX1_tell_52 rfl rfl ?_
      refine va_lald hx hb hK hP 1 1 rfl rfl (vp_in_nI (by omega) (by omega)) dX1_tell_53 ?_
      refine wl_asl (y := g ((b * 7) + (cnt / 64))) (by rw [nI_clamp (by omega)]) ?_
      refine lv_aload_n hx hb dX1_tell_54 rfl (lv_at hl 1 rfl) ?_
      refine va_get (D := (dC, dI)) (ci := 1) (v := .int (nI cnt)) (C := RX1) (T := TX1) (N := 4) hx hb hts (by decide +kernel) hown hK hP 0 rfl rfl 3 (by decide) (hts (.fieldLink RX1 27 "WildCards$Things" "count" "I") (by decide +kernel)) (fun _ h9 => h9) rfl dX1_tell_55 ?_
      have hPc := hP.sub (ws' := []) [] rfl
      have hDc := hD.sub (ws' := []) [] (by decide) rfl
      have hFc := va_free (wc := []) hD hS hA [] rfl
      refine va_calll (va_runS (As := [.int (nI cnt)]) (rest := [.long (g ((b * 7) + (cnt / 64))), .int (nI ((b * 7) + (cnt / 64))), .ref qT]) ⟨hx, hb, hml, hown, hts⟩ (c_X1_bitOf l dC dI cI cJ cZ  H.size cnt (by omega)) (va_cwS 1 hts gX1_tell_X1_bitOf rfl rfl rfl (by decide +kernel) ⟨Nat.le_of_ble_eq_true rfl, Nat.le_of_ble_eq_true rfl⟩) ⟨fun a U g mk q => by obtain ⟨q0, q1, qP, qK, qD⟩ := q; exact ⟨q0, q1, qP, va_K.moved (u := U) (U := U.calling g mk a) (Vm.Alike.refl U.vm) qK, qD⟩, fun U hU hW => ⟨rfl, by rw [hU], by rw [hU]; exact hPc, va_K.moved hW.alike hK, hDc.weaken (fun _ _ _ _ => trivial)⟩⟩ rfl rfl hl.1 rfl (lv_room (Nat.le_of_ble_eq_true rfl)) dX1_tell_58 ⟨show 0 + 0 ≤ 0 from by decide, show 0 + 0 ≤ 0 from by decide⟩) hS (fun q _ h => hFc q h) hFc (fun r58 u t H1 locs ht hvm hw58 hB hz1 hk1 hS => ?_)
      obtain ⟨hP1, hK1, hD1⟩ := hB
      rw [ht] at hP1
      try dsimp only at hw58 hP1 hD1
      obtain ⟨hP, hD⟩ := va_join (wr := [(hT, .inr (1, [.ref qT, .ref qL, .ref qR, .int (nI cnt)])), (qT, .inl (cJ, 1792, .inr (.inl g))), (qL, .inl (cJ, 7, .inr (.inl fL))), (qR, .inl (cJ, 7, .inr (.inl fR)))]) (w1 := []) hP hD [] [0, 1, 2, 3] rfl rfl (by decide) (by decide) hk1 hFc hP1 hD1
      generalize H1 = H at hP hS ⊢
      have hP : va_P (dC, dI) vwCl [(hT, .inr (1, [.ref qT, .ref qL, .ref qR, .int (nI cnt)])), (qT, .inl (cJ, 1792, .inr (.inl g))), (qL, .inl (cJ, 7, .inr (.inl fL))), (qR, .inl (cJ, 7, .inr (.inl fR)))] H := hP
      have hD : va_D A [(hT, .inr (1, [.ref qT, .ref qL, .ref qR, .int (nI cnt)])), (qT, .inl (cJ, 1792, .inr (.inl g))), (qL, .inl (cJ, 7, .inr (.inl fL))), (qR, .inl (cJ, 7, .inr (.inl fR)))] := hD
      refine lv_lor hx hb dX1_tell_61 ?_
      refine va_last hx hb hK hP hD hS 1 1 rfl rfl (vp_in_nI (by omega) (by omega)) dX1_tell_62 (fun H locs hP hD hS => ?_)
      rw [nI_clamp (by omega)] at hP hD
      have hP : va_P (dC, dI) vwCl [(hT, .inr (1, [.ref qT, .ref qL, .ref qR, .int (nI cnt)])), (qT, .inl (cJ, 1792, .inr (.inl (vp_updL g ((b * 7) + (cnt / 64)) ((g ((b * 7) + (cnt / 64))) ||| r58))))), (qL, .inl (cJ, 7, .inr (.inl fL))), (qR, .inl (cJ, 7, .inr (.inl fR)))] H := hP
      have hD : va_D A [(hT, .inr (1, [.ref qT, .ref qL, .ref qR, .int (nI cnt)])), (qT, .inl (cJ, 1792, .inr (.inl (vp_updL g ((b * 7) + (cnt / 64)) ((g ((b * 7) + (cnt / 64))) ||| r58))))), (qL, .inl (cJ, 7, .inr (.inl fL))), (qR, .inl (cJ, 7, .inr (.inl fR)))] := hD
      refine lv_goto (tgt := 87) hx hb dX1_tell_63 (by decide) ?_
      refine lv_iinc (v := nI (b + 1)) (lv' := [(6, .int (nI (b + 1))), (7, .int (nI ((b * 7) + (cnt / 64)))), (0, .ref hT), (1, .int (nI lo)), (2, .int (nI hi)), (3, .int (nI tb)), (4, .int (nI lo)), (5, .int (nI hi))]) hx hb dX1_tell_87 hl (k := 7) rfl (wl_inc _ _ (by decide)) (by decide) rfl (fun ls hl => ?_)
      refine lv_goto (tgt := 20) hx hb dX1_tell_90 (by decide) ?_
      exact ih20 (b + 1, vp_updL g ((b * 7) + (cnt / 64)) ((g ((b * 7) + (cnt / 64))) ||| r58)) H locs ls ⟨(show lo ≤ (b + 1) from by omega), (show (b + 1) ≤ 256 from by omega), (show (b + 1) ≤ hi + 1 ∨ (b + 1) = lo from Or.inl (by omega)), (show ∀ x k, k < 448 → lb (vp_updL g ((b * 7) + (cnt / 64)) ((g ((b * 7) + (cnt / 64))) ||| r58)) (448 * x + k) = if k = cnt ∧ lo ≤ x ∧ x < (b + 1) then decide (tb ≠ 0) else lb fT (448 * x + k) from tl_in hc hb1 hg (fun k => tl_set (tl_q b cnt hc) (hw58.trans (bitL_mod _ _ (by omega))) (decide_eq_true c43) k)), hP.sub [0, 1, 2, 3] rfl, hD.sub [0, 1, 2, 3] (by decide) rfl, hS, lv_sub hl [2, 3, 4, 5, 6, 7, 0] rfl⟩ (by (try dsimp only); omega)
