theorem mLast_rng {N : NT} (h : ∀ j, -2147483648 ≤ nQ N j ∧ nQ N j < 2147483648) : -2147483648 ≤ mLast N ∧ mLast N < 2147483648 := by
  unfold mLast
  split
  · omega
  · exact h _

set_option maxHeartbeats 4000000 in
set_option maxRecDepth 100000 in
theorem c_X11_thrown (l : Launch) (g : GG) (mo az ap ak ax a1 a2 a3 a4 a5 a6 v1 v2 v3 v4 v5 v6 : Nat) (pm ik ty th mn wt bn wh dp dg : Int) : qPure l yX11_thrown wsX11_thrown ({ frames := 0, cells := 0, slots := 0, locals := 0 }) g [.ref mo] [(mo, .inr (11, [.ref az, .ref ap, .int (iI pm), .ref ak, .int (iI ik), .ref ax, .int (iI ty), .int (iI th), .ref a1, .ref a2, .int (iI mn), .ref a3, .int (iI wt), .ref a4, .ref a5, .ref a6, .ref v1, .ref v2, .ref v3, .ref v4, .ref v5, .ref v6, .int (iI bn), .int (iI wh), .int (iI dp), .int (iI dg)]))] (fun _ => True) (some (.int (iI th))) := by
  refine q_ofP (cc := cX11_thrown) (maxL := 1) (ret := (some .int)) (by decide) rfl (Nat.le_of_ble_eq_true rfl) ?_
  intro p e s m args below meth c ls S0 hr hlocks hK hP hX hl
  have hP : va_P g.1 vwCl [(mo, .inr (11, [.ref az, .ref ap, .int (iI pm), .ref ak, .int (iI ik), .ref ax, .int (iI ty), .int (iI th), .ref a1, .ref a2, .int (iI mn), .ref a3, .int (iI wt), .ref a4, .ref a5, .ref a6, .ref v1, .ref v2, .ref v3, .ref v4, .ref v5, .ref v6, .int (iI bn), .int (iI wh), .int (iI dp), .int (iI dg)]))] s.heap := hP
  have hl : lv_has ls 1 [(0, .ref mo)] := hl
  have hinX11 : ∀ w ∈ wsX110, w ∈ wsX11_thrown := fun w h => List.mem_cons_of_mem _ (List.mem_append_right _ h)
  refine lv_aload_n S0.1 S0.2.1 dX11_thrown_0 rfl (lv_at hl 0 rfl) ?_
  refine q_get (C := RX11) (T := TX11) (N := 26) S0 hK hP hinX11 0 rfl rfl 7 (by decide) (List.mem_of_getElem? (i := 1) rfl) rfl rfl dX11_thrown_1 ?_
  exact qp_iret S0 hr hlocks (rfl) dX11_thrown_4
set_option maxHeartbeats 4000000 in
set_option maxRecDepth 100000 in
theorem c_X11_in (l : Launch) (g : GG) (v lo hi : Int) (hv : -2147483648 ≤ v ∧ v < 2147483648) (hl : -2147483648 ≤ lo ∧ lo < 2147483648) (hh : -2147483648 ≤ hi ∧ hi < 2147483648) : qPure l yX11_in wsX11_in ({ frames := 0, cells := 0, slots := 0, locals := 0 }) g [.int (iI v), .int (iI lo), .int (iI hi)] [] (fun _ => True) (some (.int (iI (if lo ≤ v ∧ v ≤ hi then (1 : Int) else 0)))) := by
  refine q_ofP (cc := cX11_in) (maxL := 3) (ret := (some .boolean)) (by decide) rfl (Nat.le_of_ble_eq_true rfl) ?_
  intro p e s m args below meth c ls S0 hr hlocks hK hP hX hl
  have hP : va_P g.1 vwCl [] s.heap := hP
  have hl : lv_has ls 3 [(0, .int (iI v)), (1, .int (iI lo)), (2, .int (iI hi))] := hl
  refine lv_iload_n S0.1 S0.2.1 dX11_in_0 rfl (lv_at hl 0 rfl) ?_
  refine lv_iload_n S0.1 S0.2.1 dX11_in_1 rfl (lv_at hl 1 rfl) ?_
  refine q_icmp_lt (tgt := 14) S0 (by omega) dX11_in_2 (by decide) (fun c2 => ?_) (fun c2 => ?_)
  · skip
    refine q_iconst S0 dX11_in_14 ?_
    exact qp_zret S0 hr hlocks (by first | exact Or.inl rfl | exact Or.inr rfl | omega) (by first | (rw [if_pos (by omega)]; done) | (rw [if_neg (by omega)]; done) | (exfalso; omega)) dX11_in_15
  · skip
    refine lv_iload_n S0.1 S0.2.1 dX11_in_5 rfl (lv_at hl 0 rfl) ?_
    refine lv_iload_n S0.1 S0.2.1 dX11_in_6 rfl (lv_at hl 2 rfl) ?_
    refine q_icmp_gt (tgt := 14) S0 (by omega) dX11_in_7 (by decide) (fun c7 => ?_) (fun c7 => ?_)
    · skip
      refine q_iconst S0 dX11_in_14 ?_
      exact qp_zret S0 hr hlocks (by first | exact Or.inl rfl | exact Or.inr rfl | omega) (by first | (rw [if_pos (by omega)]; done) | (rw [if_neg (by omega)]; done) | (exfalso; omega)) dX11_in_15
    · skip
      refine q_iconst S0 dX11_in_10 ?_
      refine lv_goto (tgt := 15) S0.1 S0.2.1 dX11_in_11 (by decide) ?_
      exact qp_zret S0 hr hlocks (by first | exact Or.inl rfl | exact Or.inr rfl | omega) (by first | (rw [if_pos (by omega)]; done) | (rw [if_neg (by omega)]; done) | (exfalso; omega)) dX11_in_15
set_option maxHeartbeats 4000000 in
set_option maxRecDepth 100000 in
theorem c_X11_asks (l : Launch) (g : GG) (mo az ap ak ax a1 a2 a3 a4 a5 a6 v1 v2 v3 v4 v5 v6 : Nat) (pm ik ty th mn wt bn wh dp dg : Int) (P : Prop) [Decidable P] : qMet l yX11_asks wsX11_asks ({ frames := 0, cells := 0, slots := 0, locals := 0 }) g [.ref mo, .int (iI (if P then (1 : Int) else 0))] [(mo, .inr (11, [.ref az, .ref ap, .int (iI pm), .ref ak, .int (iI ik), .ref ax, .int (iI ty), .int (iI th), .ref a1, .ref a2, .int (iI mn), .ref a3, .int (iI wt), .ref a4, .ref a5, .ref a6, .ref v1, .ref v2, .ref v3, .ref v4, .ref v5, .ref v6, .int (iI bn), .int (iI wh), .int (iI dp), .int (iI dg)]))] (fun _ => True) (fun _ => True) (S := Unit) (fun _ => some (.int (iI (if P then (1 : Int) else 0)))) (fun _ => [(mo, .inr (11, [.ref az, .ref ap, .int (iI pm), .ref ak, .int (iI ik), .ref ax, .int (iI ty), .int (iI (if P then 0 else 1)), .ref a1, .ref a2, .int (iI mn), .ref a3, .int (iI wt), .ref a4, .ref a5, .ref a6, .ref v1, .ref v2, .ref v3, .ref v4, .ref v5, .ref v6, .int (iI bn), .int (iI wh), .int (iI dp), .int (iI dg)]))]) (fun _ => True) 0 0 := by
  refine q_ofW (cc := cX11_asks) (maxL := 2) (ret := (some .boolean)) (fun sz h => h.self) (by decide) rfl (Nat.le_of_ble_eq_true rfl) ?_
  intro p e s m args below meth c A ls S0 hr hlocks hnme hK hA hAe hW hD0 hX hl
  have hW : gW g A s.heap s.heap [] [(mo, .inr (11, [.ref az, .ref ap, .int (iI pm), .ref ak, .int (iI ik), .ref ax, .int (iI ty), .int (iI th), .ref a1, .ref a2, .int (iI mn), .ref a3, .int (iI wt), .ref a4, .ref a5, .ref a6, .ref v1, .ref v2, .ref v3, .ref v4, .ref v5, .ref v6, .int (iI bn), .int (iI wh), .int (iI dp), .int (iI dg)]))] := hW
  have hl : lv_has ls 2 [(0, .ref mo), (1, .int (iI (if P then (1 : Int) else 0)))] := hl
  have hinX11 : ∀ w ∈ wsX110, w ∈ wsX11_asks := fun w h => List.mem_cons_of_mem _ (List.mem_append_right _ h)
  refine lv_aload_n S0.1 S0.2.1 dX11_asks_0 rfl (lv_at hl 0 rfl) ?_
  refine lv_iload_n S0.1 S0.2.1 dX11_asks_1 rfl (lv_at hl 1 rfl) ?_
  refine q_if_eqP (tgt := 9) S0 dX11_asks_2 (by decide) (fun c2 => ?_) (fun c2 => ?_)
  · skip
    refine q_iconst S0 dX11_asks_9 ?_
    refine q_put (C := RX11) (T := TX11) (N := 26) S0 hK hW hinX11 tyX11_ok nmX11 0 rfl rfl 7 (by decide) (List.mem_of_getElem? (i := 1) rfl) rfl rfl rfl rfl (Nat.le_of_ble_eq_true rfl) dX11_asks_10 (fun H locs hW => ?_)
    have hW : gW g A s.heap H _ [(mo, .inr (11, [.ref az, .ref ap, .int (iI pm), .ref ak, .int (iI ik), .ref ax, .int (iI ty), .int (iI 1), .ref a1, .ref a2, .int (iI mn), .ref a3, .int (iI wt), .ref a4, .ref a5, .ref a6, .ref v1, .ref v2, .ref v3, .ref v4, .ref v5, .ref v6, .int (iI bn), .int (iI wh), .int (iI dp), .int (iI dg)]))] := hW
    refine lv_iload_n S0.1 S0.2.1 dX11_asks_13 rfl (lv_at hl 1 rfl) ?_
    exact q_zret S0 hr hlocks () (trivial) (by split <;> simp) (by first | (rw [if_pos (by assumption)]; done) | (rw [if_neg (by assumption)]; done)) (hW.sub [0] rfl (by first | (rw [if_pos (by assumption)]; rfl) | (rw [if_neg (by assumption)]; rfl))) (Nat.le_of_ble_eq_true rfl) (Nat.le_of_ble_eq_true rfl) dX11_asks_14
  · skip
    refine q_iconst S0 dX11_asks_5 ?_
    refine lv_goto (tgt := 10) S0.1 S0.2.1 dX11_asks_6 (by decide) ?_
    refine q_put (C := RX11) (T := TX11) (N := 26) S0 hK hW hinX11 tyX11_ok nmX11 0 rfl rfl 7 (by decide) (List.mem_of_getElem? (i := 1) rfl) rfl rfl rfl rfl (Nat.le_of_ble_eq_true rfl) dX11_asks_10 (fun H locs hW => ?_)
    have hW : gW g A s.heap H _ [(mo, .inr (11, [.ref az, .ref ap, .int (iI pm), .ref ak, .int (iI ik), .ref ax, .int (iI ty), .int (iI 0), .ref a1, .ref a2, .int (iI mn), .ref a3, .int (iI wt), .ref a4, .ref a5, .ref a6, .ref v1, .ref v2, .ref v3, .ref v4, .ref v5, .ref v6, .int (iI bn), .int (iI wh), .int (iI dp), .int (iI dg)]))] := hW
    refine lv_iload_n S0.1 S0.2.1 dX11_asks_13 rfl (lv_at hl 1 rfl) ?_
    exact q_zret S0 hr hlocks () (trivial) (by split <;> simp) (by first | (rw [if_pos (by assumption)]; done) | (rw [if_neg (by assumption)]; done)) (hW.sub [0] rfl (by first | (rw [if_pos (by assumption)]; rfl) | (rw [if_neg (by assumption)]; rfl))) (Nat.le_of_ble_eq_true rfl) (Nat.le_of_ble_eq_true rfl) dX11_asks_14
set_option maxHeartbeats 4000000 in
set_option maxRecDepth 100000 in
theorem c_X11_asksThen1 (l : Launch) (g : GG) (mo az ap ak ax a1 a2 a3 a4 a5 a6 v1 v2 v3 v4 v5 v6 : Nat) (pm ik ty th mn wt bn wh dp dg : Int) (P : Prop) [Decidable P] (co : Int) (ht : 0 < th ∧ th ≤ 2) : qMet l yX11_asksThen wsX11_asksThen ({ frames := 0, cells := 0, slots := 0, locals := 0 }) g [.ref mo, .int (iI (if P then (1 : Int) else 0)), .int (iI co)] [(mo, .inr (11, [.ref az, .ref ap, .int (iI pm), .ref ak, .int (iI ik), .ref ax, .int (iI ty), .int (iI th), .ref a1, .ref a2, .int (iI mn), .ref a3, .int (iI wt), .ref a4, .ref a5, .ref a6, .ref v1, .ref v2, .ref v3, .ref v4, .ref v5, .ref v6, .int (iI bn), .int (iI wh), .int (iI dp), .int (iI dg)]))] (fun _ => True) (fun _ => True) (S := Unit) (fun _ => some (.int (iI 0))) (fun _ => [(mo, .inr (11, [.ref az, .ref ap, .int (iI pm), .ref ak, .int (iI ik), .ref ax, .int (iI ty), .int (iI th), .ref a1, .ref a2, .int (iI mn), .ref a3, .int (iI wt), .ref a4, .ref a5, .ref a6, .ref v1, .ref v2, .ref v3, .ref v4, .ref v5, .ref v6, .int (iI bn), .int (iI wh), .int (iI dp), .int (iI dg)]))]) (fun _ => True) 0 0 := by
  refine q_ofW (cc := cX11_asksThen) (maxL := 3) (ret := (some .boolean)) (fun sz h => h.self) (by decide) rfl (Nat.le_of_ble_eq_true rfl) ?_
  intro p e s m args below meth c A ls S0 hr hlocks hnme hK hA hAe hW hD0 hX hl
  have hW : gW g A s.heap s.heap [] [(mo, .inr (11, [.ref az, .ref ap, .int (iI pm), .ref ak, .int (iI ik), .ref ax, .int (iI ty), .int (iI th), .ref a1, .ref a2, .int (iI mn), .ref a3, .int (iI wt), .ref a4, .ref a5, .ref a6, .ref v1, .ref v2, .ref v3, .ref v4, .ref v5, .ref v6, .int (iI bn), .int (iI wh), .int (iI dp), .int (iI dg)]))] := hW
  have hl : lv_has ls 3 [(0, .ref mo), (1, .int (iI (if P then (1 : Int) else 0))), (2, .int (iI co))] := hl
  have hinX11 : ∀ w ∈ wsX110, w ∈ wsX11_asksThen := fun w h => List.mem_cons_of_mem _ (List.mem_append_right _ h)
  refine lv_aload_n S0.1 S0.2.1 dX11_asksThen_0 rfl (lv_at hl 0 rfl) ?_
  refine lv_aload_n S0.1 S0.2.1 dX11_asksThen_1 rfl (lv_at hl 0 rfl) ?_
  refine q_get (C := RX11) (T := TX11) (N := 26) S0 hK hW.1 hinX11 0 rfl rfl 7 (by decide) (List.mem_of_getElem? (i := 1) rfl) rfl rfl dX11_asksThen_2 ?_
  refine q_if_le (tgt := 15) S0 (by omega) dX11_asksThen_5 (by decide) (fun c5 => ?_) (fun c5 => ?_)
  · skip
    exact absurd c5 (by omega)
  · skip
    refine lv_aload_n S0.1 S0.2.1 dX11_asksThen_8 rfl (lv_at hl 0 rfl) ?_
    refine q_get (C := RX11) (T := TX11) (N := 26) S0 hK hW.1 hinX11 0 rfl rfl 7 (by decide) (List.mem_of_getElem? (i := 1) rfl) rfl rfl dX11_asksThen_9 ?_
    refine lv_goto (tgt := 24) S0.1 S0.2.1 dX11_asksThen_12 (by decide) ?_
    refine q_put (C := RX11) (T := TX11) (N := 26) S0 hK hW hinX11 tyX11_ok nmX11 0 rfl rfl 7 (by decide) (List.mem_of_getElem? (i := 1) rfl) rfl rfl rfl rfl (Nat.le_of_ble_eq_true rfl) dX11_asksThen_24 (fun H locs hW => ?_)
    have hW : gW g A s.heap H _ [(mo, .inr (11, [.ref az, .ref ap, .int (iI pm), .ref ak, .int (iI ik), .ref ax, .int (iI ty), .int (iI th), .ref a1, .ref a2, .int (iI mn), .ref a3, .int (iI wt), .ref a4, .ref a5, .ref a6, .ref v1, .ref v2, .ref v3, .ref v4, .ref v5, .ref v6, .int (iI bn), .int (iI wh), .int (iI dp), .int (iI dg)]))] := hW
    refine lv_aload_n S0.1 S0.2.1 dX11_asksThen_27 rfl (lv_at hl 0 rfl) ?_
    refine q_get (C := RX11) (T := TX11) (N := 26) S0 hK hW.1 hinX11 0 rfl rfl 7 (by decide) (List.mem_of_getElem? (i := 1) rfl) rfl rfl dX11_asksThen_28 ?_
    refine q_if_ne (tgt := 38) S0 (by omega) dX11_asksThen_31 (by decide) (fun c31 => ?_) (fun c31 => ?_)
    · skip
      refine q_iconst S0 dX11_asksThen_38 ?_
      exact q_zret S0 hr hlocks () (trivial) (Or.inl rfl) (rfl) (hW.sub [0] rfl (rfl)) (Nat.le_of_ble_eq_true rfl) (Nat.le_of_ble_eq_true rfl) dX11_asksThen_39
    · skip
      exact absurd c31 (by omega)
set_option maxHeartbeats 4000000 in
set_option maxRecDepth 100000 in
theorem c_X11_asksThen0 (l : Launch) (g : GG) (mo az ap ak ax a1 a2 a3 a4 a5 a6 v1 v2 v3 v4 v5 v6 : Nat) (pm ik ty th mn wt bn wh dp dg : Int) (P : Prop) [Decidable P] (co : Int) (ht : th = 0) (hP : P) : qMet l yX11_asksThen wsX11_asksThen ({ frames := 0, cells := 0, slots := 0, locals := 0 }) g [.ref mo, .int (iI (if P then (1 : Int) else 0)), .int (iI co)] [(mo, .inr (11, [.ref az, .ref ap, .int (iI pm), .ref ak, .int (iI ik), .ref ax, .int (iI ty), .int (iI th), .ref a1, .ref a2, .int (iI mn), .ref a3, .int (iI wt), .ref a4, .ref a5, .ref a6, .ref v1, .ref v2, .ref v3, .ref v4, .ref v5, .ref v6, .int (iI bn), .int (iI wh), .int (iI dp), .int (iI dg)]))] (fun _ => True) (fun _ => True) (S := Unit) (fun _ => some (.int (iI 1))) (fun _ => [(mo, .inr (11, [.ref az, .ref ap, .int (iI pm), .ref ak, .int (iI ik), .ref ax, .int (iI ty), .int (iI 0), .ref a1, .ref a2, .int (iI mn), .ref a3, .int (iI wt), .ref a4, .ref a5, .ref a6, .ref v1, .ref v2, .ref v3, .ref v4, .ref v5, .ref v6, .int (iI bn), .int (iI wh), .int (iI dp), .int (iI dg)]))]) (fun _ => True) 0 0 := by
  refine q_ofW (cc := cX11_asksThen) (maxL := 3) (ret := (some .boolean)) (fun sz h => h.self) (by decide) rfl (Nat.le_of_ble_eq_true rfl) ?_
  intro p e s m args below meth c A ls S0 hr hlocks hnme hK hA hAe hW hD0 hX hl
  have hW : gW g A s.heap s.heap [] [(mo, .inr (11, [.ref az, .ref ap, .int (iI pm), .ref ak, .int (iI ik), .ref ax, .int (iI ty), .int (iI th), .ref a1, .ref a2, .int (iI mn), .ref a3, .int (iI wt), .ref a4, .ref a5, .ref a6, .ref v1, .ref v2, .ref v3, .ref v4, .ref v5, .ref v6, .int (iI bn), .int (iI wh), .int (iI dp), .int (iI dg)]))] := hW
  have hl : lv_has ls 3 [(0, .ref mo), (1, .int (iI (if P then (1 : Int) else 0))), (2, .int (iI co))] := hl
  have hinX11 : ∀ w ∈ wsX110, w ∈ wsX11_asksThen := fun w h => List.mem_cons_of_mem _ (List.mem_append_right _ h)
  refine lv_aload_n S0.1 S0.2.1 dX11_asksThen_0 rfl (lv_at hl 0 rfl) ?_
  refine lv_aload_n S0.1 S0.2.1 dX11_asksThen_1 rfl (lv_at hl 0 rfl) ?_
  refine q_get (C := RX11) (T := TX11) (N := 26) S0 hK hW.1 hinX11 0 rfl rfl 7 (by decide) (List.mem_of_getElem? (i := 1) rfl) rfl rfl dX11_asksThen_2 ?_
  refine q_if_le (tgt := 15) S0 (by omega) dX11_asksThen_5 (by decide) (fun c5 => ?_) (fun c5 => ?_)
  · skip
    refine lv_iload_n S0.1 S0.2.1 dX11_asksThen_15 rfl (lv_at hl 1 rfl) ?_
    refine q_if_eqP (tgt := 23) S0 dX11_asksThen_16 (by decide) (fun c16 => ?_) (fun c16 => ?_)
    · skip
      exact absurd hP c16
    · skip
      refine q_iconst S0 dX11_asksThen_19 ?_
      refine lv_goto (tgt := 24) S0.1 S0.2.1 dX11_asksThen_20 (by decide) ?_
      refine q_put (C := RX11) (T := TX11) (N := 26) S0 hK hW hinX11 tyX11_ok nmX11 0 rfl rfl 7 (by decide) (List.mem_of_getElem? (i := 1) rfl) rfl rfl rfl rfl (Nat.le_of_ble_eq_true rfl) dX11_asksThen_24 (fun H locs hW => ?_)
      have hW : gW g A s.heap H _ [(mo, .inr (11, [.ref az, .ref ap, .int (iI pm), .ref ak, .int (iI ik), .ref ax, .int (iI ty), .int (iI 0), .ref a1, .ref a2, .int (iI mn), .ref a3, .int (iI wt), .ref a4, .ref a5, .ref a6, .ref v1, .ref v2, .ref v3, .ref v4, .ref v5, .ref v6, .int (iI bn), .int (iI wh), .int (iI dp), .int (iI dg)]))] := hW
      refine lv_aload_n S0.1 S0.2.1 dX11_asksThen_27 rfl (lv_at hl 0 rfl) ?_
      refine q_get (C := RX11) (T := TX11) (N := 26) S0 hK hW.1 hinX11 0 rfl rfl 7 (by decide) (List.mem_of_getElem? (i := 1) rfl) rfl rfl dX11_asksThen_28 ?_
      refine q_if_ne (tgt := 38) S0 (by omega) dX11_asksThen_31 (by decide) (fun c31 => ?_) (fun c31 => ?_)
      · skip
        exact absurd c31 (by omega)
      · skip
        refine q_iconst S0 dX11_asksThen_34 ?_
        refine lv_goto (tgt := 39) S0.1 S0.2.1 dX11_asksThen_35 (by decide) ?_
        exact q_zret S0 hr hlocks () (trivial) (Or.inr rfl) (rfl) (hW.sub [0] rfl (rfl)) (Nat.le_of_ble_eq_true rfl) (Nat.le_of_ble_eq_true rfl) dX11_asksThen_39
  · skip
    exact absurd c5 (by omega)
set_option maxHeartbeats 4000000 in
set_option maxRecDepth 100000 in
theorem c_X11_asksThen2 (l : Launch) (g : GG) (mo az ap ak ax a1 a2 a3 a4 a5 a6 v1 v2 v3 v4 v5 v6 : Nat) (pm ik ty th mn wt bn wh dp dg : Int) (P : Prop) [Decidable P] (co : Int) (ht : th = 0) (hP : ¬ P) (hc : 0 < co ∧ co ≤ 2) : qMet l yX11_asksThen wsX11_asksThen ({ frames := 0, cells := 0, slots := 0, locals := 0 }) g [.ref mo, .int (iI (if P then (1 : Int) else 0)), .int (iI co)] [(mo, .inr (11, [.ref az, .ref ap, .int (iI pm), .ref ak, .int (iI ik), .ref ax, .int (iI ty), .int (iI th), .ref a1, .ref a2, .int (iI mn), .ref a3, .int (iI wt), .ref a4, .ref a5, .ref a6, .ref v1, .ref v2, .ref v3, .ref v4, .ref v5, .ref v6, .int (iI bn), .int (iI wh), .int (iI dp), .int (iI dg)]))] (fun _ => True) (fun _ => True) (S := Unit) (fun _ => some (.int (iI 0))) (fun _ => [(mo, .inr (11, [.ref az, .ref ap, .int (iI pm), .ref ak, .int (iI ik), .ref ax, .int (iI ty), .int (iI co), .ref a1, .ref a2, .int (iI mn), .ref a3, .int (iI wt), .ref a4, .ref a5, .ref a6, .ref v1, .ref v2, .ref v3, .ref v4, .ref v5, .ref v6, .int (iI bn), .int (iI wh), .int (iI dp), .int (iI dg)]))]) (fun _ => True) 0 0 := by
  refine q_ofW (cc := cX11_asksThen) (maxL := 3) (ret := (some .boolean)) (fun sz h => h.self) (by decide) rfl (Nat.le_of_ble_eq_true rfl) ?_
  intro p e s m args below meth c A ls S0 hr hlocks hnme hK hA hAe hW hD0 hX hl
  have hW : gW g A s.heap s.heap [] [(mo, .inr (11, [.ref az, .ref ap, .int (iI pm), .ref ak, .int (iI ik), .ref ax, .int (iI ty), .int (iI th), .ref a1, .ref a2, .int (iI mn), .ref a3, .int (iI wt), .ref a4, .ref a5, .ref a6, .ref v1, .ref v2, .ref v3, .ref v4, .ref v5, .ref v6, .int (iI bn), .int (iI wh), .int (iI dp), .int (iI dg)]))] := hW
  have hl : lv_has ls 3 [(0, .ref mo), (1, .int (iI (if P then (1 : Int) else 0))), (2, .int (iI co))] := hl
  have hinX11 : ∀ w ∈ wsX110, w ∈ wsX11_asksThen := fun w h => List.mem_cons_of_mem _ (List.mem_append_right _ h)
  refine lv_aload_n S0.1 S0.2.1 dX11_asksThen_0 rfl (lv_at hl 0 rfl) ?_
  refine lv_aload_n S0.1 S0.2.1 dX11_asksThen_1 rfl (lv_at hl 0 rfl) ?_
  refine q_get (C := RX11) (T := TX11) (N := 26) S0 hK hW.1 hinX11 0 rfl rfl 7 (by decide) (List.mem_of_getElem? (i := 1) rfl) rfl rfl dX11_asksThen_2 ?_
  refine q_if_le (tgt := 15) S0 (by omega) dX11_asksThen_5 (by decide) (fun c5 => ?_) (fun c5 => ?_)
  · skip
    refine lv_iload_n S0.1 S0.2.1 dX11_asksThen_15 rfl (lv_at hl 1 rfl) ?_
    refine q_if_eqP (tgt := 23) S0 dX11_asksThen_16 (by decide) (fun c16 => ?_) (fun c16 => ?_)
    · skip
      refine lv_iload_n S0.1 S0.2.1 dX11_asksThen_23 rfl (lv_at hl 2 rfl) ?_
      refine q_put (C := RX11) (T := TX11) (N := 26) S0 hK hW hinX11 tyX11_ok nmX11 0 rfl rfl 7 (by decide) (List.mem_of_getElem? (i := 1) rfl) rfl rfl rfl rfl (Nat.le_of_ble_eq_true rfl) dX11_asksThen_24 (fun H locs hW => ?_)
      have hW : gW g A s.heap H _ [(mo, .inr (11, [.ref az, .ref ap, .int (iI pm), .ref ak, .int (iI ik), .ref ax, .int (iI ty), .int (iI co), .ref a1, .ref a2, .int (iI mn), .ref a3, .int (iI wt), .ref a4, .ref a5, .ref a6, .ref v1, .ref v2, .ref v3, .ref v4, .ref v5, .ref v6, .int (iI bn), .int (iI wh), .int (iI dp), .int (iI dg)]))] := hW
      refine lv_aload_n S0.1 S0.2.1 dX11_asksThen_27 rfl (lv_at hl 0 rfl) ?_
      refine q_get (C := RX11) (T := TX11) (N := 26) S0 hK hW.1 hinX11 0 rfl rfl 7 (by decide) (List.mem_of_getElem? (i := 1) rfl) rfl rfl dX11_asksThen_28 ?_
      refine q_if_ne (tgt := 38) S0 (by omega) dX11_asksThen_31 (by decide) (fun c31 => ?_) (fun c31 => ?_)
      · skip
        refine q_iconst S0 dX11_asksThen_38 ?_
        exact q_zret S0 hr hlocks () (trivial) (Or.inl rfl) (rfl) (hW.sub [0] rfl (rfl)) (Nat.le_of_ble_eq_true rfl) (Nat.le_of_ble_eq_true rfl) dX11_asksThen_39
      · skip
        exact absurd c31 (by omega)
    · skip
      exact absurd c16 hP
  · skip
    exact absurd c5 (by omega)
set_option maxHeartbeats 4000000 in
set_option maxRecDepth 100000 in
theorem c_X11_says (l : Launch) (g : GG) (mo az ap ak ax a1 a2 a3 a4 a5 a6 v1 v2 v3 v4 v5 v6 : Nat) (pm ik ty th mn wt bn wh dp dg : Int) (v : Int) : qMet l yX11_says wsX11_says ({ frames := 0, cells := 0, slots := 0, locals := 0 }) g [.ref mo, .int (iI v)] [(mo, .inr (11, [.ref az, .ref ap, .int (iI pm), .ref ak, .int (iI ik), .ref ax, .int (iI ty), .int (iI th), .ref a1, .ref a2, .int (iI mn), .ref a3, .int (iI wt), .ref a4, .ref a5, .ref a6, .ref v1, .ref v2, .ref v3, .ref v4, .ref v5, .ref v6, .int (iI bn), .int (iI wh), .int (iI dp), .int (iI dg)]))] (fun _ => True) (fun _ => True) (S := Unit) (fun _ => some (.int (iI v))) (fun _ => [(mo, .inr (11, [.ref az, .ref ap, .int (iI pm), .ref ak, .int (iI ik), .ref ax, .int (iI ty), .int (iI 0), .ref a1, .ref a2, .int (iI mn), .ref a3, .int (iI wt), .ref a4, .ref a5, .ref a6, .ref v1, .ref v2, .ref v3, .ref v4, .ref v5, .ref v6, .int (iI bn), .int (iI wh), .int (iI dp), .int (iI dg)]))]) (fun _ => True) 0 0 := by
  refine q_ofW (cc := cX11_says) (maxL := 2) (ret := (some .int)) (fun sz h => h.self) (by decide) rfl (Nat.le_of_ble_eq_true rfl) ?_
  intro p e s m args below meth c A ls S0 hr hlocks hnme hK hA hAe hW hD0 hX hl
  have hW : gW g A s.heap s.heap [] [(mo, .inr (11, [.ref az, .ref ap, .int (iI pm), .ref ak, .int (iI ik), .ref ax, .int (iI ty), .int (iI th), .ref a1, .ref a2, .int (iI mn), .ref a3, .int (iI wt), .ref a4, .ref a5, .ref a6, .ref v1, .ref v2, .ref v3, .ref v4, .ref v5, .ref v6, .int (iI bn), .int (iI wh), .int (iI dp), .int (iI dg)]))] := hW
  have hl : lv_has ls 2 [(0, .ref mo), (1, .int (iI v))] := hl
  have hinX11 : ∀ w ∈ wsX110, w ∈ wsX11_says := fun w h => List.mem_cons_of_mem _ (List.mem_append_right _ h)
  refine lv_aload_n S0.1 S0.2.1 dX11_says_0 rfl (lv_at hl 0 rfl) ?_
  refine q_iconst S0 dX11_says_1 ?_
  refine q_put (C := RX11) (T := TX11) (N := 26) S0 hK hW hinX11 tyX11_ok nmX11 0 rfl rfl 7 (by decide) (List.mem_of_getElem? (i := 1) rfl) rfl rfl rfl rfl (Nat.le_of_ble_eq_true rfl) dX11_says_2 (fun H locs hW => ?_)
  have hW : gW g A s.heap H _ [(mo, .inr (11, [.ref az, .ref ap, .int (iI pm), .ref ak, .int (iI ik), .ref ax, .int (iI ty), .int (iI 0), .ref a1, .ref a2, .int (iI mn), .ref a3, .int (iI wt), .ref a4, .ref a5, .ref a6, .ref v1, .ref v2, .ref v3, .ref v4, .ref v5, .ref v6, .int (iI bn), .int (iI wh), .int (iI dp), .int (iI dg)]))] := hW
  refine lv_iload_n S0.1 S0.2.1 dX11_says_5 rfl (lv_at hl 1 rfl) ?_
  exact q_iret S0 hr hlocks () (trivial) (rfl) (hW.sub [0] rfl (rfl)) (Nat.le_of_ble_eq_true rfl) (Nat.le_of_ble_eq_true rfl) dX11_says_6
set_option maxHeartbeats 4000000 in
set_option maxRecDepth 100000 in
theorem c_X11_size (l : Launch) (g : GG) (mo az ap ak ax a1 a2 a3 a4 a5 a6 v1 v2 v3 v4 v5 v6 : Nat) (pm ik ty th mn wt bn wh dp dg : Int) (Z : Nat → Int) (u : Int) (hu : 0 ≤ u ∧ u < 4) : qPure l yX11_size wsX11_size ({ frames := 0, cells := 0, slots := 0, locals := 0 }) g [.ref mo, .int (iI u)] [(mo, .inr (11, [.ref az, .ref ap, .int (iI pm), .ref ak, .int (iI ik), .ref ax, .int (iI ty), .int (iI th), .ref a1, .ref a2, .int (iI mn), .ref a3, .int (iI wt), .ref a4, .ref a5, .ref a6, .ref v1, .ref v2, .ref v3, .ref v4, .ref v5, .ref v6, .int (iI bn), .int (iI wh), .int (iI dp), .int (iI dg)])), (az, gI g 325 Z)] (fun _ => True) (some (.int (iI (Z (1 + 81 * u).toNat)))) := by
  refine q_ofP (cc := cX11_size) (maxL := 2) (ret := (some .int)) (by decide) rfl (Nat.le_of_ble_eq_true rfl) ?_
  intro p e s m args below meth c ls S0 hr hlocks hK hP hX hl
  have hP : va_P g.1 vwCl [(mo, .inr (11, [.ref az, .ref ap, .int (iI pm), .ref ak, .int (iI ik), .ref ax, .int (iI ty), .int (iI th), .ref a1, .ref a2, .int (iI mn), .ref a3, .int (iI wt), .ref a4, .ref a5, .ref a6, .ref v1, .ref v2, .ref v3, .ref v4, .ref v5, .ref v6, .int (iI bn), .int (iI wh), .int (iI dp), .int (iI dg)])), (az, gI g 325 Z)] s.heap := hP
  have hl : lv_has ls 2 [(0, .ref mo), (1, .int (iI u))] := hl
  have hinX11 : ∀ w ∈ wsX110, w ∈ wsX11_size := fun w h => List.mem_cons_of_mem _ (List.mem_append_right _ h)
  refine lv_aload_n S0.1 S0.2.1 dX11_size_0 rfl (lv_at hl 0 rfl) ?_
  refine q_get (C := RX11) (T := TX11) (N := 26) S0 hK hP hinX11 0 rfl rfl 0 (by decide) (List.mem_of_getElem? (i := 1) rfl) rfl rfl dX11_size_1 ?_
  refine q_iconst S0 dX11_size_4 ?_
  refine q_bipush S0 (by decide) dX11_size_5 ?_
  refine lv_iload_n S0.1 S0.2.1 dX11_size_7 rfl (lv_at hl 1 rfl) ?_
  refine q_imul S0 dX11_size_8 ?_
  refine q_iadd S0 dX11_size_9 ?_
  refine q_iald S0 hK hP 1 rfl (by omega) dX11_size_10 ?_
  exact qp_iret S0 hr hlocks (rfl) dX11_size_11
set_option maxHeartbeats 4000000 in
set_option maxRecDepth 100000 in
theorem c_X11_kind (l : Launch) (g : GG) (mo az ap ak ax a1 a2 a3 a4 a5 a6 v1 v2 v3 v4 v5 v6 : Nat) (pm ik ty th mn wt bn wh dp dg : Int) (Z : Nat → Int) (u k : Int) (hu : 0 ≤ u ∧ u < 4) (hk : 0 ≤ k ∧ k < 40) : qPure l yX11_kind wsX11_kind ({ frames := 0, cells := 0, slots := 0, locals := 0 }) g [.ref mo, .int (iI u), .int (iI k)] [(mo, .inr (11, [.ref az, .ref ap, .int (iI pm), .ref ak, .int (iI ik), .ref ax, .int (iI ty), .int (iI th), .ref a1, .ref a2, .int (iI mn), .ref a3, .int (iI wt), .ref a4, .ref a5, .ref a6, .ref v1, .ref v2, .ref v3, .ref v4, .ref v5, .ref v6, .int (iI bn), .int (iI wh), .int (iI dp), .int (iI dg)])), (az, gI g 325 Z)] (fun _ => True) (some (.int (iI (Z (2 + 81 * u + 2 * k).toNat)))) := by
  refine q_ofP (cc := cX11_kind) (maxL := 3) (ret := (some .int)) (by decide) rfl (Nat.le_of_ble_eq_true rfl) ?_
  intro p e s m args below meth c ls S0 hr hlocks hK hP hX hl
  have hP : va_P g.1 vwCl [(mo, .inr (11, [.ref az, .ref ap, .int (iI pm), .ref ak, .int (iI ik), .ref ax, .int (iI ty), .int (iI th), .ref a1, .ref a2, .int (iI mn), .ref a3, .int (iI wt), .ref a4, .ref a5, .ref a6, .ref v1, .ref v2, .ref v3, .ref v4, .ref v5, .ref v6, .int (iI bn), .int (iI wh), .int (iI dp), .int (iI dg)])), (az, gI g 325 Z)] s.heap := hP
  have hl : lv_has ls 3 [(0, .ref mo), (1, .int (iI u)), (2, .int (iI k))] := hl
  have hinX11 : ∀ w ∈ wsX110, w ∈ wsX11_kind := fun w h => List.mem_cons_of_mem _ (List.mem_append_right _ h)
  refine lv_aload_n S0.1 S0.2.1 dX11_kind_0 rfl (lv_at hl 0 rfl) ?_
  refine q_get (C := RX11) (T := TX11) (N := 26) S0 hK hP hinX11 0 rfl rfl 0 (by decide) (List.mem_of_getElem? (i := 1) rfl) rfl rfl dX11_kind_1 ?_
  refine q_iconst S0 dX11_kind_4 ?_
  refine q_bipush S0 (by decide) dX11_kind_5 ?_
  refine lv_iload_n S0.1 S0.2.1 dX11_kind_7 rfl (lv_at hl 1 rfl) ?_
  refine q_imul S0 dX11_kind_8 ?_
  refine q_iadd S0 dX11_kind_9 ?_
  refine q_iconst S0 dX11_kind_10 ?_
  refine lv_iload_n S0.1 S0.2.1 dX11_kind_11 rfl (lv_at hl 2 rfl) ?_
  refine q_imul S0 dX11_kind_12 ?_
  refine q_iadd S0 dX11_kind_13 ?_
  refine q_iald S0 hK hP 1 rfl (by omega) dX11_kind_14 ?_
  exact qp_iret S0 hr hlocks (rfl) dX11_kind_15
set_option maxHeartbeats 4000000 in
set_option maxRecDepth 100000 in
theorem c_X11_number (l : Launch) (g : GG) (mo az ap ak ax a1 a2 a3 a4 a5 a6 v1 v2 v3 v4 v5 v6 : Nat) (pm ik ty th mn wt bn wh dp dg : Int) (Z : Nat → Int) (u k : Int) (hu : 0 ≤ u ∧ u < 4) (hk : 0 ≤ k ∧ k < 40) : qPure l yX11_number wsX11_number ({ frames := 0, cells := 0, slots := 0, locals := 0 }) g [.ref mo, .int (iI u), .int (iI k)] [(mo, .inr (11, [.ref az, .ref ap, .int (iI pm), .ref ak, .int (iI ik), .ref ax, .int (iI ty), .int (iI th), .ref a1, .ref a2, .int (iI mn), .ref a3, .int (iI wt), .ref a4, .ref a5, .ref a6, .ref v1, .ref v2, .ref v3, .ref v4, .ref v5, .ref v6, .int (iI bn), .int (iI wh), .int (iI dp), .int (iI dg)])), (az, gI g 325 Z)] (fun _ => True) (some (.int (iI (Z (3 + 81 * u + 2 * k).toNat)))) := by
  refine q_ofP (cc := cX11_number) (maxL := 3) (ret := (some .int)) (by decide) rfl (Nat.le_of_ble_eq_true rfl) ?_
  intro p e s m args below meth c ls S0 hr hlocks hK hP hX hl
  have hP : va_P g.1 vwCl [(mo, .inr (11, [.ref az, .ref ap, .int (iI pm), .ref ak, .int (iI ik), .ref ax, .int (iI ty), .int (iI th), .ref a1, .ref a2, .int (iI mn), .ref a3, .int (iI wt), .ref a4, .ref a5, .ref a6, .ref v1, .ref v2, .ref v3, .ref v4, .ref v5, .ref v6, .int (iI bn), .int (iI wh), .int (iI dp), .int (iI dg)])), (az, gI g 325 Z)] s.heap := hP
  have hl : lv_has ls 3 [(0, .ref mo), (1, .int (iI u)), (2, .int (iI k))] := hl
  have hinX11 : ∀ w ∈ wsX110, w ∈ wsX11_number := fun w h => List.mem_cons_of_mem _ (List.mem_append_right _ h)
  refine lv_aload_n S0.1 S0.2.1 dX11_number_0 rfl (lv_at hl 0 rfl) ?_
  refine q_get (C := RX11) (T := TX11) (N := 26) S0 hK hP hinX11 0 rfl rfl 0 (by decide) (List.mem_of_getElem? (i := 1) rfl) rfl rfl dX11_number_1 ?_
  refine q_iconst S0 dX11_number_4 ?_
  refine q_bipush S0 (by decide) dX11_number_5 ?_
  refine lv_iload_n S0.1 S0.2.1 dX11_number_7 rfl (lv_at hl 1 rfl) ?_
  refine q_imul S0 dX11_number_8 ?_
  refine q_iadd S0 dX11_number_9 ?_
  refine q_iconst S0 dX11_number_10 ?_
  refine lv_iload_n S0.1 S0.2.1 dX11_number_11 rfl (lv_at hl 2 rfl) ?_
  refine q_imul S0 dX11_number_12 ?_
  refine q_iadd S0 dX11_number_13 ?_
  refine q_iald S0 hK hP 1 rfl (by omega) dX11_number_14 ?_
  exact qp_iret S0 hr hlocks (rfl) dX11_number_15
set_option maxHeartbeats 4000000 in
set_option maxRecDepth 100000 in
theorem c_X11_function (l : Launch) (g : GG) (x : Int) (hx : -2147483648 ≤ x ∧ x < 2147483648) : qPure l yX11_function wsX11_function ({ frames := 0, cells := 0, slots := 0, locals := 0 }) g [.int (iI x)] [] (fun _ => True) (some (.int (iI (fnO x)))) := by
  refine q_ofP (cc := cX11_function) (maxL := 1) (ret := (some .int)) (by decide) rfl (Nat.le_of_ble_eq_true rfl) ?_
  intro p e s m args below meth c ls S0 hr hlocks hK hP hX hl
  have hP : va_P g.1 vwCl [] s.heap := hP
  have hl : lv_has ls 1 [(0, .int (iI x))] := hl
  refine lv_iload_n S0.1 S0.2.1 dX11_function_0 rfl (lv_at hl 0 rfl) ?_
  refine q_bipush S0 (by decide) dX11_function_1 ?_
  refine q_icmp_ne (tgt := 10) S0 (by omega) dX11_function_3 (by decide) (fun c3 => ?_) (fun c3 => ?_)
  · skip
    refine lv_iload_n S0.1 S0.2.1 dX11_function_10 rfl (lv_at hl 0 rfl) ?_
    refine q_bipush S0 (by decide) dX11_function_11 ?_
    refine q_icmp_ne (tgt := 20) S0 (by omega) dX11_function_13 (by decide) (fun c13 => ?_) (fun c13 => ?_)
    · skip
      refine lv_iload_n S0.1 S0.2.1 dX11_function_20 rfl (lv_at hl 0 rfl) ?_
      refine q_bipush S0 (by decide) dX11_function_21 ?_
      refine q_icmp_ne (tgt := 30) S0 (by omega) dX11_function_23 (by decide) (fun c23 => ?_) (fun c23 => ?_)
      · skip
        refine lv_iload_n S0.1 S0.2.1 dX11_function_30 rfl (lv_at hl 0 rfl) ?_
        refine q_bipush S0 (by decide) dX11_function_31 ?_
        refine q_icmp_ne (tgt := 40) S0 (by omega) dX11_function_33 (by decide) (fun c33 => ?_) (fun c33 => ?_)
        · skip
          refine q_iconst S0 dX11_function_40 ?_
          exact qp_iret S0 hr hlocks (by simp only [fnO]; (repeat (first | rw [if_pos (by omega)] | rw [if_neg (by omega)])); done) dX11_function_41
        · skip
          refine q_iconst S0 dX11_function_36 ?_
          refine lv_goto (tgt := 41) S0.1 S0.2.1 dX11_function_37 (by decide) ?_
          exact qp_iret S0 hr hlocks (by simp only [fnO]; (repeat (first | rw [if_pos (by omega)] | rw [if_neg (by omega)])); done) dX11_function_41
      · skip
        refine q_iconst S0 dX11_function_26 ?_
        refine lv_goto (tgt := 41) S0.1 S0.2.1 dX11_function_27 (by decide) ?_
        exact qp_iret S0 hr hlocks (by simp only [fnO]; (repeat (first | rw [if_pos (by omega)] | rw [if_neg (by omega)])); done) dX11_function_41
    · skip
      refine q_iconst S0 dX11_function_16 ?_
      refine lv_goto (tgt := 41) S0.1 S0.2.1 dX11_function_17 (by decide) ?_
      exact qp_iret S0 hr hlocks (by simp only [fnO]; (repeat (first | rw [if_pos (by omega)] | rw [if_neg (by omega)])); done) dX11_function_41
  · skip
    refine q_iconst S0 dX11_function_6 ?_
    refine lv_goto (tgt := 41) S0.1 S0.2.1 dX11_function_7 (by decide) ?_
    exact qp_iret S0 hr hlocks (by simp only [fnO]; (repeat (first | rw [if_pos (by omega)] | rw [if_neg (by omega)])); done) dX11_function_41
set_option maxHeartbeats 4000000 in
set_option maxRecDepth 100000 in
theorem c_X11_isFunction (l : Launch) (g : GG) (u : Int) (hu : -2147483648 ≤ u ∧ u < 2147483648) : qPure l yX11_isFunction wsX11_isFunction ({ frames := 1, cells := 0, slots := 0, locals := 22 }) g [.int (iI u)] [] (fun _ => True) (some (.int (iI (if 0 ≤ u ∧ u ≤ 3 then (1 : Int) else 0)))) := by
  refine q_ofP (cc := cX11_isFunction) (maxL := 1) (ret := (some .boolean)) (by decide) rfl (Nat.le_of_ble_eq_true rfl) ?_
  intro p e s m args below meth c ls S0 hr hlocks hK hP hX hl
  have hP : va_P g.1 vwCl [] s.heap := hP
  have hl : lv_has ls 1 [(0, .int (iI u))] := hl
  refine lv_iload_n S0.1 S0.2.1 dX11_isFunction_0 rfl (lv_at hl 0 rfl) ?_
  refine q_iconst S0 dX11_isFunction_1 ?_
  refine q_iconst S0 dX11_isFunction_2 ?_
  refine q_pS (n := 3) (rest := []) S0 hK (c_X11_in l g u 0 3 (by omega) (by omega) (by omega)) (subP hP [] rfl) (trivial) gX11_isFunction_X11_in rfl rfl rfl (by decide +kernel) ⟨Nat.le_of_ble_eq_true rfl, Nat.le_of_ble_eq_true rfl⟩ rfl rfl hl.1 (Nat.le_of_ble_eq_true rfl) ⟨Nat.le_of_ble_eq_true rfl, Nat.le_of_ble_eq_true rfl⟩ dX11_isFunction_3 ?_
  refine W.eq (g2 := F0 m 6 ls [.int (iI (if 0 ≤ u ∧ u ≤ 3 then (1 : Int) else 0))]) rfl ?_
  exact qp_zret S0 hr hlocks (by split <;> simp) (rfl) dX11_isFunction_6
set_option maxHeartbeats 4000000 in
set_option maxRecDepth 100000 in
theorem c_X11_node (l : Launch) (g : GG) (mo az ap ak ax a1 a2 a3 a4 a5 a6 v1 v2 v3 v4 v5 v6 : Nat) (pm ik ty th bn : Int) (N : NT) (k u : Int) (hn : 0 ≤ nN N ∧ nN N ≤ 40) : qMet l yX11_node wsX11_node ({ frames := 0, cells := 0, slots := 0, locals := 0 }) g [.ref mo, .int (iI k), .int (iI u)] [(mo, .inr (11, [.ref az, .ref ap, .int (iI pm), .ref ak, .int (iI ik), .ref ax, .int (iI ty), .int (iI th), .ref a1, .ref a2, .int (iI (nN N)), .ref a3, .int (iI (nP N)), .ref a4, .ref a5, .ref a6, .ref v1, .ref v2, .ref v3, .ref v4, .ref v5, .ref v6, .int (iI bn), .int (iI (nWh N)), .int (iI (nD N)), .int (iI (nG N))])), (a1, gI g 41 (nK N)), (a2, gI g 41 (nU N))] (fun _ => True) (fun _ => True) (S := Unit) (fun _ => none) (fun _ => [(mo, .inr (11, [.ref az, .ref ap, .int (iI pm), .ref ak, .int (iI ik), .ref ax, .int (iI ty), .int (iI th), .ref a1, .ref a2, .int (iI (nN (mNode N k u))), .ref a3, .int (iI (nP (mNode N k u))), .ref a4, .ref a5, .ref a6, .ref v1, .ref v2, .ref v3, .ref v4, .ref v5, .ref v6, .int (iI bn), .int (iI (nWh (mNode N k u))), .int (iI (nD (mNode N k u))), .int (iI (nG (mNode N k u)))])), (a1, gI g 41 (nK (mNode N k u))), (a2, gI g 41 (nU (mNode N k u)))]) (fun _ => True) 0 0 := by
  refine q_ofW (cc := cX11_node) (maxL := 3) (ret := none) (fun sz h => h.self) (by decide) rfl (Nat.le_of_ble_eq_true rfl) ?_
  intro p e s m args below meth c A ls S0 hr hlocks hnme hK hA hAe hW hD0 hX hl
  have hW : gW g A s.heap s.heap [] [(mo, .inr (11, [.ref az, .ref ap, .int (iI pm), .ref ak, .int (iI ik), .ref ax, .int (iI ty), .int (iI th), .ref a1, .ref a2, .int (iI (nN N)), .ref a3, .int (iI (nP N)), .ref a4, .ref a5, .ref a6, .ref v1, .ref v2, .ref v3, .ref v4, .ref v5, .ref v6, .int (iI bn), .int (iI (nWh N)), .int (iI (nD N)), .int (iI (nG N))])), (a1, gI g 41 (nK N)), (a2, gI g 41 (nU N))] := hW
  have hl : lv_has ls 3 [(0, .ref mo), (1, .int (iI k)), (2, .int (iI u))] := hl
  have hinX11 : ∀ w ∈ wsX110, w ∈ wsX11_node := fun w h => List.mem_cons_of_mem _ (List.mem_append_right _ h)
  refine lv_aload_n S0.1 S0.2.1 dX11_node_0 rfl (lv_at hl 0 rfl) ?_
  refine q_get (C := RX11) (T := TX11) (N := 26) S0 hK hW.1 hinX11 0 rfl rfl 8 (by decide) (List.mem_of_getElem? (i := 1) rfl) rfl rfl dX11_node_1 ?_
  refine lv_aload_n S0.1 S0.2.1 dX11_node_4 rfl (lv_at hl 0 rfl) ?_
  refine q_get (C := RX11) (T := TX11) (N := 26) S0 hK hW.1 hinX11 0 rfl rfl 10 (by decide) (List.mem_of_getElem? (i := 2) rfl) rfl rfl dX11_node_5 ?_
  refine lv_iload_n S0.1 S0.2.1 dX11_node_8 rfl (lv_at hl 1 rfl) ?_
  refine q_iast S0 hK hW 1 rfl (by omega) dX11_node_9 (fun H locs hW => ?_)
  have hW : gW g A s.heap H _ [(mo, .inr (11, [.ref az, .ref ap, .int (iI pm), .ref ak, .int (iI ik), .ref ax, .int (iI ty), .int (iI th), .ref a1, .ref a2, .int (iI (nN N)), .ref a3, .int (iI (nP N)), .ref a4, .ref a5, .ref a6, .ref v1, .ref v2, .ref v3, .ref v4, .ref v5, .ref v6, .int (iI bn), .int (iI (nWh N)), .int (iI (nD N)), .int (iI (nG N))])), (a1, gI g 41 (up (nK N) ((nN N).toNat) k)), (a2, gI g 41 (nU N))] := hW
  refine lv_aload_n S0.1 S0.2.1 dX11_node_10 rfl (lv_at hl 0 rfl) ?_
  refine q_get (C := RX11) (T := TX11) (N := 26) S0 hK hW.1 hinX11 0 rfl rfl 9 (by decide) (List.mem_of_getElem? (i := 3) rfl) rfl rfl dX11_node_11 ?_
  refine lv_aload_n S0.1 S0.2.1 dX11_node_14 rfl (lv_at hl 0 rfl) ?_
  refine q_get (C := RX11) (T := TX11) (N := 26) S0 hK hW.1 hinX11 0 rfl rfl 10 (by decide) (List.mem_of_getElem? (i := 2) rfl) rfl rfl dX11_node_15 ?_
  refine lv_iload_n S0.1 S0.2.1 dX11_node_18 rfl (lv_at hl 2 rfl) ?_
  refine q_iast S0 hK hW 2 rfl (by omega) dX11_node_19 (fun H locs hW => ?_)
  have hW : gW g A s.heap H _ [(mo, .inr (11, [.ref az, .ref ap, .int (iI pm), .ref ak, .int (iI ik), .ref ax, .int (iI ty), .int (iI th), .ref a1, .ref a2, .int (iI (nN N)), .ref a3, .int (iI (nP N)), .ref a4, .ref a5, .ref a6, .ref v1, .ref v2, .ref v3, .ref v4, .ref v5, .ref v6, .int (iI bn), .int (iI (nWh N)), .int (iI (nD N)), .int (iI (nG N))])), (a1, gI g 41 (up (nK N) ((nN N).toNat) k)), (a2, gI g 41 (up (nU N) ((nN N).toNat) u))] := hW
  refine lv_aload_n S0.1 S0.2.1 dX11_node_20 rfl (lv_at hl 0 rfl) ?_
  refine lv_dup S0.1 S0.2.1 dX11_node_21 rfl ?_
  refine q_get (C := RX11) (T := TX11) (N := 26) S0 hK hW.1 hinX11 0 rfl rfl 10 (by decide) (List.mem_of_getElem? (i := 2) rfl) rfl rfl dX11_node_22 ?_
  refine q_iconst S0 dX11_node_25 ?_
  refine q_iadd S0 dX11_node_26 ?_
  refine q_put (C := RX11) (T := TX11) (N := 26) S0 hK hW hinX11 tyX11_ok nmX11 0 rfl rfl 10 (by decide) (List.mem_of_getElem? (i := 2) rfl) rfl rfl rfl rfl (Nat.le_of_ble_eq_true rfl) dX11_node_27 (fun H locs hW => ?_)
  have hW : gW g A s.heap H _ [(mo, .inr (11, [.ref az, .ref ap, .int (iI pm), .ref ak, .int (iI ik), .ref ax, .int (iI ty), .int (iI th), .ref a1, .ref a2, .int (iI ((nN N) + 1)), .ref a3, .int (iI (nP N)), .ref a4, .ref a5, .ref a6, .ref v1, .ref v2, .ref v3, .ref v4, .ref v5, .ref v6, .int (iI bn), .int (iI (nWh N)), .int (iI (nD N)), .int (iI (nG N))])), (a1, gI g 41 (up (nK N) ((nN N).toNat) k)), (a2, gI g 41 (up (nU N) ((nN N).toNat) u))] := hW
  exact q_vret S0 hr hlocks () (trivial) rfl (hW.sub [0, 1, 2] rfl (rfl)) (Nat.le_of_ble_eq_true rfl) (Nat.le_of_ble_eq_true rfl) dX11_node_30
set_option maxHeartbeats 4000000 in
set_option maxRecDepth 100000 in
theorem c_X11_waitsFor (l : Launch) (g : GG) (mo az ap ak ax a1 a2 a3 a4 a5 a6 v1 v2 v3 v4 v5 v6 : Nat) (pm ik ty th bn : Int) (N : NT) (k u : Int) (hn : 0 ≤ nP N ∧ nP N ≤ 44) : qMet l yX11_waitsFor wsX11_waitsFor ({ frames := 0, cells := 0, slots := 0, locals := 0 }) g [.ref mo, .int (iI k), .int (iI u)] [(mo, .inr (11, [.ref az, .ref ap, .int (iI pm), .ref ak, .int (iI ik), .ref ax, .int (iI ty), .int (iI th), .ref a1, .ref a2, .int (iI (nN N)), .ref a3, .int (iI (nP N)), .ref a4, .ref a5, .ref a6, .ref v1, .ref v2, .ref v3, .ref v4, .ref v5, .ref v6, .int (iI bn), .int (iI (nWh N)), .int (iI (nD N)), .int (iI (nG N))])), (a3, gI g 90 (nQ N))] (fun _ => True) (fun _ => True) (S := Unit) (fun _ => none) (fun _ => [(mo, .inr (11, [.ref az, .ref ap, .int (iI pm), .ref ak, .int (iI ik), .ref ax, .int (iI ty), .int (iI th), .ref a1, .ref a2, .int (iI (nN (mWait N k u))), .ref a3, .int (iI (nP (mWait N k u))), .ref a4, .ref a5, .ref a6, .ref v1, .ref v2, .ref v3, .ref v4, .ref v5, .ref v6, .int (iI bn), .int (iI (nWh (mWait N k u))), .int (iI (nD (mWait N k u))), .int (iI (nG (mWait N k u)))])), (a3, gI g 90 (nQ (mWait N k u)))]) (fun _ => True) 0 0 := by
  refine q_ofW (cc := cX11_waitsFor) (maxL := 3) (ret := none) (fun sz h => h.self) (by decide) rfl (Nat.le_of_ble_eq_true rfl) ?_
  intro p e s m args below meth c A ls S0 hr hlocks hnme hK hA hAe hW hD0 hX hl
  have hW : gW g A s.heap s.heap [] [(mo, .inr (11, [.ref az, .ref ap, .int (iI pm), .ref ak, .int (iI ik), .ref ax, .int (iI ty), .int (iI th), .ref a1, .ref a2, .int (iI (nN N)), .ref a3, .int (iI (nP N)), .ref a4, .ref a5, .ref a6, .ref v1, .ref v2, .ref v3, .ref v4, .ref v5, .ref v6, .int (iI bn), .int (iI (nWh N)), .int (iI (nD N)), .int (iI (nG N))])), (a3, gI g 90 (nQ N))] := hW
  have hl : lv_has ls 3 [(0, .ref mo), (1, .int (iI k)), (2, .int (iI u))] := hl
  have hinX11 : ∀ w ∈ wsX110, w ∈ wsX11_waitsFor := fun w h => List.mem_cons_of_mem _ (List.mem_append_right _ h)
  refine lv_aload_n S0.1 S0.2.1 dX11_waitsFor_0 rfl (lv_at hl 0 rfl) ?_
  refine q_get (C := RX11) (T := TX11) (N := 26) S0 hK hW.1 hinX11 0 rfl rfl 11 (by decide) (List.mem_of_getElem? (i := 1) rfl) rfl rfl dX11_waitsFor_1 ?_
  refine q_iconst S0 dX11_waitsFor_4 ?_
  refine lv_aload_n S0.1 S0.2.1 dX11_waitsFor_5 rfl (lv_at hl 0 rfl) ?_
  refine q_get (C := RX11) (T := TX11) (N := 26) S0 hK hW.1 hinX11 0 rfl rfl 12 (by decide) (List.mem_of_getElem? (i := 2) rfl) rfl rfl dX11_waitsFor_6 ?_
  refine q_imul S0 dX11_waitsFor_9 ?_
  refine lv_iload_n S0.1 S0.2.1 dX11_waitsFor_10 rfl (lv_at hl 1 rfl) ?_
  refine q_iast S0 hK hW 1 rfl (by omega) dX11_waitsFor_11 (fun H locs hW => ?_)
  have hW : gW g A s.heap H _ [(mo, .inr (11, [.ref az, .ref ap, .int (iI pm), .ref ak, .int (iI ik), .ref ax, .int (iI ty), .int (iI th), .ref a1, .ref a2, .int (iI (nN N)), .ref a3, .int (iI (nP N)), .ref a4, .ref a5, .ref a6, .ref v1, .ref v2, .ref v3, .ref v4, .ref v5, .ref v6, .int (iI bn), .int (iI (nWh N)), .int (iI (nD N)), .int (iI (nG N))])), (a3, gI g 90 (up (nQ N) ((2 * (nP N)).toNat) k))] := hW
  refine lv_aload_n S0.1 S0.2.1 dX11_waitsFor_12 rfl (lv_at hl 0 rfl) ?_
  refine q_get (C := RX11) (T := TX11) (N := 26) S0 hK hW.1 hinX11 0 rfl rfl 11 (by decide) (List.mem_of_getElem? (i := 1) rfl) rfl rfl dX11_waitsFor_13 ?_
  refine q_iconst S0 dX11_waitsFor_16 ?_
  refine lv_aload_n S0.1 S0.2.1 dX11_waitsFor_17 rfl (lv_at hl 0 rfl) ?_
  refine q_get (C := RX11) (T := TX11) (N := 26) S0 hK hW.1 hinX11 0 rfl rfl 12 (by decide) (List.mem_of_getElem? (i := 2) rfl) rfl rfl dX11_waitsFor_18 ?_
  refine q_imul S0 dX11_waitsFor_21 ?_
  refine q_iconst S0 dX11_waitsFor_22 ?_
  refine q_iadd S0 dX11_waitsFor_23 ?_
  refine lv_iload_n S0.1 S0.2.1 dX11_waitsFor_24 rfl (lv_at hl 2 rfl) ?_
  refine q_iast S0 hK hW 1 rfl (by omega) dX11_waitsFor_25 (fun H locs hW => ?_)
  have hW : gW g A s.heap H _ [(mo, .inr (11, [.ref az, .ref ap, .int (iI pm), .ref ak, .int (iI ik), .ref ax, .int (iI ty), .int (iI th), .ref a1, .ref a2, .int (iI (nN N)), .ref a3, .int (iI (nP N)), .ref a4, .ref a5, .ref a6, .ref v1, .ref v2, .ref v3, .ref v4, .ref v5, .ref v6, .int (iI bn), .int (iI (nWh N)), .int (iI (nD N)), .int (iI (nG N))])), (a3, gI g 90 (up (up (nQ N) ((2 * (nP N)).toNat) k) (((2 * (nP N)) + 1).toNat) u))] := hW
  refine lv_aload_n S0.1 S0.2.1 dX11_waitsFor_26 rfl (lv_at hl 0 rfl) ?_
  refine lv_dup S0.1 S0.2.1 dX11_waitsFor_27 rfl ?_
  refine q_get (C := RX11) (T := TX11) (N := 26) S0 hK hW.1 hinX11 0 rfl rfl 12 (by decide) (List.mem_of_getElem? (i := 2) rfl) rfl rfl dX11_waitsFor_28 ?_
  refine q_iconst S0 dX11_waitsFor_31 ?_
  refine q_iadd S0 dX11_waitsFor_32 ?_
  refine q_put (C := RX11) (T := TX11) (N := 26) S0 hK hW hinX11 tyX11_ok nmX11 0 rfl rfl 12 (by decide) (List.mem_of_getElem? (i := 2) rfl) rfl rfl rfl rfl (Nat.le_of_ble_eq_true rfl) dX11_waitsFor_33 (fun H locs hW => ?_)
  have hW : gW g A s.heap H _ [(mo, .inr (11, [.ref az, .ref ap, .int (iI pm), .ref ak, .int (iI ik), .ref ax, .int (iI ty), .int (iI th), .ref a1, .ref a2, .int (iI (nN N)), .ref a3, .int (iI ((nP N) + 1)), .ref a4, .ref a5, .ref a6, .ref v1, .ref v2, .ref v3, .ref v4, .ref v5, .ref v6, .int (iI bn), .int (iI (nWh N)), .int (iI (nD N)), .int (iI (nG N))])), (a3, gI g 90 (up (up (nQ N) ((2 * (nP N)).toNat) k) (((2 * (nP N)) + 1).toNat) u))] := hW
  exact q_vret S0 hr hlocks () (trivial) rfl (hW.sub [0, 1] rfl (rfl)) (Nat.le_of_ble_eq_true rfl) (Nat.le_of_ble_eq_true rfl) dX11_waitsFor_36
set_option maxHeartbeats 4000000 in
set_option maxRecDepth 100000 in
theorem c_X11_last (l : Launch) (g : GG) (mo az ap ak ax a1 a2 a3 a4 a5 a6 v1 v2 v3 v4 v5 v6 : Nat) (pm ik ty th bn : Int) (N : NT) (hn : 0 ≤ nP N ∧ nP N ≤ 45) : qPure l yX11_last wsX11_last ({ frames := 0, cells := 0, slots := 0, locals := 0 }) g [.ref mo] [(mo, .inr (11, [.ref az, .ref ap, .int (iI pm), .ref ak, .int (iI ik), .ref ax, .int (iI ty), .int (iI th), .ref a1, .ref a2, .int (iI (nN N)), .ref a3, .int (iI (nP N)), .ref a4, .ref a5, .ref a6, .ref v1, .ref v2, .ref v3, .ref v4, .ref v5, .ref v6, .int (iI bn), .int (iI (nWh N)), .int (iI (nD N)), .int (iI (nG N))])), (a3, gI g 90 (nQ N))] (fun _ => True) (some (.int (iI (mLast N)))) := by
  refine q_ofP (cc := cX11_last) (maxL := 1) (ret := (some .int)) (by decide) rfl (Nat.le_of_ble_eq_true rfl) ?_
  intro p e s m args below meth c ls S0 hr hlocks hK hP hX hl
  have hP : va_P g.1 vwCl [(mo, .inr (11, [.ref az, .ref ap, .int (iI pm), .ref ak, .int (iI ik), .ref ax, .int (iI ty), .int (iI th), .ref a1, .ref a2, .int (iI (nN N)), .ref a3, .int (iI (nP N)), .ref a4, .ref a5, .ref a6, .ref v1, .ref v2, .ref v3, .ref v4, .ref v5, .ref v6, .int (iI bn), .int (iI (nWh N)), .int (iI (nD N)), .int (iI (nG N))])), (a3, gI g 90 (nQ N))] s.heap := hP
  have hl : lv_has ls 1 [(0, .ref mo)] := hl
  have hinX11 : ∀ w ∈ wsX110, w ∈ wsX11_last := fun w h => List.mem_cons_of_mem _ (List.mem_append_right _ h)
  refine lv_aload_n S0.1 S0.2.1 dX11_last_0 rfl (lv_at hl 0 rfl) ?_
  refine q_get (C := RX11) (T := TX11) (N := 26) S0 hK hP hinX11 0 rfl rfl 12 (by decide) (List.mem_of_getElem? (i := 1) rfl) rfl rfl dX11_last_1 ?_
  refine q_if_ne (tgt := 11) S0 (by omega) dX11_last_4 (by decide) (fun c4 => ?_) (fun c4 => ?_)
  · skip
    refine lv_aload_n S0.1 S0.2.1 dX11_last_11 rfl (lv_at hl 0 rfl) ?_
    refine q_get (C := RX11) (T := TX11) (N := 26) S0 hK hP hinX11 0 rfl rfl 11 (by decide) (List.mem_of_getElem? (i := 2) rfl) rfl rfl dX11_last_12 ?_
    refine q_iconst S0 dX11_last_15 ?_
    refine lv_aload_n S0.1 S0.2.1 dX11_last_16 rfl (lv_at hl 0 rfl) ?_
    refine q_get (C := RX11) (T := TX11) (N := 26) S0 hK hP hinX11 0 rfl rfl 12 (by decide) (List.mem_of_getElem? (i := 1) rfl) rfl rfl dX11_last_17 ?_
    refine q_imul S0 dX11_last_20 ?_
    refine q_iconst S0 dX11_last_21 ?_
    refine q_isub S0 dX11_last_22 ?_
    refine q_iald S0 hK hP 1 rfl (by omega) dX11_last_23 ?_
    exact qp_iret S0 hr hlocks (by unfold mLast; first | (rw [if_pos (by omega)]; done) | (rw [if_neg (by omega)]; done)) dX11_last_24
  · skip
    refine q_iconst S0 dX11_last_7 ?_
    refine lv_goto (tgt := 24) S0.1 S0.2.1 dX11_last_8 (by decide) ?_
    exact qp_iret S0 hr hlocks (by unfold mLast; first | (rw [if_pos (by omega)]; done) | (rw [if_neg (by omega)]; done)) dX11_last_24
set_option maxHeartbeats 4000000 in
set_option maxRecDepth 100000 in
theorem c_X11_comes (l : Launch) (g : GG) (mo az ap ak ax a1 a2 a3 a4 a5 a6 v1 v2 v3 v4 v5 v6 : Nat) (pm ik ty th bn : Int) (N : NT) (hn : 0 ≤ nN N ∧ nN N ≤ 40) (hp : 0 < nP N ∧ nP N ≤ 45) : qMet l yX11_comes wsX11_comes ({ frames := 1, cells := 0, slots := 0, locals := 22 }) g [.ref mo] [(mo, .inr (11, [.ref az, .ref ap, .int (iI pm), .ref ak, .int (iI ik), .ref ax, .int (iI ty), .int (iI th), .ref a1, .ref a2, .int (iI (nN N)), .ref a3, .int (iI (nP N)), .ref a4, .ref a5, .ref a6, .ref v1, .ref v2, .ref v3, .ref v4, .ref v5, .ref v6, .int (iI bn), .int (iI (nWh N)), .int (iI (nD N)), .int (iI (nG N))])), (a1, gI g 41 (nK N)), (a2, gI g 41 (nU N)), (a3, gI g 90 (nQ N))] (fun _ => True) (fun _ => True) (S := Unit) (fun _ => none) (fun _ => [(mo, .inr (11, [.ref az, .ref ap, .int (iI pm), .ref ak, .int (iI ik), .ref ax, .int (iI ty), .int (iI th), .ref a1, .ref a2, .int (iI (nN (mCome N))), .ref a3, .int (iI (nP (mCome N))), .ref a4, .ref a5, .ref a6, .ref v1, .ref v2, .ref v3, .ref v4, .ref v5, .ref v6, .int (iI bn), .int (iI (nWh (mCome N))), .int (iI (nD (mCome N))), .int (iI (nG (mCome N)))])), (a1, gI g 41 (nK (mCome N))), (a2, gI g 41 (nU (mCome N))), (a3, gI g 90 (nQ (mCome N)))]) (fun _ => True) 0 0 := by
  refine q_ofW (cc := cX11_comes) (maxL := 1) (ret := none) (fun sz h => h.self) (by decide) rfl (Nat.le_of_ble_eq_true rfl) ?_
  intro p e s m args below meth c A ls S0 hr hlocks hnme hK hA hAe hW hD0 hX hl
  have hW : gW g A s.heap s.heap [] [(mo, .inr (11, [.ref az, .ref ap, .int (iI pm), .ref ak, .int (iI ik), .ref ax, .int (iI ty), .int (iI th), .ref a1, .ref a2, .int (iI (nN N)), .ref a3, .int (iI (nP N)), .ref a4, .ref a5, .ref a6, .ref v1, .ref v2, .ref v3, .ref v4, .ref v5, .ref v6, .int (iI bn), .int (iI (nWh N)), .int (iI (nD N)), .int (iI (nG N))])), (a1, gI g 41 (nK N)), (a2, gI g 41 (nU N)), (a3, gI g 90 (nQ N))] := hW
  have hl : lv_has ls 1 [(0, .ref mo)] := hl
  have hinX11 : ∀ w ∈ wsX110, w ∈ wsX11_comes := fun w h => List.mem_cons_of_mem _ (List.mem_append_right _ h)
  refine lv_aload_n S0.1 S0.2.1 dX11_comes_0 rfl (lv_at hl 0 rfl) ?_
  refine lv_dup S0.1 S0.2.1 dX11_comes_1 rfl ?_
  refine q_get (C := RX11) (T := TX11) (N := 26) S0 hK hW.1 hinX11 0 rfl rfl 12 (by decide) (List.mem_of_getElem? (i := 1) rfl) rfl rfl dX11_comes_2 ?_
  refine q_iconst S0 dX11_comes_5 ?_
  refine q_isub S0 dX11_comes_6 ?_
  refine q_put (C := RX11) (T := TX11) (N := 26) S0 hK hW hinX11 tyX11_ok nmX11 0 rfl rfl 12 (by decide) (List.mem_of_getElem? (i := 1) rfl) rfl rfl rfl rfl (Nat.le_of_ble_eq_true rfl) dX11_comes_7 (fun H locs hW => ?_)
  have hW : gW g A s.heap H _ [(mo, .inr (11, [.ref az, .ref ap, .int (iI pm), .ref ak, .int (iI ik), .ref ax, .int (iI ty), .int (iI th), .ref a1, .ref a2, .int (iI (nN N)), .ref a3, .int (iI ((nP N) - 1)), .ref a4, .ref a5, .ref a6, .ref v1, .ref v2, .ref v3, .ref v4, .ref v5, .ref v6, .int (iI bn), .int (iI (nWh N)), .int (iI (nD N)), .int (iI (nG N))])), (a1, gI g 41 (nK N)), (a2, gI g 41 (nU N)), (a3, gI g 90 (nQ N))] := hW
  refine lv_aload_n S0.1 S0.2.1 dX11_comes_10 rfl (lv_at hl 0 rfl) ?_
  refine lv_aload_n S0.1 S0.2.1 dX11_comes_11 rfl (lv_at hl 0 rfl) ?_
  refine q_get (C := RX11) (T := TX11) (N := 26) S0 hK hW.1 hinX11 0 rfl rfl 11 (by decide) (List.mem_of_getElem? (i := 2) rfl) rfl rfl dX11_comes_12 ?_
  refine q_iconst S0 dX11_comes_15 ?_
  refine lv_aload_n S0.1 S0.2.1 dX11_comes_16 rfl (lv_at hl 0 rfl) ?_
  refine q_get (C := RX11) (T := TX11) (N := 26) S0 hK hW.1 hinX11 0 rfl rfl 12 (by decide) (List.mem_of_getElem? (i := 1) rfl) rfl rfl dX11_comes_17 ?_
  refine q_imul S0 dX11_comes_20 ?_
  refine q_iald S0 hK hW.1 3 rfl (by omega) dX11_comes_21 ?_
  refine lv_aload_n S0.1 S0.2.1 dX11_comes_22 rfl (lv_at hl 0 rfl) ?_
  refine q_get (C := RX11) (T := TX11) (N := 26) S0 hK hW.1 hinX11 0 rfl rfl 11 (by decide) (List.mem_of_getElem? (i := 2) rfl) rfl rfl dX11_comes_23 ?_
  refine q_iconst S0 dX11_comes_26 ?_
  refine lv_aload_n S0.1 S0.2.1 dX11_comes_27 rfl (lv_at hl 0 rfl) ?_
  refine q_get (C := RX11) (T := TX11) (N := 26) S0 hK hW.1 hinX11 0 rfl rfl 12 (by decide) (List.mem_of_getElem? (i := 1) rfl) rfl rfl dX11_comes_28 ?_
  refine q_imul S0 dX11_comes_31 ?_
  refine q_iconst S0 dX11_comes_32 ?_
  refine q_iadd S0 dX11_comes_33 ?_
  refine q_iald S0 hK hW.1 3 rfl (by omega) dX11_comes_34 ?_
  refine q_cV (n := 2) (rest := []) (wr := [(a3, gI g 90 (nQ N))]) S0 hK hA hW (c_X11_node l g mo az ap ak ax a1 a2 a3 a4 a5 a6 v1 v2 v3 v4 v5 v6 pm ik ty th bn (mDrop N) ((nQ N) (2 * ((nP N) - 1)).toNat) ((nQ N) ((2 * ((nP N) - 1)) + 1).toNat) (by show 0 ≤ nN N ∧ nN N ≤ 40; omega)) gX11_comes_X11_node rfl rfl rfl (by decide +kernel) ⟨Nat.le_of_ble_eq_true rfl, Nat.le_of_ble_eq_true rfl⟩ [0, 1, 2] [3] rfl rfl rfl rfl (by decide) (q_recv hK hW.1 (ci := 11) (q0 := 0) rfl rfl) (fun _ _ => trivial) (trivial) rfl rfl hl.1 (Nat.le_of_ble_eq_true rfl) ⟨Nat.le_of_ble_eq_true rfl, Nat.le_of_ble_eq_true rfl⟩ dX11_comes_35 (fun _ H locs _ hW => ?_)
  have hW : gW g A s.heap H _ [(a3, gI g 90 (nQ N)), (mo, .inr (11, [.ref az, .ref ap, .int (iI pm), .ref ak, .int (iI ik), .ref ax, .int (iI ty), .int (iI th), .ref a1, .ref a2, .int (iI (nN (mNode (mDrop N) ((nQ N) (2 * ((nP N) - 1)).toNat) ((nQ N) ((2 * ((nP N) - 1)) + 1).toNat)))), .ref a3, .int (iI (nP (mNode (mDrop N) ((nQ N) (2 * ((nP N) - 1)).toNat) ((nQ N) ((2 * ((nP N) - 1)) + 1).toNat)))), .ref a4, .ref a5, .ref a6, .ref v1, .ref v2, .ref v3, .ref v4, .ref v5, .ref v6, .int (iI bn), .int (iI (nWh (mNode (mDrop N) ((nQ N) (2 * ((nP N) - 1)).toNat) ((nQ N) ((2 * ((nP N) - 1)) + 1).toNat)))), .int (iI (nD (mNode (mDrop N) ((nQ N) (2 * ((nP N) - 1)).toNat) ((nQ N) ((2 * ((nP N) - 1)) + 1).toNat)))), .int (iI (nG (mNode (mDrop N) ((nQ N) (2 * ((nP N) - 1)).toNat) ((nQ N) ((2 * ((nP N) - 1)) + 1).toNat))))])), (a1, gI g 41 (nK (mNode (mDrop N) ((nQ N) (2 * ((nP N) - 1)).toNat) ((nQ N) ((2 * ((nP N) - 1)) + 1).toNat)))), (a2, gI g 41 (nU (mNode (mDrop N) ((nQ N) (2 * ((nP N) - 1)).toNat) ((nQ N) ((2 * ((nP N) - 1)) + 1).toNat))))] := hW
  refine W.eq (g2 := F0 m 38 ls []) rfl ?_
  exact q_vret S0 hr hlocks () (trivial) rfl (hW.sub [1, 2, 3, 0] rfl (rfl)) (Nat.le_of_ble_eq_true rfl) (Nat.le_of_ble_eq_true rfl) dX11_comes_38
set_option maxHeartbeats 4000000 in
set_option maxRecDepth 100000 in
theorem c_X11_atom (l : Launch) (g : GG) (mo az ap ak ax a1 a2 a3 a4 a5 a6 v1 v2 v3 v4 v5 v6 : Nat) (pm ik ty th bn : Int) (N : NT) (i : Int) (hR : RN i N) (hq : ∀ j, -2147483648 ≤ nQ N j ∧ nQ N j < 2147483648) : qMet l yX11_atom wsX11_atom ({ frames := 2, cells := 0, slots := 0, locals := 42 }) g [.ref mo] [(mo, .inr (11, [.ref az, .ref ap, .int (iI pm), .ref ak, .int (iI ik), .ref ax, .int (iI ty), .int (iI th), .ref a1, .ref a2, .int (iI (nN N)), .ref a3, .int (iI (nP N)), .ref a4, .ref a5, .ref a6, .ref v1, .ref v2, .ref v3, .ref v4, .ref v5, .ref v6, .int (iI bn), .int (iI (nWh N)), .int (iI (nD N)), .int (iI (nG N))])), (a1, gI g 41 (nK N)), (a2, gI g 41 (nU N)), (a3, gI g 90 (nQ N))] (fun _ => True) (fun _ => True) (S := Unit) (fun _ => none) (fun _ => [(mo, .inr (11, [.ref az, .ref ap, .int (iI pm), .ref ak, .int (iI ik), .ref ax, .int (iI ty), .int (iI th), .ref a1, .ref a2, .int (iI (nN (mAtom N))), .ref a3, .int (iI (nP (mAtom N))), .ref a4, .ref a5, .ref a6, .ref v1, .ref v2, .ref v3, .ref v4, .ref v5, .ref v6, .int (iI bn), .int (iI (nWh (mAtom N))), .int (iI (nD (mAtom N))), .int (iI (nG (mAtom N)))])), (a1, gI g 41 (nK (mAtom N))), (a2, gI g 41 (nU (mAtom N))), (a3, gI g 90 (nQ (mAtom N)))]) (fun _ => True) 0 0 := by
  refine q_ofW (cc := cX11_atom) (maxL := 1) (ret := none) (fun sz h => h.self) (by decide) rfl (Nat.le_of_ble_eq_true rfl) ?_
  intro p e s m args below meth c A ls S0 hr hlocks hnme hK hA hAe hW hD0 hX hl
  have hW : gW g A s.heap s.heap [] [(mo, .inr (11, [.ref az, .ref ap, .int (iI pm), .ref ak, .int (iI ik), .ref ax, .int (iI ty), .int (iI th), .ref a1, .ref a2, .int (iI (nN N)), .ref a3, .int (iI (nP N)), .ref a4, .ref a5, .ref a6, .ref v1, .ref v2, .ref v3, .ref v4, .ref v5, .ref v6, .int (iI bn), .int (iI (nWh N)), .int (iI (nD N)), .int (iI (nG N))])), (a1, gI g 41 (nK N)), (a2, gI g 41 (nU N)), (a3, gI g 90 (nQ N))] := hW
  have hl : lv_has ls 1 [(0, .ref mo)] := hl
  refine q_loop (α := NT) (fun (N1 : NT) => RN i N1 ∧ nQ N1 = nQ N ∧ mAtm (nP N1).toNat N1 = mAtom N) (fun (N1 : NT) => (nP N1).toNat) (fun (N1 : NT) => [(mo, .inr (11, [.ref az, .ref ap, .int (iI pm), .ref ak, .int (iI ik), .ref ax, .int (iI ty), .int (iI th), .ref a1, .ref a2, .int (iI (nN N1)), .ref a3, .int (iI (nP N1)), .ref a4, .ref a5, .ref a6, .ref v1, .ref v2, .ref v3, .ref v4, .ref v5, .ref v6, .int (iI bn), .int (iI (nWh N1)), .int (iI (nD N1)), .int (iI (nG N1))])), (a1, gI g 41 (nK N1)), (a2, gI g 41 (nU N1)), (a3, gI g 90 (nQ N1))]) (fun (N1 : NT) => [(0, .ref mo)]) ?_ N (by exact ⟨hR, rfl, rfl⟩) hW (lv_sub hl [0] rfl)
  rintro N1 hinv IHl H locs ls hW hl
  try dsimp only at hinv
  have hW : gW g A s.heap H _ [(mo, .inr (11, [.ref az, .ref ap, .int (iI pm), .ref ak, .int (iI ik), .ref ax, .int (iI ty), .int (iI th), .ref a1, .ref a2, .int (iI (nN N1)), .ref a3, .int (iI (nP N1)), .ref a4, .ref a5, .ref a6, .ref v1, .ref v2, .ref v3, .ref v4, .ref v5, .ref v6, .int (iI bn), .int (iI (nWh N1)), .int (iI (nD N1)), .int (iI (nG N1))])), (a1, gI g 41 (nK N1)), (a2, gI g 41 (nU N1)), (a3, gI g 90 (nQ N1))] := hW
  have hl : lv_has ls 1 [(0, .ref mo)] := hl
  obtain ⟨hR1, hQ1, heq⟩ := hinv
  have hR2 := hR1
  unfold RN at hR2
  have hlq := mLast_rng (N := N1) (fun j => by rw [hQ1]; exact hq j)
  refine lv_aload_n S0.1 S0.2.1 dX11_atom_0 rfl (lv_at hl 0 rfl) ?_
  refine q_pV (n := 0) (rest := []) S0 hK (c_X11_last l g mo az ap ak ax a1 a2 a3 a4 a5 a6 v1 v2 v3 v4 v5 v6 pm ik ty th bn N1 (by omega)) (subP hW.1 [0, 3] rfl) (trivial) gX11_atom_X11_last rfl rfl rfl (by decide +kernel) ⟨Nat.le_of_ble_eq_true rfl, Nat.le_of_ble_eq_true rfl⟩ (q_recv hK hW.1 (ci := 11) (q0 := 0) rfl rfl) rfl rfl hl.1 (Nat.le_of_ble_eq_true rfl) ⟨Nat.le_of_ble_eq_true rfl, Nat.le_of_ble_eq_true rfl⟩ dX11_atom_1 ?_
  refine W.eq (g2 := F0 m 4 ls [.int (iI (mLast N1))]) rfl ?_
  refine q_iconst S0 dX11_atom_4 ?_
  refine q_icmp_ne (tgt := 15) S0 (by omega) dX11_atom_5 (by decide) (fun c5 => ?_) (fun c5 => ?_)
  · skip
    have hfin : N1 = mAtom N := by rw [← heq, mAtm_stop c5]
    subst hfin
    exact q_vret S0 hr hlocks () (trivial) rfl (hW.sub [0, 1, 2, 3] rfl (rfl)) (Nat.le_of_ble_eq_true rfl) (Nat.le_of_ble_eq_true rfl) dX11_atom_15
  · skip
    have hp1 := mLast_pos (N := N1) (by omega)
    refine lv_aload_n S0.1 S0.2.1 dX11_atom_8 rfl (lv_at hl 0 rfl) ?_
    refine q_cV (n := 0) (rest := []) (wr := []) S0 hK hA hW (c_X11_comes l g mo az ap ak ax a1 a2 a3 a4 a5 a6 v1 v2 v3 v4 v5 v6 pm ik ty th bn N1 (by omega) (by omega)) gX11_atom_X11_comes rfl rfl rfl (by decide +kernel) ⟨Nat.le_of_ble_eq_true rfl, Nat.le_of_ble_eq_true rfl⟩ [0, 1, 2, 3] [] rfl rfl rfl rfl (by decide) (q_recv hK hW.1 (ci := 11) (q0 := 0) rfl rfl) (fun _ _ => trivial) (trivial) rfl rfl hl.1 (Nat.le_of_ble_eq_true rfl) ⟨Nat.le_of_ble_eq_true rfl, Nat.le_of_ble_eq_true rfl⟩ dX11_atom_9 (fun _ H locs _ hW => ?_)
    have hW : gW g A s.heap H _ [(mo, .inr (11, [.ref az, .ref ap, .int (iI pm), .ref ak, .int (iI ik), .ref ax, .int (iI ty), .int (iI th), .ref a1, .ref a2, .int (iI (nN (mCome N1))), .ref a3, .int (iI (nP (mCome N1))), .ref a4, .ref a5, .ref a6, .ref v1, .ref v2, .ref v3, .ref v4, .ref v5, .ref v6, .int (iI bn), .int (iI (nWh (mCome N1))), .int (iI (nD (mCome N1))), .int (iI (nG (mCome N1)))])), (a1, gI g 41 (nK (mCome N1))), (a2, gI g 41 (nU (mCome N1))), (a3, gI g 90 (nQ (mCome N1)))] := hW
    refine W.eq (g2 := F0 m 12 ls []) rfl ?_
    refine lv_goto (tgt := 0) S0.1 S0.2.1 dX11_atom_12 (by decide) ?_
    exact IHl (mCome N1) H locs ls (by refine ⟨RN_come hR1 (by omega), hQ1, ?_⟩; rw [← heq, show (nP N1).toNat = (nP N1 - 1).toNat + 1 by omega, mAtm_step c5]; rfl) (by show (nP N1 - 1).toNat < (nP N1).toNat; omega) hW (lv_sub hl [0] rfl)
set_option maxHeartbeats 4000000 in
set_option maxRecDepth 100000 in
theorem c_X11_binds (l : Launch) (g : GG) (mo az ap ak ax a1 a2 a3 a4 a5 a6 v1 v2 v3 v4 v5 v6 : Nat) (pm ik ty th bn : Int) (N : NT) (i t : Int) (hR : RN i N) (hq : ∀ j, -2147483648 ≤ nQ N j ∧ nQ N j < 2147483648) (ht : t = 0 ∨ t = 1) : qMet l yX11_binds wsX11_binds ({ frames := 2, cells := 0, slots := 0, locals := 42 }) g [.ref mo, .int (iI t)] [(mo, .inr (11, [.ref az, .ref ap, .int (iI pm), .ref ak, .int (iI ik), .ref ax, .int (iI ty), .int (iI th), .ref a1, .ref a2, .int (iI (nN N)), .ref a3, .int (iI (nP N)), .ref a4, .ref a5, .ref a6, .ref v1, .ref v2, .ref v3, .ref v4, .ref v5, .ref v6, .int (iI bn), .int (iI (nWh N)), .int (iI (nD N)), .int (iI (nG N))])), (a1, gI g 41 (nK N)), (a2, gI g 41 (nU N)), (a3, gI g 90 (nQ N))] (fun _ => True) (fun _ => True) (S := Unit) (fun _ => none) (fun _ => [(mo, .inr (11, [.ref az, .ref ap, .int (iI pm), .ref ak, .int (iI ik), .ref ax, .int (iI ty), .int (iI th), .ref a1, .ref a2, .int (iI (nN (mBinds t N))), .ref a3, .int (iI (nP (mBinds t N))), .ref a4, .ref a5, .ref a6, .ref v1, .ref v2, .ref v3, .ref v4, .ref v5, .ref v6, .int (iI bn), .int (iI (nWh (mBinds t N))), .int (iI (nD (mBinds t N))), .int (iI (nG (mBinds t N)))])), (a1, gI g 41 (nK (mBinds t N))), (a2, gI g 41 (nU (mBinds t N))), (a3, gI g 90 (nQ (mBinds t N)))]) (fun _ => True) 0 0 := by
  refine q_ofW (cc := cX11_binds) (maxL := 2) (ret := none) (fun sz h => h.self) (by decide) rfl (Nat.le_of_ble_eq_true rfl) ?_
  intro p e s m args below meth c A ls S0 hr hlocks hnme hK hA hAe hW hD0 hX hl
  have hW : gW g A s.heap s.heap [] [(mo, .inr (11, [.ref az, .ref ap, .int (iI pm), .ref ak, .int (iI ik), .ref ax, .int (iI ty), .int (iI th), .ref a1, .ref a2, .int (iI (nN N)), .ref a3, .int (iI (nP N)), .ref a4, .ref a5, .ref a6, .ref v1, .ref v2, .ref v3, .ref v4, .ref v5, .ref v6, .int (iI bn), .int (iI (nWh N)), .int (iI (nD N)), .int (iI (nG N))])), (a1, gI g 41 (nK N)), (a2, gI g 41 (nU N)), (a3, gI g 90 (nQ N))] := hW
  have hl : lv_has ls 2 [(0, .ref mo), (1, .int (iI t))] := hl
  refine q_loop (α := NT) (fun (N1 : NT) => RN i N1 ∧ nQ N1 = nQ N ∧ mBnd t (nP N1).toNat N1 = mBinds t N) (fun (N1 : NT) => (nP N1).toNat) (fun (N1 : NT) => [(mo, .inr (11, [.ref az, .ref ap, .int (iI pm), .ref ak, .int (iI ik), .ref ax, .int (iI ty), .int (iI th), .ref a1, .ref a2, .int (iI (nN N1)), .ref a3, .int (iI (nP N1)), .ref a4, .ref a5, .ref a6, .ref v1, .ref v2, .ref v3, .ref v4, .ref v5, .ref v6, .int (iI bn), .int (iI (nWh N1)), .int (iI (nD N1)), .int (iI (nG N1))])), (a1, gI g 41 (nK N1)), (a2, gI g 41 (nU N1)), (a3, gI g 90 (nQ N1))]) (fun (N1 : NT) => [(0, .ref mo), (1, .int (iI t))]) ?_ N (by exact ⟨hR, rfl, rfl⟩) hW (lv_sub hl [0, 1] rfl)
  rintro N1 hinv IHl H locs ls hW hl
  try dsimp only at hinv
  have hW : gW g A s.heap H _ [(mo, .inr (11, [.ref az, .ref ap, .int (iI pm), .ref ak, .int (iI ik), .ref ax, .int (iI ty), .int (iI th), .ref a1, .ref a2, .int (iI (nN N1)), .ref a3, .int (iI (nP N1)), .ref a4, .ref a5, .ref a6, .ref v1, .ref v2, .ref v3, .ref v4, .ref v5, .ref v6, .int (iI bn), .int (iI (nWh N1)), .int (iI (nD N1)), .int (iI (nG N1))])), (a1, gI g 41 (nK N1)), (a2, gI g 41 (nU N1)), (a3, gI g 90 (nQ N1))] := hW
  have hl : lv_has ls 2 [(0, .ref mo), (1, .int (iI t))] := hl
  obtain ⟨hR1, hQ1, heq⟩ := hinv
  have hR2 := hR1
  unfold RN at hR2
  have hlq := mLast_rng (N := N1) (fun j => by rw [hQ1]; exact hq j)
  refine lv_aload_n S0.1 S0.2.1 dX11_binds_0 rfl (lv_at hl 0 rfl) ?_
  refine q_pV (n := 0) (rest := []) S0 hK (c_X11_last l g mo az ap ak ax a1 a2 a3 a4 a5 a6 v1 v2 v3 v4 v5 v6 pm ik ty th bn N1 (by omega)) (subP hW.1 [0, 3] rfl) (trivial) gX11_binds_X11_last rfl rfl rfl (by decide +kernel) ⟨Nat.le_of_ble_eq_true rfl, Nat.le_of_ble_eq_true rfl⟩ (q_recv hK hW.1 (ci := 11) (q0 := 0) rfl rfl) rfl rfl hl.1 (Nat.le_of_ble_eq_true rfl) ⟨Nat.le_of_ble_eq_true rfl, Nat.le_of_ble_eq_true rfl⟩ dX11_binds_1 ?_
  refine W.eq (g2 := F0 m 4 ls [.int (iI (mLast N1))]) rfl ?_
  refine q_iconst S0 dX11_binds_4 ?_
  refine q_icmp_eq (tgt := 37) S0 (by omega) dX11_binds_5 (by decide) (fun c5 => ?_) (fun c5 => ?_)
  · skip
    refine lv_aload_n S0.1 S0.2.1 dX11_binds_37 rfl (lv_at hl 0 rfl) ?_
    have hp1 := mLast_pos (N := N1) (by omega)
    refine q_cV (n := 0) (rest := []) (wr := []) S0 hK hA hW (c_X11_comes l g mo az ap ak ax a1 a2 a3 a4 a5 a6 v1 v2 v3 v4 v5 v6 pm ik ty th bn N1 (by omega) (by omega)) gX11_binds_X11_comes rfl rfl rfl (by decide +kernel) ⟨Nat.le_of_ble_eq_true rfl, Nat.le_of_ble_eq_true rfl⟩ [0, 1, 2, 3] [] rfl rfl rfl rfl (by decide) (q_recv hK hW.1 (ci := 11) (q0 := 0) rfl rfl) (fun _ _ => trivial) (trivial) rfl rfl hl.1 (Nat.le_of_ble_eq_true rfl) ⟨Nat.le_of_ble_eq_true rfl, Nat.le_of_ble_eq_true rfl⟩ dX11_binds_38 (fun _ H locs _ hW => ?_)
    have hW : gW g A s.heap H _ [(mo, .inr (11, [.ref az, .ref ap, .int (iI pm), .ref ak, .int (iI ik), .ref ax, .int (iI ty), .int (iI th), .ref a1, .ref a2, .int (iI (nN (mCome N1))), .ref a3, .int (iI (nP (mCome N1))), .ref a4, .ref a5, .ref a6, .ref v1, .ref v2, .ref v3, .ref v4, .ref v5, .ref v6, .int (iI bn), .int (iI (nWh (mCome N1))), .int (iI (nD (mCome N1))), .int (iI (nG (mCome N1)))])), (a1, gI g 41 (nK (mCome N1))), (a2, gI g 41 (nU (mCome N1))), (a3, gI g 90 (nQ (mCome N1)))] := hW
    refine W.eq (g2 := F0 m 41 ls []) rfl ?_
    refine lv_goto (tgt := 0) S0.1 S0.2.1 dX11_binds_41 (by decide) ?_
    exact IHl (mCome N1) H locs ls (by refine ⟨RN_come hR1 (by omega), hQ1, ?_⟩; rw [← heq, show (nP N1).toNat = (nP N1 - 1).toNat + 1 by omega, mBnd_step (by unfold bnds; omega)]; rfl) (by show (nP N1 - 1).toNat < (nP N1).toNat; omega) hW (lv_sub hl [0, 1] rfl)
  · skip
    refine lv_aload_n S0.1 S0.2.1 dX11_binds_8 rfl (lv_at hl 0 rfl) ?_
    refine q_pV (n := 0) (rest := []) S0 hK (c_X11_last l g mo az ap ak ax a1 a2 a3 a4 a5 a6 v1 v2 v3 v4 v5 v6 pm ik ty th bn N1 (by omega)) (subP hW.1 [0, 3] rfl) (trivial) gX11_binds_X11_last rfl rfl rfl (by decide +kernel) ⟨Nat.le_of_ble_eq_true rfl, Nat.le_of_ble_eq_true rfl⟩ (q_recv hK hW.1 (ci := 11) (q0 := 0) rfl rfl) rfl rfl hl.1 (Nat.le_of_ble_eq_true rfl) ⟨Nat.le_of_ble_eq_true rfl, Nat.le_of_ble_eq_true rfl⟩ dX11_binds_9 ?_
    refine W.eq (g2 := F0 m 12 ls [.int (iI (mLast N1))]) rfl ?_
    refine q_bipush S0 (by decide) dX11_binds_12 ?_
    refine q_icmp_eq (tgt := 37) S0 (by omega) dX11_binds_14 (by decide) (fun c14 => ?_) (fun c14 => ?_)
    · skip
      refine lv_aload_n S0.1 S0.2.1 dX11_binds_37 rfl (lv_at hl 0 rfl) ?_
      have hp1 := mLast_pos (N := N1) (by omega)
      refine q_cV (n := 0) (rest := []) (wr := []) S0 hK hA hW (c_X11_comes l g mo az ap ak ax a1 a2 a3 a4 a5 a6 v1 v2 v3 v4 v5 v6 pm ik ty th bn N1 (by omega) (by omega)) gX11_binds_X11_comes rfl rfl rfl (by decide +kernel) ⟨Nat.le_of_ble_eq_true rfl, Nat.le_of_ble_eq_true rfl⟩ [0, 1, 2, 3] [] rfl rfl rfl rfl (by decide) (q_recv hK hW.1 (ci := 11) (q0 := 0) rfl rfl) (fun _ _ => trivial) (trivial) rfl rfl hl.1 (Nat.le_of_ble_eq_true rfl) ⟨Nat.le_of_ble_eq_true rfl, Nat.le_of_ble_eq_true rfl⟩ dX11_binds_38 (fun _ H locs _ hW => ?_)
      have hW : gW g A s.heap H _ [(mo, .inr (11, [.ref az, .ref ap, .int (iI pm), .ref ak, .int (iI ik), .ref ax, .int (iI ty), .int (iI th), .ref a1, .ref a2, .int (iI (nN (mCome N1))), .ref a3, .int (iI (nP (mCome N1))), .ref a4, .ref a5, .ref a6, .ref v1, .ref v2, .ref v3, .ref v4, .ref v5, .ref v6, .int (iI bn), .int (iI (nWh (mCome N1))), .int (iI (nD (mCome N1))), .int (iI (nG (mCome N1)))])), (a1, gI g 41 (nK (mCome N1))), (a2, gI g 41 (nU (mCome N1))), (a3, gI g 90 (nQ (mCome N1)))] := hW
      refine W.eq (g2 := F0 m 41 ls []) rfl ?_
      refine lv_goto (tgt := 0) S0.1 S0.2.1 dX11_binds_41 (by decide) ?_
      exact IHl (mCome N1) H locs ls (by refine ⟨RN_come hR1 (by omega), hQ1, ?_⟩; rw [← heq, show (nP N1).toNat = (nP N1 - 1).toNat + 1 by omega, mBnd_step (by unfold bnds; omega)]; rfl) (by show (nP N1 - 1).toNat < (nP N1).toNat; omega) hW (lv_sub hl [0, 1] rfl)
    · skip
      refine lv_iload_n S0.1 S0.2.1 dX11_binds_17 rfl (lv_at hl 1 rfl) ?_
      refine q_if_eq (tgt := 44) S0 (by omega) dX11_binds_18 (by decide) (fun c18 => ?_) (fun c18 => ?_)
      · skip
        have hfin : N1 = mBinds t N := by rw [← heq, mBnd_stop (by unfold bnds; omega)]
        subst hfin
        exact q_vret S0 hr hlocks () (trivial) rfl (hW.sub [0, 1, 2, 3] rfl (rfl)) (Nat.le_of_ble_eq_true rfl) (Nat.le_of_ble_eq_true rfl) dX11_binds_44
      · skip
        refine lv_aload_n S0.1 S0.2.1 dX11_binds_21 rfl (lv_at hl 0 rfl) ?_
        refine q_pV (n := 0) (rest := []) S0 hK (c_X11_last l g mo az ap ak ax a1 a2 a3 a4 a5 a6 v1 v2 v3 v4 v5 v6 pm ik ty th bn N1 (by omega)) (subP hW.1 [0, 3] rfl) (trivial) gX11_binds_X11_last rfl rfl rfl (by decide +kernel) ⟨Nat.le_of_ble_eq_true rfl, Nat.le_of_ble_eq_true rfl⟩ (q_recv hK hW.1 (ci := 11) (q0 := 0) rfl rfl) rfl rfl hl.1 (Nat.le_of_ble_eq_true rfl) ⟨Nat.le_of_ble_eq_true rfl, Nat.le_of_ble_eq_true rfl⟩ dX11_binds_22 ?_
        refine W.eq (g2 := F0 m 25 ls [.int (iI (mLast N1))]) rfl ?_
        refine q_iconst S0 dX11_binds_25 ?_
        refine q_icmp_eq (tgt := 37) S0 (by omega) dX11_binds_26 (by decide) (fun c26 => ?_) (fun c26 => ?_)
        · skip
          refine lv_aload_n S0.1 S0.2.1 dX11_binds_37 rfl (lv_at hl 0 rfl) ?_
          have hp1 := mLast_pos (N := N1) (by omega)
          refine q_cV (n := 0) (rest := []) (wr := []) S0 hK hA hW (c_X11_comes l g mo az ap ak ax a1 a2 a3 a4 a5 a6 v1 v2 v3 v4 v5 v6 pm ik ty th bn N1 (by omega) (by omega)) gX11_binds_X11_comes rfl rfl rfl (by decide +kernel) ⟨Nat.le_of_ble_eq_true rfl, Nat.le_of_ble_eq_true rfl⟩ [0, 1, 2, 3] [] rfl rfl rfl rfl (by decide) (q_recv hK hW.1 (ci := 11) (q0 := 0) rfl rfl) (fun _ _ => trivial) (trivial) rfl rfl hl.1 (Nat.le_of_ble_eq_true rfl) ⟨Nat.le_of_ble_eq_true rfl, Nat.le_of_ble_eq_true rfl⟩ dX11_binds_38 (fun _ H locs _ hW => ?_)
          have hW : gW g A s.heap H _ [(mo, .inr (11, [.ref az, .ref ap, .int (iI pm), .ref ak, .int (iI ik), .ref ax, .int (iI ty), .int (iI th), .ref a1, .ref a2, .int (iI (nN (mCome N1))), .ref a3, .int (iI (nP (mCome N1))), .ref a4, .ref a5, .ref a6, .ref v1, .ref v2, .ref v3, .ref v4, .ref v5, .ref v6, .int (iI bn), .int (iI (nWh (mCome N1))), .int (iI (nD (mCome N1))), .int (iI (nG (mCome N1)))])), (a1, gI g 41 (nK (mCome N1))), (a2, gI g 41 (nU (mCome N1))), (a3, gI g 90 (nQ (mCome N1)))] := hW
          refine W.eq (g2 := F0 m 41 ls []) rfl ?_
          refine lv_goto (tgt := 0) S0.1 S0.2.1 dX11_binds_41 (by decide) ?_
          exact IHl (mCome N1) H locs ls (by refine ⟨RN_come hR1 (by omega), hQ1, ?_⟩; rw [← heq, show (nP N1).toNat = (nP N1 - 1).toNat + 1 by omega, mBnd_step (by unfold bnds; omega)]; rfl) (by show (nP N1 - 1).toNat < (nP N1).toNat; omega) hW (lv_sub hl [0, 1] rfl)
        · skip
          refine lv_aload_n S0.1 S0.2.1 dX11_binds_29 rfl (lv_at hl 0 rfl) ?_
          refine q_pV (n := 0) (rest := []) S0 hK (c_X11_last l g mo az ap ak ax a1 a2 a3 a4 a5 a6 v1 v2 v3 v4 v5 v6 pm ik ty th bn N1 (by omega)) (subP hW.1 [0, 3] rfl) (trivial) gX11_binds_X11_last rfl rfl rfl (by decide +kernel) ⟨Nat.le_of_ble_eq_true rfl, Nat.le_of_ble_eq_true rfl⟩ (q_recv hK hW.1 (ci := 11) (q0 := 0) rfl rfl) rfl rfl hl.1 (Nat.le_of_ble_eq_true rfl) ⟨Nat.le_of_ble_eq_true rfl, Nat.le_of_ble_eq_true rfl⟩ dX11_binds_30 ?_
          refine W.eq (g2 := F0 m 33 ls [.int (iI (mLast N1))]) rfl ?_
          refine q_iconst S0 dX11_binds_33 ?_
          refine q_icmp_ne (tgt := 44) S0 (by omega) dX11_binds_34 (by decide) (fun c34 => ?_) (fun c34 => ?_)
          · skip
            have hfin : N1 = mBinds t N := by rw [← heq, mBnd_stop (by unfold bnds; omega)]
            subst hfin
            exact q_vret S0 hr hlocks () (trivial) rfl (hW.sub [0, 1, 2, 3] rfl (rfl)) (Nat.le_of_ble_eq_true rfl) (Nat.le_of_ble_eq_true rfl) dX11_binds_44
          · skip
            refine lv_aload_n S0.1 S0.2.1 dX11_binds_37 rfl (lv_at hl 0 rfl) ?_
            have hp1 := mLast_pos (N := N1) (by omega)
            refine q_cV (n := 0) (rest := []) (wr := []) S0 hK hA hW (c_X11_comes l g mo az ap ak ax a1 a2 a3 a4 a5 a6 v1 v2 v3 v4 v5 v6 pm ik ty th bn N1 (by omega) (by omega)) gX11_binds_X11_comes rfl rfl rfl (by decide +kernel) ⟨Nat.le_of_ble_eq_true rfl, Nat.le_of_ble_eq_true rfl⟩ [0, 1, 2, 3] [] rfl rfl rfl rfl (by decide) (q_recv hK hW.1 (ci := 11) (q0 := 0) rfl rfl) (fun _ _ => trivial) (trivial) rfl rfl hl.1 (Nat.le_of_ble_eq_true rfl) ⟨Nat.le_of_ble_eq_true rfl, Nat.le_of_ble_eq_true rfl⟩ dX11_binds_38 (fun _ H locs _ hW => ?_)
            have hW : gW g A s.heap H _ [(mo, .inr (11, [.ref az, .ref ap, .int (iI pm), .ref ak, .int (iI ik), .ref ax, .int (iI ty), .int (iI th), .ref a1, .ref a2, .int (iI (nN (mCome N1))), .ref a3, .int (iI (nP (mCome N1))), .ref a4, .ref a5, .ref a6, .ref v1, .ref v2, .ref v3, .ref v4, .ref v5, .ref v6, .int (iI bn), .int (iI (nWh (mCome N1))), .int (iI (nD (mCome N1))), .int (iI (nG (mCome N1)))])), (a1, gI g 41 (nK (mCome N1))), (a2, gI g 41 (nU (mCome N1))), (a3, gI g 90 (nQ (mCome N1)))] := hW
            refine W.eq (g2 := F0 m 41 ls []) rfl ?_
            refine lv_goto (tgt := 0) S0.1 S0.2.1 dX11_binds_41 (by decide) ?_
            exact IHl (mCome N1) H locs ls (by refine ⟨RN_come hR1 (by omega), hQ1, ?_⟩; rw [← heq, show (nP N1).toNat = (nP N1 - 1).toNat + 1 by omega, mBnd_step (by unfold bnds; omega)]; rfl) (by show (nP N1 - 1).toNat < (nP N1).toNat; omega) hW (lv_sub hl [0, 1] rfl)
set_option maxHeartbeats 4000000 in
set_option maxRecDepth 100000 in
theorem c_X11_begins (l : Launch) (g : GG) (mo az ap ak ax a1 a2 a3 a4 a5 a6 v1 v2 v3 v4 v5 v6 : Nat) (pm ik ty th bn : Int) (N : NT) (i ch : Int) (hR : RN i N) (hi : i ≤ 39) (hq : ∀ j, -2147483648 ≤ nQ N j ∧ nQ N j < 2147483648) (hc : 0 ≤ ch ∧ ch ≤ 65535) : qMet l yX11_begins wsX11_begins ({ frames := 3, cells := 0, slots := 0, locals := 62 }) g [.ref mo, .int (iI ch)] [(mo, .inr (11, [.ref az, .ref ap, .int (iI pm), .ref ak, .int (iI ik), .ref ax, .int (iI ty), .int (iI th), .ref a1, .ref a2, .int (iI (nN N)), .ref a3, .int (iI (nP N)), .ref a4, .ref a5, .ref a6, .ref v1, .ref v2, .ref v3, .ref v4, .ref v5, .ref v6, .int (iI bn), .int (iI (nWh N)), .int (iI (nD N)), .int (iI (nG N))])), (a1, gI g 41 (nK N)), (a2, gI g 41 (nU N)), (a3, gI g 90 (nQ N))] (fun _ => True) (fun _ => True) (S := Unit) (fun _ => some (.int (iI ((mBegins N ch).2)))) (fun _ => [(mo, .inr (11, [.ref az, .ref ap, .int (iI pm), .ref ak, .int (iI ik), .ref ax, .int (iI ty), .int (iI th), .ref a1, .ref a2, .int (iI (nN ((mBegins N ch).1))), .ref a3, .int (iI (nP ((mBegins N ch).1))), .ref a4, .ref a5, .ref a6, .ref v1, .ref v2, .ref v3, .ref v4, .ref v5, .ref v6, .int (iI bn), .int (iI (nWh ((mBegins N ch).1))), .int (iI (nD ((mBegins N ch).1))), .int (iI (nG ((mBegins N ch).1)))])), (a1, gI g 41 (nK ((mBegins N ch).1))), (a2, gI g 41 (nU ((mBegins N ch).1))), (a3, gI g 90 (nQ ((mBegins N ch).1)))]) (fun _ => True) 0 0 := by
  refine q_ofW (cc := cX11_begins) (maxL := 2) (ret := (some .boolean)) (fun sz h => h.self) (by decide) rfl (Nat.le_of_ble_eq_true rfl) ?_
  intro p e s m args below meth c A ls S0 hr hlocks hnme hK hA hAe hW hD0 hX hl
  have hW : gW g A s.heap s.heap [] [(mo, .inr (11, [.ref az, .ref ap, .int (iI pm), .ref ak, .int (iI ik), .ref ax, .int (iI ty), .int (iI th), .ref a1, .ref a2, .int (iI (nN N)), .ref a3, .int (iI (nP N)), .ref a4, .ref a5, .ref a6, .ref v1, .ref v2, .ref v3, .ref v4, .ref v5, .ref v6, .int (iI bn), .int (iI (nWh N)), .int (iI (nD N)), .int (iI (nG N))])), (a1, gI g 41 (nK N)), (a2, gI g 41 (nU N)), (a3, gI g 90 (nQ N))] := hW
  have hl : lv_has ls 2 [(0, .ref mo), (1, .int (iI ch))] := hl
  have hinX11 : ∀ w ∈ wsX110, w ∈ wsX11_begins := fun w h => List.mem_cons_of_mem _ (List.mem_append_right _ h)
  have hR2 := hR
  unfold RN at hR2
  have hfn := fnO_r ch
  refine lv_iload_n S0.1 S0.2.1 dX11_begins_0 rfl (lv_at hl 1 rfl) ?_
  refine q_bipush S0 (by decide) dX11_begins_1 ?_
  refine q_bipush S0 (by decide) dX11_begins_3 ?_
  refine q_pS (n := 3) (rest := []) S0 hK (c_X11_in l g ch 48 57 (by omega) (by omega) (by omega)) (subP hW.1 [] rfl) (trivial) gX11_begins_X11_in rfl rfl rfl (by decide +kernel) ⟨Nat.le_of_ble_eq_true rfl, Nat.le_of_ble_eq_true rfl⟩ rfl rfl hl.1 (Nat.le_of_ble_eq_true rfl) ⟨Nat.le_of_ble_eq_true rfl, Nat.le_of_ble_eq_true rfl⟩ dX11_begins_5 ?_
  refine W.eq (g2 := F0 m 8 ls [.int (iI (if 48 ≤ ch ∧ ch ≤ 57 then (1 : Int) else 0))]) rfl ?_
  refine q_if_eqP (tgt := 26) S0 dX11_begins_8 (by decide) (fun c8 => ?_) (fun c8 => ?_)
  · skip
    refine lv_iload_n S0.1 S0.2.1 dX11_begins_26 rfl (lv_at hl 1 rfl) ?_
    refine q_bipush S0 (by decide) dX11_begins_27 ?_
    refine q_icmp_ne (tgt := 49) S0 (by omega) dX11_begins_29 (by decide) (fun c29 => ?_) (fun c29 => ?_)
    · skip
      refine lv_iload_n S0.1 S0.2.1 dX11_begins_49 rfl (lv_at hl 1 rfl) ?_
      refine q_bipush S0 (by decide) dX11_begins_50 ?_
      refine q_icmp_ne (tgt := 63) S0 (by omega) dX11_begins_52 (by decide) (fun c52 => ?_) (fun c52 => ?_)
      · skip
        refine lv_iload_n S0.1 S0.2.1 dX11_begins_63 rfl (lv_at hl 1 rfl) ?_
        refine q_bipush S0 (by decide) dX11_begins_64 ?_
        refine q_icmp_ne (tgt := 88) S0 (by omega) dX11_begins_66 (by decide) (fun c66 => ?_) (fun c66 => ?_)
        · skip
          refine lv_iload_n S0.1 S0.2.1 dX11_begins_88 rfl (lv_at hl 1 rfl) ?_
          refine q_pS (n := 1) (rest := []) S0 hK (c_X11_function l g ch (by omega)) (subP hW.1 [] rfl) (trivial) gX11_begins_X11_function rfl rfl rfl (by decide +kernel) ⟨Nat.le_of_ble_eq_true rfl, Nat.le_of_ble_eq_true rfl⟩ rfl rfl hl.1 (Nat.le_of_ble_eq_true rfl) ⟨Nat.le_of_ble_eq_true rfl, Nat.le_of_ble_eq_true rfl⟩ dX11_begins_89 ?_
          refine W.eq (g2 := F0 m 92 ls [.int (iI (fnO ch))]) rfl ?_
          refine q_iconst S0 dX11_begins_92 ?_
          refine q_icmp_eq (tgt := 113) S0 (by omega) dX11_begins_93 (by decide) (fun c93 => ?_) (fun c93 => ?_)
          · skip
            refine q_iconst S0 dX11_begins_113 ?_
            exact q_zret S0 hr hlocks () (trivial) (by first | exact Or.inl rfl | exact Or.inr rfl | omega) (by unfold mBegins; (repeat (first | rw [if_pos (by omega)] | rw [if_neg (by omega)])); first | done | rfl) (hW.sub [0, 1, 2, 3] rfl (by unfold mBegins; (repeat (first | rw [if_pos (by omega)] | rw [if_neg (by omega)])); first | done | rfl)) (Nat.le_of_ble_eq_true rfl) (Nat.le_of_ble_eq_true rfl) dX11_begins_114
          · skip
            refine lv_aload_n S0.1 S0.2.1 dX11_begins_96 rfl (lv_at hl 0 rfl) ?_
            refine q_bipush S0 (by decide) dX11_begins_97 ?_
            refine lv_iload_n S0.1 S0.2.1 dX11_begins_99 rfl (lv_at hl 1 rfl) ?_
            refine q_pS (n := 1) (rest := [.int (iI 8), .ref mo]) S0 hK (c_X11_function l g ch (by omega)) (subP hW.1 [] rfl) (trivial) gX11_begins_X11_function rfl rfl rfl (by decide +kernel) ⟨Nat.le_of_ble_eq_true rfl, Nat.le_of_ble_eq_true rfl⟩ rfl rfl hl.1 (Nat.le_of_ble_eq_true rfl) ⟨Nat.le_of_ble_eq_true rfl, Nat.le_of_ble_eq_true rfl⟩ dX11_begins_100 ?_
            refine W.eq (g2 := F0 m 103 ls [.int (iI (fnO ch)), .int (iI 8), .ref mo]) rfl ?_
            refine q_cV (n := 2) (rest := []) (wr := [(a1, gI g 41 (nK N)), (a2, gI g 41 (nU N))]) S0 hK hA hW (c_X11_waitsFor l g mo az ap ak ax a1 a2 a3 a4 a5 a6 v1 v2 v3 v4 v5 v6 pm ik ty th bn N 8 (fnO ch) (by omega)) gX11_begins_X11_waitsFor rfl rfl rfl (by decide +kernel) ⟨Nat.le_of_ble_eq_true rfl, Nat.le_of_ble_eq_true rfl⟩ [0, 3] [1, 2] rfl rfl rfl rfl (by decide) (q_recv hK hW.1 (ci := 11) (q0 := 0) rfl rfl) (fun _ _ => trivial) (trivial) rfl rfl hl.1 (Nat.le_of_ble_eq_true rfl) ⟨Nat.le_of_ble_eq_true rfl, Nat.le_of_ble_eq_true rfl⟩ dX11_begins_103 (fun _ H locs _ hW => ?_)
            have hW : gW g A s.heap H _ [(a1, gI g 41 (nK N)), (a2, gI g 41 (nU N)), (mo, .inr (11, [.ref az, .ref ap, .int (iI pm), .ref ak, .int (iI ik), .ref ax, .int (iI ty), .int (iI th), .ref a1, .ref a2, .int (iI (nN (mWait N 8 (fnO ch)))), .ref a3, .int (iI (nP (mWait N 8 (fnO ch)))), .ref a4, .ref a5, .ref a6, .ref v1, .ref v2, .ref v3, .ref v4, .ref v5, .ref v6, .int (iI bn), .int (iI (nWh (mWait N 8 (fnO ch)))), .int (iI (nD (mWait N 8 (fnO ch)))), .int (iI (nG (mWait N 8 (fnO ch))))])), (a3, gI g 90 (nQ (mWait N 8 (fnO ch))))] := hW
            refine W.eq (g2 := F0 m 106 ls []) rfl ?_
            refine lv_aload_n S0.1 S0.2.1 dX11_begins_106 rfl (lv_at hl 0 rfl) ?_
            refine q_iconst S0 dX11_begins_107 ?_
            refine q_put (C := RX11) (T := TX11) (N := 26) S0 hK hW hinX11 tyX11_ok nmX11 2 rfl rfl 23 (by decide) (List.mem_of_getElem? (i := 2) rfl) rfl rfl rfl rfl (Nat.le_of_ble_eq_true rfl) dX11_begins_108 (fun H locs hW => ?_)
            have hW : gW g A s.heap H _ [(a1, gI g 41 (nK N)), (a2, gI g 41 (nU N)), (mo, .inr (11, [.ref az, .ref ap, .int (iI pm), .ref ak, .int (iI ik), .ref ax, .int (iI ty), .int (iI th), .ref a1, .ref a2, .int (iI (nN (mWait N 8 (fnO ch)))), .ref a3, .int (iI (nP (mWait N 8 (fnO ch)))), .ref a4, .ref a5, .ref a6, .ref v1, .ref v2, .ref v3, .ref v4, .ref v5, .ref v6, .int (iI bn), .int (iI 5), .int (iI (nD (mWait N 8 (fnO ch)))), .int (iI (nG (mWait N 8 (fnO ch))))])), (a3, gI g 90 (nQ (mWait N 8 (fnO ch))))] := hW
            refine q_iconst S0 dX11_begins_111 ?_
            exact q_zret S0 hr hlocks () (trivial) (by first | exact Or.inl rfl | exact Or.inr rfl | omega) (by unfold mBegins; (repeat (first | rw [if_pos (by omega)] | rw [if_neg (by omega)])); first | done | rfl) (hW.sub [2, 0, 1, 3] rfl (by unfold mBegins; (repeat (first | rw [if_pos (by omega)] | rw [if_neg (by omega)])); first | done | rfl)) (Nat.le_of_ble_eq_true rfl) (Nat.le_of_ble_eq_true rfl) dX11_begins_112
        · skip
          refine lv_aload_n S0.1 S0.2.1 dX11_begins_69 rfl (lv_at hl 0 rfl) ?_
          refine q_bipush S0 (by decide) dX11_begins_70 ?_
          refine q_iconst S0 dX11_begins_72 ?_
          refine q_cV (n := 2) (rest := []) (wr := [(a1, gI g 41 (nK N)), (a2, gI g 41 (nU N))]) S0 hK hA hW (c_X11_waitsFor l g mo az ap ak ax a1 a2 a3 a4 a5 a6 v1 v2 v3 v4 v5 v6 pm ik ty th bn N 9 0 (by omega)) gX11_begins_X11_waitsFor rfl rfl rfl (by decide +kernel) ⟨Nat.le_of_ble_eq_true rfl, Nat.le_of_ble_eq_true rfl⟩ [0, 3] [1, 2] rfl rfl rfl rfl (by decide) (q_recv hK hW.1 (ci := 11) (q0 := 0) rfl rfl) (fun _ _ => trivial) (trivial) rfl rfl hl.1 (Nat.le_of_ble_eq_true rfl) ⟨Nat.le_of_ble_eq_true rfl, Nat.le_of_ble_eq_true rfl⟩ dX11_begins_73 (fun _ H locs _ hW => ?_)
          have hW : gW g A s.heap H _ [(a1, gI g 41 (nK N)), (a2, gI g 41 (nU N)), (mo, .inr (11, [.ref az, .ref ap, .int (iI pm), .ref ak, .int (iI ik), .ref ax, .int (iI ty), .int (iI th), .ref a1, .ref a2, .int (iI (nN (mWait N 9 0))), .ref a3, .int (iI (nP (mWait N 9 0))), .ref a4, .ref a5, .ref a6, .ref v1, .ref v2, .ref v3, .ref v4, .ref v5, .ref v6, .int (iI bn), .int (iI (nWh (mWait N 9 0))), .int (iI (nD (mWait N 9 0))), .int (iI (nG (mWait N 9 0)))])), (a3, gI g 90 (nQ (mWait N 9 0)))] := hW
          refine W.eq (g2 := F0 m 76 ls []) rfl ?_
          refine lv_aload_n S0.1 S0.2.1 dX11_begins_76 rfl (lv_at hl 0 rfl) ?_
          refine lv_dup S0.1 S0.2.1 dX11_begins_77 rfl ?_
          refine q_get (C := RX11) (T := TX11) (N := 26) S0 hK hW.1 hinX11 2 rfl rfl 24 (by decide) (List.mem_of_getElem? (i := 3) rfl) rfl rfl dX11_begins_78 ?_
          refine q_iconst S0 dX11_begins_81 ?_
          refine q_iadd S0 dX11_begins_82 ?_
          refine q_put (C := RX11) (T := TX11) (N := 26) S0 hK hW hinX11 tyX11_ok nmX11 2 rfl rfl 24 (by decide) (List.mem_of_getElem? (i := 3) rfl) rfl rfl rfl rfl (Nat.le_of_ble_eq_true rfl) dX11_begins_83 (fun H locs hW => ?_)
          have hW : gW g A s.heap H _ [(a1, gI g 41 (nK N)), (a2, gI g 41 (nU N)), (mo, .inr (11, [.ref az, .ref ap, .int (iI pm), .ref ak, .int (iI ik), .ref ax, .int (iI ty), .int (iI th), .ref a1, .ref a2, .int (iI (nN (mWait N 9 0))), .ref a3, .int (iI (nP (mWait N 9 0))), .ref a4, .ref a5, .ref a6, .ref v1, .ref v2, .ref v3, .ref v4, .ref v5, .ref v6, .int (iI bn), .int (iI (nWh (mWait N 9 0))), .int (iI ((nD (mWait N 9 0)) + 1)), .int (iI (nG (mWait N 9 0)))])), (a3, gI g 90 (nQ (mWait N 9 0)))] := hW
          refine q_iconst S0 dX11_begins_86 ?_
          exact q_zret S0 hr hlocks () (trivial) (by first | exact Or.inl rfl | exact Or.inr rfl | omega) (by unfold mBegins; (repeat (first | rw [if_pos (by omega)] | rw [if_neg (by omega)])); first | done | rfl) (hW.sub [2, 0, 1, 3] rfl (by unfold mBegins; (repeat (first | rw [if_pos (by omega)] | rw [if_neg (by omega)])); first | done | rfl)) (Nat.le_of_ble_eq_true rfl) (Nat.le_of_ble_eq_true rfl) dX11_begins_87
      · skip
        refine lv_aload_n S0.1 S0.2.1 dX11_begins_55 rfl (lv_at hl 0 rfl) ?_
        refine q_iconst S0 dX11_begins_56 ?_
        refine q_iconst S0 dX11_begins_57 ?_
        refine q_cV (n := 2) (rest := []) (wr := [(a1, gI g 41 (nK N)), (a2, gI g 41 (nU N))]) S0 hK hA hW (c_X11_waitsFor l g mo az ap ak ax a1 a2 a3 a4 a5 a6 v1 v2 v3 v4 v5 v6 pm ik ty th bn N 2 0 (by omega)) gX11_begins_X11_waitsFor rfl rfl rfl (by decide +kernel) ⟨Nat.le_of_ble_eq_true rfl, Nat.le_of_ble_eq_true rfl⟩ [0, 3] [1, 2] rfl rfl rfl rfl (by decide) (q_recv hK hW.1 (ci := 11) (q0 := 0) rfl rfl) (fun _ _ => trivial) (trivial) rfl rfl hl.1 (Nat.le_of_ble_eq_true rfl) ⟨Nat.le_of_ble_eq_true rfl, Nat.le_of_ble_eq_true rfl⟩ dX11_begins_58 (fun _ H locs _ hW => ?_)
        have hW : gW g A s.heap H _ [(a1, gI g 41 (nK N)), (a2, gI g 41 (nU N)), (mo, .inr (11, [.ref az, .ref ap, .int (iI pm), .ref ak, .int (iI ik), .ref ax, .int (iI ty), .int (iI th), .ref a1, .ref a2, .int (iI (nN (mWait N 2 0))), .ref a3, .int (iI (nP (mWait N 2 0))), .ref a4, .ref a5, .ref a6, .ref v1, .ref v2, .ref v3, .ref v4, .ref v5, .ref v6, .int (iI bn), .int (iI (nWh (mWait N 2 0))), .int (iI (nD (mWait N 2 0))), .int (iI (nG (mWait N 2 0)))])), (a3, gI g 90 (nQ (mWait N 2 0)))] := hW
        refine W.eq (g2 := F0 m 61 ls []) rfl ?_
        refine q_iconst S0 dX11_begins_61 ?_
        exact q_zret S0 hr hlocks () (trivial) (by first | exact Or.inl rfl | exact Or.inr rfl | omega) (by unfold mBegins; (repeat (first | rw [if_pos (by omega)] | rw [if_neg (by omega)])); first | done | rfl) (hW.sub [2, 0, 1, 3] rfl (by unfold mBegins; (repeat (first | rw [if_pos (by omega)] | rw [if_neg (by omega)])); first | done | rfl)) (Nat.le_of_ble_eq_true rfl) (Nat.le_of_ble_eq_true rfl) dX11_begins_62
    · skip
      refine lv_aload_n S0.1 S0.2.1 dX11_begins_32 rfl (lv_at hl 0 rfl) ?_
      refine q_iconst S0 dX11_begins_33 ?_
      refine q_iconst S0 dX11_begins_34 ?_
      refine q_cV (n := 2) (rest := []) (wr := [(a3, gI g 90 (nQ N))]) S0 hK hA hW (c_X11_node l g mo az ap ak ax a1 a2 a3 a4 a5 a6 v1 v2 v3 v4 v5 v6 pm ik ty th bn N 1 0 (by omega)) gX11_begins_X11_node rfl rfl rfl (by decide +kernel) ⟨Nat.le_of_ble_eq_true rfl, Nat.le_of_ble_eq_true rfl⟩ [0, 1, 2] [3] rfl rfl rfl rfl (by decide) (q_recv hK hW.1 (ci := 11) (q0 := 0) rfl rfl) (fun _ _ => trivial) (trivial) rfl rfl hl.1 (Nat.le_of_ble_eq_true rfl) ⟨Nat.le_of_ble_eq_true rfl, Nat.le_of_ble_eq_true rfl⟩ dX11_begins_35 (fun _ H locs _ hW => ?_)
      have hW : gW g A s.heap H _ [(a3, gI g 90 (nQ N)), (mo, .inr (11, [.ref az, .ref ap, .int (iI pm), .ref ak, .int (iI ik), .ref ax, .int (iI ty), .int (iI th), .ref a1, .ref a2, .int (iI (nN (mNode N 1 0))), .ref a3, .int (iI (nP (mNode N 1 0))), .ref a4, .ref a5, .ref a6, .ref v1, .ref v2, .ref v3, .ref v4, .ref v5, .ref v6, .int (iI bn), .int (iI (nWh (mNode N 1 0))), .int (iI (nD (mNode N 1 0))), .int (iI (nG (mNode N 1 0)))])), (a1, gI g 41 (nK (mNode N 1 0))), (a2, gI g 41 (nU (mNode N 1 0)))] := hW
      refine W.eq (g2 := F0 m 38 ls []) rfl ?_
      refine lv_aload_n S0.1 S0.2.1 dX11_begins_38 rfl (lv_at hl 0 rfl) ?_
      refine q_cV (n := 0) (rest := []) (wr := []) S0 hK hA hW (c_X11_atom l g mo az ap ak ax a1 a2 a3 a4 a5 a6 v1 v2 v3 v4 v5 v6 pm ik ty th bn (mNode N 1 0) ((i + 1)) (RN_node hR hi) (hq)) gX11_begins_X11_atom rfl rfl rfl (by decide +kernel) ⟨Nat.le_of_ble_eq_true rfl, Nat.le_of_ble_eq_true rfl⟩ [1, 2, 3, 0] [] rfl rfl rfl rfl (by decide) (q_recv hK hW.1 (ci := 11) (q0 := 1) rfl rfl) (fun _ _ => trivial) (trivial) rfl rfl hl.1 (Nat.le_of_ble_eq_true rfl) ⟨Nat.le_of_ble_eq_true rfl, Nat.le_of_ble_eq_true rfl⟩ dX11_begins_39 (fun _ H locs _ hW => ?_)
      have hW : gW g A s.heap H _ [(mo, .inr (11, [.ref az, .ref ap, .int (iI pm), .ref ak, .int (iI ik), .ref ax, .int (iI ty), .int (iI th), .ref a1, .ref a2, .int (iI (nN (mAtom (mNode N 1 0)))), .ref a3, .int (iI (nP (mAtom (mNode N 1 0)))), .ref a4, .ref a5, .ref a6, .ref v1, .ref v2, .ref v3, .ref v4, .ref v5, .ref v6, .int (iI bn), .int (iI (nWh (mAtom (mNode N 1 0)))), .int (iI (nD (mAtom (mNode N 1 0)))), .int (iI (nG (mAtom (mNode N 1 0))))])), (a1, gI g 41 (nK (mAtom (mNode N 1 0)))), (a2, gI g 41 (nU (mAtom (mNode N 1 0)))), (a3, gI g 90 (nQ (mAtom (mNode N 1 0))))] := hW
      refine W.eq (g2 := F0 m 42 ls []) rfl ?_
      refine lv_aload_n S0.1 S0.2.1 dX11_begins_42 rfl (lv_at hl 0 rfl) ?_
      refine q_iconst S0 dX11_begins_43 ?_
      refine q_put (C := RX11) (T := TX11) (N := 26) S0 hK hW hinX11 tyX11_ok nmX11 0 rfl rfl 23 (by decide) (List.mem_of_getElem? (i := 2) rfl) rfl rfl rfl rfl (Nat.le_of_ble_eq_true rfl) dX11_begins_44 (fun H locs hW => ?_)
      have hW : gW g A s.heap H _ [(mo, .inr (11, [.ref az, .ref ap, .int (iI pm), .ref ak, .int (iI ik), .ref ax, .int (iI ty), .int (iI th), .ref a1, .ref a2, .int (iI (nN (mAtom (mNode N 1 0)))), .ref a3, .int (iI (nP (mAtom (mNode N 1 0)))), .ref a4, .ref a5, .ref a6, .ref v1, .ref v2, .ref v3, .ref v4, .ref v5, .ref v6, .int (iI bn), .int (iI 2), .int (iI (nD (mAtom (mNode N 1 0)))), .int (iI (nG (mAtom (mNode N 1 0))))])), (a1, gI g 41 (nK (mAtom (mNode N 1 0)))), (a2, gI g 41 (nU (mAtom (mNode N 1 0)))), (a3, gI g 90 (nQ (mAtom (mNode N 1 0))))] := hW
      refine q_iconst S0 dX11_begins_47 ?_
      exact q_zret S0 hr hlocks () (trivial) (by first | exact Or.inl rfl | exact Or.inr rfl | omega) (by unfold mBegins; (repeat (first | rw [if_pos (by omega)] | rw [if_neg (by omega)])); first | done | rfl) (hW.sub [0, 1, 2, 3] rfl (by unfold mBegins; (repeat (first | rw [if_pos (by omega)] | rw [if_neg (by omega)])); first | done | rfl)) (Nat.le_of_ble_eq_true rfl) (Nat.le_of_ble_eq_true rfl) dX11_begins_48
  · skip
    refine lv_aload_n S0.1 S0.2.1 dX11_begins_11 rfl (lv_at hl 0 rfl) ?_
    refine lv_iload_n S0.1 S0.2.1 dX11_begins_12 rfl (lv_at hl 1 rfl) ?_
    refine q_bipush S0 (by decide) dX11_begins_13 ?_
    refine q_isub S0 dX11_begins_15 ?_
    refine q_put (C := RX11) (T := TX11) (N := 26) S0 hK hW hinX11 tyX11_ok nmX11 0 rfl rfl 25 (by decide) (List.mem_of_getElem? (i := 1) rfl) rfl rfl rfl rfl (Nat.le_of_ble_eq_true rfl) dX11_begins_16 (fun H locs hW => ?_)
    have hW : gW g A s.heap H _ [(mo, .inr (11, [.ref az, .ref ap, .int (iI pm), .ref ak, .int (iI ik), .ref ax, .int (iI ty), .int (iI th), .ref a1, .ref a2, .int (iI (nN N)), .ref a3, .int (iI (nP N)), .ref a4, .ref a5, .ref a6, .ref v1, .ref v2, .ref v3, .ref v4, .ref v5, .ref v6, .int (iI bn), .int (iI (nWh N)), .int (iI (nD N)), .int (iI (ch - 48))])), (a1, gI g 41 (nK N)), (a2, gI g 41 (nU N)), (a3, gI g 90 (nQ N))] := hW
    refine lv_aload_n S0.1 S0.2.1 dX11_begins_19 rfl (lv_at hl 0 rfl) ?_
    refine q_iconst S0 dX11_begins_20 ?_
    refine q_put (C := RX11) (T := TX11) (N := 26) S0 hK hW hinX11 tyX11_ok nmX11 0 rfl rfl 23 (by decide) (List.mem_of_getElem? (i := 2) rfl) rfl rfl rfl rfl (Nat.le_of_ble_eq_true rfl) dX11_begins_21 (fun H locs hW => ?_)
    have hW : gW g A s.heap H _ [(mo, .inr (11, [.ref az, .ref ap, .int (iI pm), .ref ak, .int (iI ik), .ref ax, .int (iI ty), .int (iI th), .ref a1, .ref a2, .int (iI (nN N)), .ref a3, .int (iI (nP N)), .ref a4, .ref a5, .ref a6, .ref v1, .ref v2, .ref v3, .ref v4, .ref v5, .ref v6, .int (iI bn), .int (iI 1), .int (iI (nD N)), .int (iI (ch - 48))])), (a1, gI g 41 (nK N)), (a2, gI g 41 (nU N)), (a3, gI g 90 (nQ N))] := hW
    refine q_iconst S0 dX11_begins_24 ?_
    exact q_zret S0 hr hlocks () (trivial) (by first | exact Or.inl rfl | exact Or.inr rfl | omega) (by unfold mBegins; (repeat (first | rw [if_pos (by omega)] | rw [if_neg (by omega)])); first | done | rfl) (hW.sub [0, 1, 2, 3] rfl (by unfold mBegins; (repeat (first | rw [if_pos (by omega)] | rw [if_neg (by omega)])); first | done | rfl)) (Nat.le_of_ble_eq_true rfl) (Nat.le_of_ble_eq_true rfl) dX11_begins_25
