theorem TB_le {F : FT} {j i : Int} {V H R : Nat → Int} (h : TB F j V H R) (hi : i ≤ j) : TB F i V H R := fun a y b c d e => h a y b (by omega) d e

set_option maxHeartbeats 4000000 in
set_option maxRecDepth 100000 in
theorem c_X11_asksChain1 (l : Launch) (g : GG) (mo az ap ak ax a1 a2 a3 a4 a5 a6 v1 v2 v3 v4 v5 v6 : Nat) (pm ik ty th mn wt bn wh dp dg : Int) (Z : Nat → Int) (F : FT) (w u x : Int) (hG : GF F) (hz : ZR Z F) (hu : ¬ ((0 ≤ w ∧ w ≤ 3) ∧ (0 ≤ u ∧ u ≤ 3)) ∧ (-2147483648 ≤ w ∧ w < 2147483648) ∧ (-2147483648 ≤ u ∧ u < 2147483648)) (hx : -2147483648 ≤ x ∧ x < 2147483648) : qMet l yX11_asksChain wsX11_asksChain ({ frames := 2, cells := 0, slots := 0, locals := 42 }) g [.ref mo, .int (iI w), .int (iI u), .int (iI x)] [(mo, .inr (11, [.ref az, .ref ap, .int (iI pm), .ref ak, .int (iI ik), .ref ax, .int (iI ty), .int (iI th), .ref a1, .ref a2, .int (iI mn), .ref a3, .int (iI wt), .ref a4, .ref a5, .ref a6, .ref v1, .ref v2, .ref v3, .ref v4, .ref v5, .ref v6, .int (iI bn), .int (iI wh), .int (iI dp), .int (iI dg)])), (az, gI g 325 Z)] (fun _ => True) (fun _ => True) (S := Unit) (fun _ => some (.int (iI 0))) (fun _ => [(mo, .inr (11, [.ref az, .ref ap, .int (iI pm), .ref ak, .int (iI ik), .ref ax, .int (iI ty), .int (iI 1), .ref a1, .ref a2, .int (iI mn), .ref a3, .int (iI wt), .ref a4, .ref a5, .ref a6, .ref v1, .ref v2, .ref v3, .ref v4, .ref v5, .ref v6, .int (iI bn), .int (iI wh), .int (iI dp), .int (iI dg)])), (az, gI g 325 Z)]) (fun _ => True) 0 0 := by
  refine q_ofW (cc := cX11_asksChain) (maxL := 5) (ret := (some .boolean)) (fun sz h => h.self) (by decide) rfl (Nat.le_of_ble_eq_true rfl) ?_
  intro p e s m args below meth c A ls S0 hr hlocks hnme hK hA hAe hW hD0 hX hl
  have hW : gW g A s.heap s.heap [] [(mo, .inr (11, [.ref az, .ref ap, .int (iI pm), .ref ak, .int (iI ik), .ref ax, .int (iI ty), .int (iI th), .ref a1, .ref a2, .int (iI mn), .ref a3, .int (iI wt), .ref a4, .ref a5, .ref a6, .ref v1, .ref v2, .ref v3, .ref v4, .ref v5, .ref v6, .int (iI bn), .int (iI wh), .int (iI dp), .int (iI dg)])), (az, gI g 325 Z)] := hW
  have hl : lv_has ls 5 [(0, .ref mo), (1, .int (iI w)), (2, .int (iI u)), (3, .int (iI x))] := hl
  have hinX11 : ∀ w ∈ wsX110, w ∈ wsX11_asksChain := fun w h => List.mem_cons_of_mem _ (List.mem_append_right _ h)
  have hpr := GF_p hG
  refine lv_aload_n S0.1 S0.2.1 dX11_asksChain_0 rfl (lv_at hl 0 rfl) ?_
  refine lv_iload_n S0.1 S0.2.1 dX11_asksChain_1 rfl (lv_at hl 1 rfl) ?_
  refine q_pS (n := 1) (rest := [.ref mo]) S0 hK (c_X11_isFunction l g w (by omega)) (subP hW.1 [] rfl) (trivial) gX11_asksChain_X11_isFunction rfl rfl rfl (by decide +kernel) ⟨Nat.le_of_ble_eq_true rfl, Nat.le_of_ble_eq_true rfl⟩ rfl rfl hl.1 (Nat.le_of_ble_eq_true rfl) ⟨Nat.le_of_ble_eq_true rfl, Nat.le_of_ble_eq_true rfl⟩ dX11_asksChain_2 ?_
  refine W.eq (g2 := F0 m 5 ls [.int (iI (if 0 ≤ w ∧ w ≤ 3 then (1 : Int) else 0)), .ref mo]) rfl ?_
  refine q_if_eqP (tgt := 19) S0 dX11_asksChain_5 (by decide) (fun c5 => ?_) (fun c5 => ?_)
  · skip
    refine q_iconst S0 dX11_asksChain_19 ?_
    refine q_cV (n := 1) (rest := []) (wr := [(az, gI g 325 Z)]) S0 hK hA hW (c_X11_asksF l g mo az ap ak ax a1 a2 a3 a4 a5 a6 v1 v2 v3 v4 v5 v6 pm ik ty th mn wt bn wh dp dg) gX11_asksChain_X11_asks rfl rfl rfl (by decide +kernel) ⟨Nat.le_of_ble_eq_true rfl, Nat.le_of_ble_eq_true rfl⟩ [0] [1] rfl rfl rfl rfl (by decide) (q_recv hK hW.1 (ci := 11) (q0 := 0) rfl rfl) (fun _ _ => trivial) (trivial) rfl rfl hl.1 (Nat.le_of_ble_eq_true rfl) ⟨Nat.le_of_ble_eq_true rfl, Nat.le_of_ble_eq_true rfl⟩ dX11_asksChain_20 (fun _ H locs _ hW => ?_)
    have hW : gW g A s.heap H _ [(az, gI g 325 Z), (mo, .inr (11, [.ref az, .ref ap, .int (iI pm), .ref ak, .int (iI ik), .ref ax, .int (iI ty), .int (iI 1), .ref a1, .ref a2, .int (iI mn), .ref a3, .int (iI wt), .ref a4, .ref a5, .ref a6, .ref v1, .ref v2, .ref v3, .ref v4, .ref v5, .ref v6, .int (iI bn), .int (iI wh), .int (iI dp), .int (iI dg)]))] := hW
    refine W.eq (g2 := F0 m 23 ls [.int (iI 0)]) rfl ?_
    refine lv_pop S0.1 S0.2.1 dX11_asksChain_23 rfl ?_
    refine lv_aload_n S0.1 S0.2.1 dX11_asksChain_24 rfl (lv_at hl 0 rfl) ?_
    refine lv_iload_n S0.1 S0.2.1 dX11_asksChain_25 rfl (lv_at hl 3 rfl) ?_
    refine q_iconst S0 dX11_asksChain_26 ?_
    refine lv_aload_n S0.1 S0.2.1 dX11_asksChain_27 rfl (lv_at hl 0 rfl) ?_
    refine q_get (C := RX11) (T := TX11) (N := 26) S0 hK hW.1 hinX11 1 rfl rfl 0 (by decide) (List.mem_of_getElem? (i := 1) rfl) rfl rfl dX11_asksChain_28 ?_
    refine q_iconst S0 dX11_asksChain_31 ?_
    refine q_iald S0 hK hW.1 0 rfl (by omega) dX11_asksChain_32 ?_
    refine W.eq (g2 := F0 m 33 ls [.int (iI (Z 0)), .int (iI 0), .int (iI x), .ref mo]) rfl ?_
    refine q_topI (b := fP F) (hz.1) ?_
    refine q_iconst S0 dX11_asksChain_33 ?_
    refine q_isub S0 dX11_asksChain_34 ?_
    refine q_pS (n := 3) (rest := [.ref mo]) S0 hK (c_X11_in l g x 0 ((fP F) - 1) (by omega) (by omega) (by omega)) (subP hW.1 [] rfl) (trivial) gX11_asksChain_X11_in rfl rfl rfl (by decide +kernel) ⟨Nat.le_of_ble_eq_true rfl, Nat.le_of_ble_eq_true rfl⟩ rfl rfl hl.1 (Nat.le_of_ble_eq_true rfl) ⟨Nat.le_of_ble_eq_true rfl, Nat.le_of_ble_eq_true rfl⟩ dX11_asksChain_35 ?_
    refine W.eq (g2 := F0 m 38 ls [.int (iI (if 0 ≤ x ∧ x ≤ ((fP F) - 1) then (1 : Int) else 0)), .ref mo]) rfl ?_
    refine q_iconst S0 dX11_asksChain_38 ?_
    refine q_cV (n := 2) (rest := []) (wr := [(az, gI g 325 Z)]) S0 hK hA hW (c_X11_asksThen1 l g mo az ap ak ax a1 a2 a3 a4 a5 a6 v1 v2 v3 v4 v5 v6 pm ik ty 1 mn wt bn wh dp dg (0 ≤ x ∧ x ≤ ((fP F) - 1)) 2 (by omega)) gX11_asksChain_X11_asksThen rfl rfl rfl (by decide +kernel) ⟨Nat.le_of_ble_eq_true rfl, Nat.le_of_ble_eq_true rfl⟩ [1] [0] rfl rfl rfl rfl (by decide) (q_recv hK hW.1 (ci := 11) (q0 := 1) rfl rfl) (fun _ _ => trivial) (trivial) rfl rfl hl.1 (Nat.le_of_ble_eq_true rfl) ⟨Nat.le_of_ble_eq_true rfl, Nat.le_of_ble_eq_true rfl⟩ dX11_asksChain_39 (fun _ H locs _ hW => ?_)
    have hW : gW g A s.heap H _ [(az, gI g 325 Z), (mo, .inr (11, [.ref az, .ref ap, .int (iI pm), .ref ak, .int (iI ik), .ref ax, .int (iI ty), .int (iI 1), .ref a1, .ref a2, .int (iI mn), .ref a3, .int (iI wt), .ref a4, .ref a5, .ref a6, .ref v1, .ref v2, .ref v3, .ref v4, .ref v5, .ref v6, .int (iI bn), .int (iI wh), .int (iI dp), .int (iI dg)]))] := hW
    refine W.eq (g2 := F0 m 42 ls [.int (iI 0)]) rfl ?_
    refine lv_istore (lv' := [(4, .int (iI 0)), (0, .ref mo), (1, .int (iI w)), (2, .int (iI u)), (3, .int (iI x))]) S0.1 S0.2.1 dX11_asksChain_42 hl (by decide) rfl (fun ls hl => ?_)
    refine lv_iload S0.1 S0.2.1 dX11_asksChain_44 (lv_at hl 0 rfl) ?_
    refine q_if_eq (tgt := 63) S0 (by omega) dX11_asksChain_46 (by decide) (fun c46 => ?_) (fun c46 => ?_)
    · skip
      refine lv_iload S0.1 S0.2.1 dX11_asksChain_63 (lv_at hl 0 rfl) ?_
      exact q_zret S0 hr hlocks () (trivial) (Or.inl rfl) (rfl) (hW.sub [1, 0] rfl (rfl)) (Nat.le_of_ble_eq_true rfl) (Nat.le_of_ble_eq_true rfl) dX11_asksChain_65
    · skip
      exact absurd c46 (by omega)
  · skip
    refine lv_iload_n S0.1 S0.2.1 dX11_asksChain_8 rfl (lv_at hl 2 rfl) ?_
    refine q_pS (n := 1) (rest := [.ref mo]) S0 hK (c_X11_isFunction l g u (by omega)) (subP hW.1 [] rfl) (trivial) gX11_asksChain_X11_isFunction rfl rfl rfl (by decide +kernel) ⟨Nat.le_of_ble_eq_true rfl, Nat.le_of_ble_eq_true rfl⟩ rfl rfl hl.1 (Nat.le_of_ble_eq_true rfl) ⟨Nat.le_of_ble_eq_true rfl, Nat.le_of_ble_eq_true rfl⟩ dX11_asksChain_9 ?_
    refine W.eq (g2 := F0 m 12 ls [.int (iI (if 0 ≤ u ∧ u ≤ 3 then (1 : Int) else 0)), .ref mo]) rfl ?_
    refine q_if_eqP (tgt := 19) S0 dX11_asksChain_12 (by decide) (fun c12 => ?_) (fun c12 => ?_)
    · skip
      refine q_iconst S0 dX11_asksChain_19 ?_
      refine q_cV (n := 1) (rest := []) (wr := [(az, gI g 325 Z)]) S0 hK hA hW (c_X11_asksF l g mo az ap ak ax a1 a2 a3 a4 a5 a6 v1 v2 v3 v4 v5 v6 pm ik ty th mn wt bn wh dp dg) gX11_asksChain_X11_asks rfl rfl rfl (by decide +kernel) ⟨Nat.le_of_ble_eq_true rfl, Nat.le_of_ble_eq_true rfl⟩ [0] [1] rfl rfl rfl rfl (by decide) (q_recv hK hW.1 (ci := 11) (q0 := 0) rfl rfl) (fun _ _ => trivial) (trivial) rfl rfl hl.1 (Nat.le_of_ble_eq_true rfl) ⟨Nat.le_of_ble_eq_true rfl, Nat.le_of_ble_eq_true rfl⟩ dX11_asksChain_20 (fun _ H locs _ hW => ?_)
      have hW : gW g A s.heap H _ [(az, gI g 325 Z), (mo, .inr (11, [.ref az, .ref ap, .int (iI pm), .ref ak, .int (iI ik), .ref ax, .int (iI ty), .int (iI 1), .ref a1, .ref a2, .int (iI mn), .ref a3, .int (iI wt), .ref a4, .ref a5, .ref a6, .ref v1, .ref v2, .ref v3, .ref v4, .ref v5, .ref v6, .int (iI bn), .int (iI wh), .int (iI dp), .int (iI dg)]))] := hW
      refine W.eq (g2 := F0 m 23 ls [.int (iI 0)]) rfl ?_
      refine lv_pop S0.1 S0.2.1 dX11_asksChain_23 rfl ?_
      refine lv_aload_n S0.1 S0.2.1 dX11_asksChain_24 rfl (lv_at hl 0 rfl) ?_
      refine lv_iload_n S0.1 S0.2.1 dX11_asksChain_25 rfl (lv_at hl 3 rfl) ?_
      refine q_iconst S0 dX11_asksChain_26 ?_
      refine lv_aload_n S0.1 S0.2.1 dX11_asksChain_27 rfl (lv_at hl 0 rfl) ?_
      refine q_get (C := RX11) (T := TX11) (N := 26) S0 hK hW.1 hinX11 1 rfl rfl 0 (by decide) (List.mem_of_getElem? (i := 1) rfl) rfl rfl dX11_asksChain_28 ?_
      refine q_iconst S0 dX11_asksChain_31 ?_
      refine q_iald S0 hK hW.1 0 rfl (by omega) dX11_asksChain_32 ?_
      refine W.eq (g2 := F0 m 33 ls [.int (iI (Z 0)), .int (iI 0), .int (iI x), .ref mo]) rfl ?_
      refine q_topI (b := fP F) (hz.1) ?_
      refine q_iconst S0 dX11_asksChain_33 ?_
      refine q_isub S0 dX11_asksChain_34 ?_
      refine q_pS (n := 3) (rest := [.ref mo]) S0 hK (c_X11_in l g x 0 ((fP F) - 1) (by omega) (by omega) (by omega)) (subP hW.1 [] rfl) (trivial) gX11_asksChain_X11_in rfl rfl rfl (by decide +kernel) ⟨Nat.le_of_ble_eq_true rfl, Nat.le_of_ble_eq_true rfl⟩ rfl rfl hl.1 (Nat.le_of_ble_eq_true rfl) ⟨Nat.le_of_ble_eq_true rfl, Nat.le_of_ble_eq_true rfl⟩ dX11_asksChain_35 ?_
      refine W.eq (g2 := F0 m 38 ls [.int (iI (if 0 ≤ x ∧ x ≤ ((fP F) - 1) then (1 : Int) else 0)), .ref mo]) rfl ?_
      refine q_iconst S0 dX11_asksChain_38 ?_
      refine q_cV (n := 2) (rest := []) (wr := [(az, gI g 325 Z)]) S0 hK hA hW (c_X11_asksThen1 l g mo az ap ak ax a1 a2 a3 a4 a5 a6 v1 v2 v3 v4 v5 v6 pm ik ty 1 mn wt bn wh dp dg (0 ≤ x ∧ x ≤ ((fP F) - 1)) 2 (by omega)) gX11_asksChain_X11_asksThen rfl rfl rfl (by decide +kernel) ⟨Nat.le_of_ble_eq_true rfl, Nat.le_of_ble_eq_true rfl⟩ [1] [0] rfl rfl rfl rfl (by decide) (q_recv hK hW.1 (ci := 11) (q0 := 1) rfl rfl) (fun _ _ => trivial) (trivial) rfl rfl hl.1 (Nat.le_of_ble_eq_true rfl) ⟨Nat.le_of_ble_eq_true rfl, Nat.le_of_ble_eq_true rfl⟩ dX11_asksChain_39 (fun _ H locs _ hW => ?_)
      have hW : gW g A s.heap H _ [(az, gI g 325 Z), (mo, .inr (11, [.ref az, .ref ap, .int (iI pm), .ref ak, .int (iI ik), .ref ax, .int (iI ty), .int (iI 1), .ref a1, .ref a2, .int (iI mn), .ref a3, .int (iI wt), .ref a4, .ref a5, .ref a6, .ref v1, .ref v2, .ref v3, .ref v4, .ref v5, .ref v6, .int (iI bn), .int (iI wh), .int (iI dp), .int (iI dg)]))] := hW
      refine W.eq (g2 := F0 m 42 ls [.int (iI 0)]) rfl ?_
      refine lv_istore (lv' := [(4, .int (iI 0)), (0, .ref mo), (1, .int (iI w)), (2, .int (iI u)), (3, .int (iI x))]) S0.1 S0.2.1 dX11_asksChain_42 hl (by decide) rfl (fun ls hl => ?_)
      refine lv_iload S0.1 S0.2.1 dX11_asksChain_44 (lv_at hl 0 rfl) ?_
      refine q_if_eq (tgt := 63) S0 (by omega) dX11_asksChain_46 (by decide) (fun c46 => ?_) (fun c46 => ?_)
      · skip
        refine lv_iload S0.1 S0.2.1 dX11_asksChain_63 (lv_at hl 0 rfl) ?_
        exact q_zret S0 hr hlocks () (trivial) (Or.inl rfl) (rfl) (hW.sub [1, 0] rfl (rfl)) (Nat.le_of_ble_eq_true rfl) (Nat.le_of_ble_eq_true rfl) dX11_asksChain_65
      · skip
        exact absurd c46 (by omega)
    · skip
      exact absurd c12 (by omega)
set_option maxHeartbeats 4000000 in
set_option maxRecDepth 100000 in
theorem c_X11_asksChain2 (l : Launch) (g : GG) (mo az ap ak ax a1 a2 a3 a4 a5 a6 v1 v2 v3 v4 v5 v6 : Nat) (pm ik ty th mn wt bn wh dp dg : Int) (Z : Nat → Int) (F : FT) (w u x : Int) (hG : GF F) (hz : ZR Z F) (hw : 0 ≤ w ∧ w < 4) (hu : 0 ≤ u ∧ u < 4) (hx : (x < 0 ∨ fP F ≤ x) ∧ -2147483648 ≤ x ∧ x < 2147483648) : qMet l yX11_asksChain wsX11_asksChain ({ frames := 2, cells := 0, slots := 0, locals := 42 }) g [.ref mo, .int (iI w), .int (iI u), .int (iI x)] [(mo, .inr (11, [.ref az, .ref ap, .int (iI pm), .ref ak, .int (iI ik), .ref ax, .int (iI ty), .int (iI th), .ref a1, .ref a2, .int (iI mn), .ref a3, .int (iI wt), .ref a4, .ref a5, .ref a6, .ref v1, .ref v2, .ref v3, .ref v4, .ref v5, .ref v6, .int (iI bn), .int (iI wh), .int (iI dp), .int (iI dg)])), (az, gI g 325 Z)] (fun _ => True) (fun _ => True) (S := Unit) (fun _ => some (.int (iI 0))) (fun _ => [(mo, .inr (11, [.ref az, .ref ap, .int (iI pm), .ref ak, .int (iI ik), .ref ax, .int (iI ty), .int (iI 2), .ref a1, .ref a2, .int (iI mn), .ref a3, .int (iI wt), .ref a4, .ref a5, .ref a6, .ref v1, .ref v2, .ref v3, .ref v4, .ref v5, .ref v6, .int (iI bn), .int (iI wh), .int (iI dp), .int (iI dg)])), (az, gI g 325 Z)]) (fun _ => True) 0 0 := by
  refine q_ofW (cc := cX11_asksChain) (maxL := 5) (ret := (some .boolean)) (fun sz h => h.self) (by decide) rfl (Nat.le_of_ble_eq_true rfl) ?_
  intro p e s m args below meth c A ls S0 hr hlocks hnme hK hA hAe hW hD0 hX hl
  have hW : gW g A s.heap s.heap [] [(mo, .inr (11, [.ref az, .ref ap, .int (iI pm), .ref ak, .int (iI ik), .ref ax, .int (iI ty), .int (iI th), .ref a1, .ref a2, .int (iI mn), .ref a3, .int (iI wt), .ref a4, .ref a5, .ref a6, .ref v1, .ref v2, .ref v3, .ref v4, .ref v5, .ref v6, .int (iI bn), .int (iI wh), .int (iI dp), .int (iI dg)])), (az, gI g 325 Z)] := hW
  have hl : lv_has ls 5 [(0, .ref mo), (1, .int (iI w)), (2, .int (iI u)), (3, .int (iI x))] := hl
  have hinX11 : ∀ w ∈ wsX110, w ∈ wsX11_asksChain := fun w h => List.mem_cons_of_mem _ (List.mem_append_right _ h)
  have hpr := GF_p hG
  refine lv_aload_n S0.1 S0.2.1 dX11_asksChain_0 rfl (lv_at hl 0 rfl) ?_
  refine lv_iload_n S0.1 S0.2.1 dX11_asksChain_1 rfl (lv_at hl 1 rfl) ?_
  refine q_pS (n := 1) (rest := [.ref mo]) S0 hK (c_X11_isFunction l g w (by omega)) (subP hW.1 [] rfl) (trivial) gX11_asksChain_X11_isFunction rfl rfl rfl (by decide +kernel) ⟨Nat.le_of_ble_eq_true rfl, Nat.le_of_ble_eq_true rfl⟩ rfl rfl hl.1 (Nat.le_of_ble_eq_true rfl) ⟨Nat.le_of_ble_eq_true rfl, Nat.le_of_ble_eq_true rfl⟩ dX11_asksChain_2 ?_
  refine W.eq (g2 := F0 m 5 ls [.int (iI (if 0 ≤ w ∧ w ≤ 3 then (1 : Int) else 0)), .ref mo]) rfl ?_
  refine q_if_eqP (tgt := 19) S0 dX11_asksChain_5 (by decide) (fun c5 => ?_) (fun c5 => ?_)
  · skip
    exact absurd c5 (by omega)
  · skip
    refine lv_iload_n S0.1 S0.2.1 dX11_asksChain_8 rfl (lv_at hl 2 rfl) ?_
    refine q_pS (n := 1) (rest := [.ref mo]) S0 hK (c_X11_isFunction l g u (by omega)) (subP hW.1 [] rfl) (trivial) gX11_asksChain_X11_isFunction rfl rfl rfl (by decide +kernel) ⟨Nat.le_of_ble_eq_true rfl, Nat.le_of_ble_eq_true rfl⟩ rfl rfl hl.1 (Nat.le_of_ble_eq_true rfl) ⟨Nat.le_of_ble_eq_true rfl, Nat.le_of_ble_eq_true rfl⟩ dX11_asksChain_9 ?_
    refine W.eq (g2 := F0 m 12 ls [.int (iI (if 0 ≤ u ∧ u ≤ 3 then (1 : Int) else 0)), .ref mo]) rfl ?_
    refine q_if_eqP (tgt := 19) S0 dX11_asksChain_12 (by decide) (fun c12 => ?_) (fun c12 => ?_)
    · skip
      exact absurd c12 (by omega)
    · skip
      refine q_iconst S0 dX11_asksChain_15 ?_
      refine lv_goto (tgt := 20) S0.1 S0.2.1 dX11_asksChain_16 (by decide) ?_
      refine q_cV (n := 1) (rest := []) (wr := [(az, gI g 325 Z)]) S0 hK hA hW (c_X11_asksT l g mo az ap ak ax a1 a2 a3 a4 a5 a6 v1 v2 v3 v4 v5 v6 pm ik ty th mn wt bn wh dp dg) gX11_asksChain_X11_asks rfl rfl rfl (by decide +kernel) ⟨Nat.le_of_ble_eq_true rfl, Nat.le_of_ble_eq_true rfl⟩ [0] [1] rfl rfl rfl rfl (by decide) (q_recv hK hW.1 (ci := 11) (q0 := 0) rfl rfl) (fun _ _ => trivial) (trivial) rfl rfl hl.1 (Nat.le_of_ble_eq_true rfl) ⟨Nat.le_of_ble_eq_true rfl, Nat.le_of_ble_eq_true rfl⟩ dX11_asksChain_20 (fun _ H locs _ hW => ?_)
      have hW : gW g A s.heap H _ [(az, gI g 325 Z), (mo, .inr (11, [.ref az, .ref ap, .int (iI pm), .ref ak, .int (iI ik), .ref ax, .int (iI ty), .int (iI 0), .ref a1, .ref a2, .int (iI mn), .ref a3, .int (iI wt), .ref a4, .ref a5, .ref a6, .ref v1, .ref v2, .ref v3, .ref v4, .ref v5, .ref v6, .int (iI bn), .int (iI wh), .int (iI dp), .int (iI dg)]))] := hW
      refine W.eq (g2 := F0 m 23 ls [.int (iI 1)]) rfl ?_
      refine lv_pop S0.1 S0.2.1 dX11_asksChain_23 rfl ?_
      refine lv_aload_n S0.1 S0.2.1 dX11_asksChain_24 rfl (lv_at hl 0 rfl) ?_
      refine lv_iload_n S0.1 S0.2.1 dX11_asksChain_25 rfl (lv_at hl 3 rfl) ?_
      refine q_iconst S0 dX11_asksChain_26 ?_
      refine lv_aload_n S0.1 S0.2.1 dX11_asksChain_27 rfl (lv_at hl 0 rfl) ?_
      refine q_get (C := RX11) (T := TX11) (N := 26) S0 hK hW.1 hinX11 1 rfl rfl 0 (by decide) (List.mem_of_getElem? (i := 1) rfl) rfl rfl dX11_asksChain_28 ?_
      refine q_iconst S0 dX11_asksChain_31 ?_
      refine q_iald S0 hK hW.1 0 rfl (by omega) dX11_asksChain_32 ?_
      refine W.eq (g2 := F0 m 33 ls [.int (iI (Z 0)), .int (iI 0), .int (iI x), .ref mo]) rfl ?_
      refine q_topI (b := fP F) (hz.1) ?_
      refine q_iconst S0 dX11_asksChain_33 ?_
      refine q_isub S0 dX11_asksChain_34 ?_
      refine q_pS (n := 3) (rest := [.ref mo]) S0 hK (c_X11_in l g x 0 ((fP F) - 1) (by omega) (by omega) (by omega)) (subP hW.1 [] rfl) (trivial) gX11_asksChain_X11_in rfl rfl rfl (by decide +kernel) ⟨Nat.le_of_ble_eq_true rfl, Nat.le_of_ble_eq_true rfl⟩ rfl rfl hl.1 (Nat.le_of_ble_eq_true rfl) ⟨Nat.le_of_ble_eq_true rfl, Nat.le_of_ble_eq_true rfl⟩ dX11_asksChain_35 ?_
      refine W.eq (g2 := F0 m 38 ls [.int (iI (if 0 ≤ x ∧ x ≤ ((fP F) - 1) then (1 : Int) else 0)), .ref mo]) rfl ?_
      refine q_iconst S0 dX11_asksChain_38 ?_
      refine q_cV (n := 2) (rest := []) (wr := [(az, gI g 325 Z)]) S0 hK hA hW (c_X11_asksThen2 l g mo az ap ak ax a1 a2 a3 a4 a5 a6 v1 v2 v3 v4 v5 v6 pm ik ty 0 mn wt bn wh dp dg (0 ≤ x ∧ x ≤ ((fP F) - 1)) 2 (rfl) (by omega) (by omega)) gX11_asksChain_X11_asksThen rfl rfl rfl (by decide +kernel) ⟨Nat.le_of_ble_eq_true rfl, Nat.le_of_ble_eq_true rfl⟩ [1] [0] rfl rfl rfl rfl (by decide) (q_recv hK hW.1 (ci := 11) (q0 := 1) rfl rfl) (fun _ _ => trivial) (trivial) rfl rfl hl.1 (Nat.le_of_ble_eq_true rfl) ⟨Nat.le_of_ble_eq_true rfl, Nat.le_of_ble_eq_true rfl⟩ dX11_asksChain_39 (fun _ H locs _ hW => ?_)
      have hW : gW g A s.heap H _ [(az, gI g 325 Z), (mo, .inr (11, [.ref az, .ref ap, .int (iI pm), .ref ak, .int (iI ik), .ref ax, .int (iI ty), .int (iI 2), .ref a1, .ref a2, .int (iI mn), .ref a3, .int (iI wt), .ref a4, .ref a5, .ref a6, .ref v1, .ref v2, .ref v3, .ref v4, .ref v5, .ref v6, .int (iI bn), .int (iI wh), .int (iI dp), .int (iI dg)]))] := hW
      refine W.eq (g2 := F0 m 42 ls [.int (iI 0)]) rfl ?_
      refine lv_istore (lv' := [(4, .int (iI 0)), (0, .ref mo), (1, .int (iI w)), (2, .int (iI u)), (3, .int (iI x))]) S0.1 S0.2.1 dX11_asksChain_42 hl (by decide) rfl (fun ls hl => ?_)
      refine lv_iload S0.1 S0.2.1 dX11_asksChain_44 (lv_at hl 0 rfl) ?_
      refine q_if_eq (tgt := 63) S0 (by omega) dX11_asksChain_46 (by decide) (fun c46 => ?_) (fun c46 => ?_)
      · skip
        refine lv_iload S0.1 S0.2.1 dX11_asksChain_63 (lv_at hl 0 rfl) ?_
        exact q_zret S0 hr hlocks () (trivial) (Or.inl rfl) (rfl) (hW.sub [1, 0] rfl (rfl)) (Nat.le_of_ble_eq_true rfl) (Nat.le_of_ble_eq_true rfl) dX11_asksChain_65
      · skip
        exact absurd c46 (by omega)
set_option maxHeartbeats 4000000 in
set_option maxRecDepth 100000 in
theorem c_X11_asksChain0 (l : Launch) (g : GG) (mo az ap ak ax a1 a2 a3 a4 a5 a6 v1 v2 v3 v4 v5 v6 : Nat) (pm ik ty th mn wt bn wh dp dg : Int) (Z : Nat → Int) (F : FT) (K : KT) (w u x : Int) (hG : GF F) (hz : ZR Z F) (hlk : LKG F) (hw : 0 ≤ w ∧ w < 4) (hu : 0 ≤ u ∧ u < 4) (hx : 0 ≤ x ∧ x < fP F) : qMet l yX11_asksChain wsX11_asksChain ({ frames := 5, cells := 0, slots := 0, locals := 123 }) g [.ref mo, .int (iI w), .int (iI u), .int (iI x)] [(mo, .inr (11, [.ref az, .ref ap, .int (iI pm), .ref ak, .int (iI ik), .ref ax, .int (iI ty), .int (iI th), .ref a1, .ref a2, .int (iI mn), .ref a3, .int (iI wt), .ref a4, .ref a5, .ref a6, .ref v1, .ref v2, .ref v3, .ref v4, .ref v5, .ref v6, .int (iI bn), .int (iI wh), .int (iI dp), .int (iI dg)])), (az, gI g 325 Z), (a4, gI g 796 (kV K)), (a5, gI g 796 (kH K)), (a6, gI g 796 (kR K)), (v1, gI g 41 (kW K)), (v2, gI g 41 (kS K)), (v3, gI g 41 (kL K)), (v4, gI g 41 (kE K)), (v5, gI g 41 (kX K)), (v6, gI g 41 (kT K))] (fun _ => True) (fun _ => True) (S := KT × Int) (fun u_ => some (.int (iI 1))) (fun u_ => [(mo, .inr (11, [.ref az, .ref ap, .int (iI pm), .ref ak, .int (iI ik), .ref ax, .int (iI ty), .int (iI 0), .ref a1, .ref a2, .int (iI mn), .ref a3, .int (iI wt), .ref a4, .ref a5, .ref a6, .ref v1, .ref v2, .ref v3, .ref v4, .ref v5, .ref v6, .int (iI u_.2), .int (iI wh), .int (iI dp), .int (iI dg)])), (az, gI g 325 Z), (a4, gI g 796 (kV u_.1)), (a5, gI g 796 (kH u_.1)), (a6, gI g 796 (kR u_.1)), (v1, gI g 41 (kW u_.1)), (v2, gI g 41 (kS u_.1)), (v3, gI g 41 (kL u_.1)), (v4, gI g 41 (kE u_.1)), (v5, gI g 41 (kX u_.1)), (v6, gI g 41 (kT u_.1))]) (fun u_ => TB F (w + 1) (kV u_.1) (kH u_.1) (kR u_.1) ∧ TB F (u + 1) (kV u_.1) (kH u_.1) (kR u_.1)) 0 0 := by
  refine q_ofW (cc := cX11_asksChain) (maxL := 5) (ret := (some .boolean)) (fun sz h => h.self) (by decide) rfl (Nat.le_of_ble_eq_true rfl) ?_
  intro p e s m args below meth c A ls S0 hr hlocks hnme hK hA hAe hW hD0 hX hl
  have hW : gW g A s.heap s.heap [] [(mo, .inr (11, [.ref az, .ref ap, .int (iI pm), .ref ak, .int (iI ik), .ref ax, .int (iI ty), .int (iI th), .ref a1, .ref a2, .int (iI mn), .ref a3, .int (iI wt), .ref a4, .ref a5, .ref a6, .ref v1, .ref v2, .ref v3, .ref v4, .ref v5, .ref v6, .int (iI bn), .int (iI wh), .int (iI dp), .int (iI dg)])), (az, gI g 325 Z), (a4, gI g 796 (kV K)), (a5, gI g 796 (kH K)), (a6, gI g 796 (kR K)), (v1, gI g 41 (kW K)), (v2, gI g 41 (kS K)), (v3, gI g 41 (kL K)), (v4, gI g 41 (kE K)), (v5, gI g 41 (kX K)), (v6, gI g 41 (kT K))] := hW
  have hl : lv_has ls 5 [(0, .ref mo), (1, .int (iI w)), (2, .int (iI u)), (3, .int (iI x))] := hl
  have hinX11 : ∀ w ∈ wsX110, w ∈ wsX11_asksChain := fun w h => List.mem_cons_of_mem _ (List.mem_append_right _ h)
  have hpr := GF_p hG
  refine lv_aload_n S0.1 S0.2.1 dX11_asksChain_0 rfl (lv_at hl 0 rfl) ?_
  refine lv_iload_n S0.1 S0.2.1 dX11_asksChain_1 rfl (lv_at hl 1 rfl) ?_
  refine q_pS (n := 1) (rest := [.ref mo]) S0 hK (c_X11_isFunction l g w (by omega)) (subP hW.1 [] rfl) (trivial) gX11_asksChain_X11_isFunction rfl rfl rfl (by decide +kernel) ⟨Nat.le_of_ble_eq_true rfl, Nat.le_of_ble_eq_true rfl⟩ rfl rfl hl.1 (Nat.le_of_ble_eq_true rfl) ⟨Nat.le_of_ble_eq_true rfl, Nat.le_of_ble_eq_true rfl⟩ dX11_asksChain_2 ?_
  refine W.eq (g2 := F0 m 5 ls [.int (iI (if 0 ≤ w ∧ w ≤ 3 then (1 : Int) else 0)), .ref mo]) rfl ?_
  refine q_if_eqP (tgt := 19) S0 dX11_asksChain_5 (by decide) (fun c5 => ?_) (fun c5 => ?_)
  · skip
    exact absurd c5 (by omega)
  · skip
    refine lv_iload_n S0.1 S0.2.1 dX11_asksChain_8 rfl (lv_at hl 2 rfl) ?_
    refine q_pS (n := 1) (rest := [.ref mo]) S0 hK (c_X11_isFunction l g u (by omega)) (subP hW.1 [] rfl) (trivial) gX11_asksChain_X11_isFunction rfl rfl rfl (by decide +kernel) ⟨Nat.le_of_ble_eq_true rfl, Nat.le_of_ble_eq_true rfl⟩ rfl rfl hl.1 (Nat.le_of_ble_eq_true rfl) ⟨Nat.le_of_ble_eq_true rfl, Nat.le_of_ble_eq_true rfl⟩ dX11_asksChain_9 ?_
    refine W.eq (g2 := F0 m 12 ls [.int (iI (if 0 ≤ u ∧ u ≤ 3 then (1 : Int) else 0)), .ref mo]) rfl ?_
    refine q_if_eqP (tgt := 19) S0 dX11_asksChain_12 (by decide) (fun c12 => ?_) (fun c12 => ?_)
    · skip
      exact absurd c12 (by omega)
    · skip
      refine q_iconst S0 dX11_asksChain_15 ?_
      refine lv_goto (tgt := 20) S0.1 S0.2.1 dX11_asksChain_16 (by decide) ?_
      refine q_cV (n := 1) (rest := []) (wr := [(az, gI g 325 Z), (a4, gI g 796 (kV K)), (a5, gI g 796 (kH K)), (a6, gI g 796 (kR K)), (v1, gI g 41 (kW K)), (v2, gI g 41 (kS K)), (v3, gI g 41 (kL K)), (v4, gI g 41 (kE K)), (v5, gI g 41 (kX K)), (v6, gI g 41 (kT K))]) S0 hK hA hW (c_X11_asksT l g mo az ap ak ax a1 a2 a3 a4 a5 a6 v1 v2 v3 v4 v5 v6 pm ik ty th mn wt bn wh dp dg) gX11_asksChain_X11_asks rfl rfl rfl (by decide +kernel) ⟨Nat.le_of_ble_eq_true rfl, Nat.le_of_ble_eq_true rfl⟩ [0] [1, 2, 3, 4, 5, 6, 7, 8, 9, 10] rfl rfl rfl rfl (by decide) (q_recv hK hW.1 (ci := 11) (q0 := 0) rfl rfl) (fun _ _ => trivial) (trivial) rfl rfl hl.1 (Nat.le_of_ble_eq_true rfl) ⟨Nat.le_of_ble_eq_true rfl, Nat.le_of_ble_eq_true rfl⟩ dX11_asksChain_20 (fun _ H locs _ hW => ?_)
      have hW : gW g A s.heap H _ [(az, gI g 325 Z), (a4, gI g 796 (kV K)), (a5, gI g 796 (kH K)), (a6, gI g 796 (kR K)), (v1, gI g 41 (kW K)), (v2, gI g 41 (kS K)), (v3, gI g 41 (kL K)), (v4, gI g 41 (kE K)), (v5, gI g 41 (kX K)), (v6, gI g 41 (kT K)), (mo, .inr (11, [.ref az, .ref ap, .int (iI pm), .ref ak, .int (iI ik), .ref ax, .int (iI ty), .int (iI 0), .ref a1, .ref a2, .int (iI mn), .ref a3, .int (iI wt), .ref a4, .ref a5, .ref a6, .ref v1, .ref v2, .ref v3, .ref v4, .ref v5, .ref v6, .int (iI bn), .int (iI wh), .int (iI dp), .int (iI dg)]))] := hW
      refine W.eq (g2 := F0 m 23 ls [.int (iI 1)]) rfl ?_
      refine lv_pop S0.1 S0.2.1 dX11_asksChain_23 rfl ?_
      refine lv_aload_n S0.1 S0.2.1 dX11_asksChain_24 rfl (lv_at hl 0 rfl) ?_
      refine lv_iload_n S0.1 S0.2.1 dX11_asksChain_25 rfl (lv_at hl 3 rfl) ?_
      refine q_iconst S0 dX11_asksChain_26 ?_
      refine lv_aload_n S0.1 S0.2.1 dX11_asksChain_27 rfl (lv_at hl 0 rfl) ?_
      refine q_get (C := RX11) (T := TX11) (N := 26) S0 hK hW.1 hinX11 10 rfl rfl 0 (by decide) (List.mem_of_getElem? (i := 1) rfl) rfl rfl dX11_asksChain_28 ?_
      refine q_iconst S0 dX11_asksChain_31 ?_
      refine q_iald S0 hK hW.1 0 rfl (by omega) dX11_asksChain_32 ?_
      refine W.eq (g2 := F0 m 33 ls [.int (iI (Z 0)), .int (iI 0), .int (iI x), .ref mo]) rfl ?_
      refine q_topI (b := fP F) (hz.1) ?_
      refine q_iconst S0 dX11_asksChain_33 ?_
      refine q_isub S0 dX11_asksChain_34 ?_
      refine q_pS (n := 3) (rest := [.ref mo]) S0 hK (c_X11_in l g x 0 ((fP F) - 1) (by omega) (by omega) (by omega)) (subP hW.1 [] rfl) (trivial) gX11_asksChain_X11_in rfl rfl rfl (by decide +kernel) ⟨Nat.le_of_ble_eq_true rfl, Nat.le_of_ble_eq_true rfl⟩ rfl rfl hl.1 (Nat.le_of_ble_eq_true rfl) ⟨Nat.le_of_ble_eq_true rfl, Nat.le_of_ble_eq_true rfl⟩ dX11_asksChain_35 ?_
      refine W.eq (g2 := F0 m 38 ls [.int (iI (if 0 ≤ x ∧ x ≤ ((fP F) - 1) then (1 : Int) else 0)), .ref mo]) rfl ?_
      refine q_iconst S0 dX11_asksChain_38 ?_
      refine q_cV (n := 2) (rest := []) (wr := [(az, gI g 325 Z), (a4, gI g 796 (kV K)), (a5, gI g 796 (kH K)), (a6, gI g 796 (kR K)), (v1, gI g 41 (kW K)), (v2, gI g 41 (kS K)), (v3, gI g 41 (kL K)), (v4, gI g 41 (kE K)), (v5, gI g 41 (kX K)), (v6, gI g 41 (kT K))]) S0 hK hA hW (c_X11_asksThen0 l g mo az ap ak ax a1 a2 a3 a4 a5 a6 v1 v2 v3 v4 v5 v6 pm ik ty 0 mn wt bn wh dp dg (0 ≤ x ∧ x ≤ ((fP F) - 1)) 2 (rfl) (by omega)) gX11_asksChain_X11_asksThen rfl rfl rfl (by decide +kernel) ⟨Nat.le_of_ble_eq_true rfl, Nat.le_of_ble_eq_true rfl⟩ [10] [0, 1, 2, 3, 4, 5, 6, 7, 8, 9] rfl rfl rfl rfl (by decide) (q_recv hK hW.1 (ci := 11) (q0 := 10) rfl rfl) (fun _ _ => trivial) (trivial) rfl rfl hl.1 (Nat.le_of_ble_eq_true rfl) ⟨Nat.le_of_ble_eq_true rfl, Nat.le_of_ble_eq_true rfl⟩ dX11_asksChain_39 (fun _ H locs _ hW => ?_)
      have hW : gW g A s.heap H _ [(az, gI g 325 Z), (a4, gI g 796 (kV K)), (a5, gI g 796 (kH K)), (a6, gI g 796 (kR K)), (v1, gI g 41 (kW K)), (v2, gI g 41 (kS K)), (v3, gI g 41 (kL K)), (v4, gI g 41 (kE K)), (v5, gI g 41 (kX K)), (v6, gI g 41 (kT K)), (mo, .inr (11, [.ref az, .ref ap, .int (iI pm), .ref ak, .int (iI ik), .ref ax, .int (iI ty), .int (iI 0), .ref a1, .ref a2, .int (iI mn), .ref a3, .int (iI wt), .ref a4, .ref a5, .ref a6, .ref v1, .ref v2, .ref v3, .ref v4, .ref v5, .ref v6, .int (iI bn), .int (iI wh), .int (iI dp), .int (iI dg)]))] := hW
      refine W.eq (g2 := F0 m 42 ls [.int (iI 1)]) rfl ?_
      refine lv_istore (lv' := [(4, .int (iI 1)), (0, .ref mo), (1, .int (iI w)), (2, .int (iI u)), (3, .int (iI x))]) S0.1 S0.2.1 dX11_asksChain_42 hl (by decide) rfl (fun ls hl => ?_)
      refine lv_iload S0.1 S0.2.1 dX11_asksChain_44 (lv_at hl 0 rfl) ?_
      refine q_if_eq (tgt := 63) S0 (by omega) dX11_asksChain_46 (by decide) (fun c46 => ?_) (fun c46 => ?_)
      · skip
        exact absurd c46 (by omega)
      · skip
        refine lv_aload_n S0.1 S0.2.1 dX11_asksChain_49 rfl (lv_at hl 1 rfl) ?_
        refine q_cut (α := Int) (fun q9 => F0 m 60 ls (.int (iI q9) :: [.ref mo])) (fun q9 => q9 = if u < w then w else u) (fun q9 hq9 => ?_) (fun hJ50 => ?_)
        · skip
          have hq1 : w ≤ q9 ∧ u ≤ q9 := by rw [hq9]; split <;> omega
          refine q_cV (n := 1) (rest := []) (wr := []) S0 hK hA hW (c_X11_knows l g mo az ap ak ax a1 a2 a3 a4 a5 a6 v1 v2 v3 v4 v5 v6 pm ik ty 0 mn wt bn wh dp dg Z F K q9 (hG) (hz) (hlk) (by rw [hq9]; split <;> omega)) gX11_asksChain_X11_knows rfl rfl rfl (by decide +kernel) ⟨Nat.le_of_ble_eq_true rfl, Nat.le_of_ble_eq_true rfl⟩ [10, 0, 1, 2, 3, 4, 5, 6, 7, 8, 9] [] rfl rfl rfl rfl (by decide) (q_recv hK hW.1 (ci := 11) (q0 := 10) rfl rfl) (fun _ _ => trivial) (trivial) rfl rfl hl.1 (Nat.le_of_ble_eq_true rfl) ⟨Nat.le_of_ble_eq_true rfl, Nat.le_of_ble_eq_true rfl⟩ dX11_asksChain_60 ?_
          rintro ⟨Ka, ba⟩ H locs hp hW
          try dsimp only at hp
          have hW : gW g A s.heap H _ [(mo, .inr (11, [.ref az, .ref ap, .int (iI pm), .ref ak, .int (iI ik), .ref ax, .int (iI ty), .int (iI 0), .ref a1, .ref a2, .int (iI mn), .ref a3, .int (iI wt), .ref a4, .ref a5, .ref a6, .ref v1, .ref v2, .ref v3, .ref v4, .ref v5, .ref v6, .int (iI ba), .int (iI wh), .int (iI dp), .int (iI dg)])), (az, gI g 325 Z), (a4, gI g 796 (kV Ka)), (a5, gI g 796 (kH Ka)), (a6, gI g 796 (kR Ka)), (v1, gI g 41 (kW Ka)), (v2, gI g 41 (kS Ka)), (v3, gI g 41 (kL Ka)), (v4, gI g 41 (kE Ka)), (v5, gI g 41 (kX Ka)), (v6, gI g 41 (kT Ka))] := hW
          refine W.eq (g2 := F0 m 63 ls []) rfl ?_
          have hTBw : TB F (w + 1) (kV Ka) (kH Ka) (kR Ka) := TB_le hp (by omega)
          have hTB : TB F (u + 1) (kV Ka) (kH Ka) (kR Ka) := TB_le hp (by omega)
          refine lv_iload S0.1 S0.2.1 dX11_asksChain_63 (lv_at hl 0 rfl) ?_
          exact q_zret S0 hr hlocks (Ka, ba) (⟨hTBw, hTB⟩) (Or.inr rfl) (rfl) (hW.sub [0, 1, 2, 3, 4, 5, 6, 7, 8, 9, 10] rfl (rfl)) (Nat.le_of_ble_eq_true rfl) (Nat.le_of_ble_eq_true rfl) dX11_asksChain_65
        · skip
          refine lv_iload_n S0.1 S0.2.1 dX11_asksChain_50 rfl (lv_at hl 2 rfl) ?_
          refine lv_iload_n S0.1 S0.2.1 dX11_asksChain_51 rfl (lv_at hl 3 rfl) ?_
          refine q_icmp_le (tgt := 59) S0 (by omega) dX11_asksChain_52 (by decide) (fun c52 => ?_) (fun c52 => ?_)
          · skip
            refine lv_iload_n S0.1 S0.2.1 dX11_asksChain_59 rfl (lv_at hl 3 rfl) ?_
            exact hJ50 _ (by first | (rw [if_pos (by omega)]; done) | (rw [if_neg (by omega)]; done) | omega)
          · skip
            refine lv_iload_n S0.1 S0.2.1 dX11_asksChain_55 rfl (lv_at hl 2 rfl) ?_
            refine lv_goto (tgt := 60) S0.1 S0.2.1 dX11_asksChain_56 (by decide) ?_
            exact hJ50 _ (by first | (rw [if_pos (by omega)]; done) | (rw [if_neg (by omega)]; done) | omega)
set_option maxHeartbeats 4000000 in
set_option maxRecDepth 100000 in
theorem c_X11_chainByProducts1 (l : Launch) (g : GG) (mo az ap ak ax a1 a2 a3 a4 a5 a6 v1 v2 v3 v4 v5 v6 : Nat) (pm ik ty th mn wt bn wh dp dg : Int) (Z : Nat → Int) (F : FT) (w u x : Int) (hG : GF F) (hz : ZR Z F) (hu : ¬ ((0 ≤ w ∧ w ≤ 3) ∧ (0 ≤ u ∧ u ≤ 3)) ∧ (-2147483648 ≤ w ∧ w < 2147483648) ∧ (-2147483648 ≤ u ∧ u < 2147483648)) (hx : -2147483648 ≤ x ∧ x < 2147483648) : qMet l yX11_chainByProducts wsX11_chainByProducts ({ frames := 3, cells := 0, slots := 0, locals := 66 }) g [.ref mo, .int (iI w), .int (iI u), .int (iI x)] [(mo, .inr (11, [.ref az, .ref ap, .int (iI pm), .ref ak, .int (iI ik), .ref ax, .int (iI ty), .int (iI th), .ref a1, .ref a2, .int (iI mn), .ref a3, .int (iI wt), .ref a4, .ref a5, .ref a6, .ref v1, .ref v2, .ref v3, .ref v4, .ref v5, .ref v6, .int (iI bn), .int (iI wh), .int (iI dp), .int (iI dg)])), (az, gI g 325 Z)] (fun _ => True) (fun _ => True) (S := Unit) (fun _ => some (.int (iI 0))) (fun _ => [(mo, .inr (11, [.ref az, .ref ap, .int (iI pm), .ref ak, .int (iI ik), .ref ax, .int (iI ty), .int (iI 1), .ref a1, .ref a2, .int (iI mn), .ref a3, .int (iI wt), .ref a4, .ref a5, .ref a6, .ref v1, .ref v2, .ref v3, .ref v4, .ref v5, .ref v6, .int (iI bn), .int (iI wh), .int (iI dp), .int (iI dg)])), (az, gI g 325 Z)]) (fun _ => True) 0 0 := by
  refine q_ofW (cc := cX11_chainByProducts) (maxL := 6) (ret := (some .int)) (fun sz h => h.self) (by decide) rfl (Nat.le_of_ble_eq_true rfl) ?_
  intro p e s m args below meth c A ls S0 hr hlocks hnme hK hA hAe hW hD0 hX hl
  have hW : gW g A s.heap s.heap [] [(mo, .inr (11, [.ref az, .ref ap, .int (iI pm), .ref ak, .int (iI ik), .ref ax, .int (iI ty), .int (iI th), .ref a1, .ref a2, .int (iI mn), .ref a3, .int (iI wt), .ref a4, .ref a5, .ref a6, .ref v1, .ref v2, .ref v3, .ref v4, .ref v5, .ref v6, .int (iI bn), .int (iI wh), .int (iI dp), .int (iI dg)])), (az, gI g 325 Z)] := hW
  have hl : lv_has ls 6 [(0, .ref mo), (1, .int (iI w)), (2, .int (iI u)), (3, .int (iI x))] := hl
  refine lv_aload_n S0.1 S0.2.1 dX11_chainByProducts_0 rfl (lv_at hl 0 rfl) ?_
  refine lv_iload_n S0.1 S0.2.1 dX11_chainByProducts_1 rfl (lv_at hl 1 rfl) ?_
  refine lv_iload_n S0.1 S0.2.1 dX11_chainByProducts_2 rfl (lv_at hl 2 rfl) ?_
  refine lv_iload_n S0.1 S0.2.1 dX11_chainByProducts_3 rfl (lv_at hl 3 rfl) ?_
  refine q_cV (n := 3) (rest := []) (wr := []) S0 hK hA hW (c_X11_asksChain1 l g mo az ap ak ax a1 a2 a3 a4 a5 a6 v1 v2 v3 v4 v5 v6 pm ik ty th mn wt bn wh dp dg Z F w u x (hG) (hz) (hu) (hx)) gX11_chainByProducts_X11_asksChain rfl rfl rfl (by decide +kernel) ⟨Nat.le_of_ble_eq_true rfl, Nat.le_of_ble_eq_true rfl⟩ [0, 1] [] rfl rfl rfl rfl (by decide) (q_recv hK hW.1 (ci := 11) (q0 := 0) rfl rfl) (fun _ _ => trivial) (trivial) rfl rfl hl.1 (Nat.le_of_ble_eq_true rfl) ⟨Nat.le_of_ble_eq_true rfl, Nat.le_of_ble_eq_true rfl⟩ dX11_chainByProducts_4 (fun _ H locs _ hW => ?_)
  have hW : gW g A s.heap H _ [(mo, .inr (11, [.ref az, .ref ap, .int (iI pm), .ref ak, .int (iI ik), .ref ax, .int (iI ty), .int (iI 1), .ref a1, .ref a2, .int (iI mn), .ref a3, .int (iI wt), .ref a4, .ref a5, .ref a6, .ref v1, .ref v2, .ref v3, .ref v4, .ref v5, .ref v6, .int (iI bn), .int (iI wh), .int (iI dp), .int (iI dg)])), (az, gI g 325 Z)] := hW
  refine W.eq (g2 := F0 m 7 ls [.int (iI 0)]) rfl ?_
  refine q_if_ne (tgt := 12) S0 (by omega) dX11_chainByProducts_7 (by decide) (fun c7 => ?_) (fun c7 => ?_)
  · skip
    exact absurd c7 (by omega)
  · skip
    refine q_iconst S0 dX11_chainByProducts_10 ?_
    exact q_iret S0 hr hlocks () (trivial) (rfl) (hW.sub [0, 1] rfl (rfl)) (Nat.le_of_ble_eq_true rfl) (Nat.le_of_ble_eq_true rfl) dX11_chainByProducts_11
set_option maxHeartbeats 4000000 in
set_option maxRecDepth 100000 in
theorem c_X11_chainByProducts2 (l : Launch) (g : GG) (mo az ap ak ax a1 a2 a3 a4 a5 a6 v1 v2 v3 v4 v5 v6 : Nat) (pm ik ty th mn wt bn wh dp dg : Int) (Z : Nat → Int) (F : FT) (w u x : Int) (hG : GF F) (hz : ZR Z F) (hw : 0 ≤ w ∧ w < 4) (hu : 0 ≤ u ∧ u < 4) (hx : (x < 0 ∨ fP F ≤ x) ∧ -2147483648 ≤ x ∧ x < 2147483648) : qMet l yX11_chainByProducts wsX11_chainByProducts ({ frames := 3, cells := 0, slots := 0, locals := 66 }) g [.ref mo, .int (iI w), .int (iI u), .int (iI x)] [(mo, .inr (11, [.ref az, .ref ap, .int (iI pm), .ref ak, .int (iI ik), .ref ax, .int (iI ty), .int (iI th), .ref a1, .ref a2, .int (iI mn), .ref a3, .int (iI wt), .ref a4, .ref a5, .ref a6, .ref v1, .ref v2, .ref v3, .ref v4, .ref v5, .ref v6, .int (iI bn), .int (iI wh), .int (iI dp), .int (iI dg)])), (az, gI g 325 Z)] (fun _ => True) (fun _ => True) (S := Unit) (fun _ => some (.int (iI 0))) (fun _ => [(mo, .inr (11, [.ref az, .ref ap, .int (iI pm), .ref ak, .int (iI ik), .ref ax, .int (iI ty), .int (iI 2), .ref a1, .ref a2, .int (iI mn), .ref a3, .int (iI wt), .ref a4, .ref a5, .ref a6, .ref v1, .ref v2, .ref v3, .ref v4, .ref v5, .ref v6, .int (iI bn), .int (iI wh), .int (iI dp), .int (iI dg)])), (az, gI g 325 Z)]) (fun _ => True) 0 0 := by
  refine q_ofW (cc := cX11_chainByProducts) (maxL := 6) (ret := (some .int)) (fun sz h => h.self) (by decide) rfl (Nat.le_of_ble_eq_true rfl) ?_
  intro p e s m args below meth c A ls S0 hr hlocks hnme hK hA hAe hW hD0 hX hl
  have hW : gW g A s.heap s.heap [] [(mo, .inr (11, [.ref az, .ref ap, .int (iI pm), .ref ak, .int (iI ik), .ref ax, .int (iI ty), .int (iI th), .ref a1, .ref a2, .int (iI mn), .ref a3, .int (iI wt), .ref a4, .ref a5, .ref a6, .ref v1, .ref v2, .ref v3, .ref v4, .ref v5, .ref v6, .int (iI bn), .int (iI wh), .int (iI dp), .int (iI dg)])), (az, gI g 325 Z)] := hW
  have hl : lv_has ls 6 [(0, .ref mo), (1, .int (iI w)), (2, .int (iI u)), (3, .int (iI x))] := hl
  refine lv_aload_n S0.1 S0.2.1 dX11_chainByProducts_0 rfl (lv_at hl 0 rfl) ?_
  refine lv_iload_n S0.1 S0.2.1 dX11_chainByProducts_1 rfl (lv_at hl 1 rfl) ?_
  refine lv_iload_n S0.1 S0.2.1 dX11_chainByProducts_2 rfl (lv_at hl 2 rfl) ?_
  refine lv_iload_n S0.1 S0.2.1 dX11_chainByProducts_3 rfl (lv_at hl 3 rfl) ?_
  refine q_cV (n := 3) (rest := []) (wr := []) S0 hK hA hW (c_X11_asksChain2 l g mo az ap ak ax a1 a2 a3 a4 a5 a6 v1 v2 v3 v4 v5 v6 pm ik ty th mn wt bn wh dp dg Z F w u x (hG) (hz) (hw) (hu) (hx)) gX11_chainByProducts_X11_asksChain rfl rfl rfl (by decide +kernel) ⟨Nat.le_of_ble_eq_true rfl, Nat.le_of_ble_eq_true rfl⟩ [0, 1] [] rfl rfl rfl rfl (by decide) (q_recv hK hW.1 (ci := 11) (q0 := 0) rfl rfl) (fun _ _ => trivial) (trivial) rfl rfl hl.1 (Nat.le_of_ble_eq_true rfl) ⟨Nat.le_of_ble_eq_true rfl, Nat.le_of_ble_eq_true rfl⟩ dX11_chainByProducts_4 (fun _ H locs _ hW => ?_)
  have hW : gW g A s.heap H _ [(mo, .inr (11, [.ref az, .ref ap, .int (iI pm), .ref ak, .int (iI ik), .ref ax, .int (iI ty), .int (iI 2), .ref a1, .ref a2, .int (iI mn), .ref a3, .int (iI wt), .ref a4, .ref a5, .ref a6, .ref v1, .ref v2, .ref v3, .ref v4, .ref v5, .ref v6, .int (iI bn), .int (iI wh), .int (iI dp), .int (iI dg)])), (az, gI g 325 Z)] := hW
  refine W.eq (g2 := F0 m 7 ls [.int (iI 0)]) rfl ?_
  refine q_if_ne (tgt := 12) S0 (by omega) dX11_chainByProducts_7 (by decide) (fun c7 => ?_) (fun c7 => ?_)
  · skip
    exact absurd c7 (by omega)
  · skip
    refine q_iconst S0 dX11_chainByProducts_10 ?_
    exact q_iret S0 hr hlocks () (trivial) (rfl) (hW.sub [0, 1] rfl (rfl)) (Nat.le_of_ble_eq_true rfl) (Nat.le_of_ble_eq_true rfl) dX11_chainByProducts_11
set_option maxHeartbeats 4000000 in
set_option maxRecDepth 100000 in
theorem c_X11_chainByProducts0 (l : Launch) (g : GG) (mo az ap ak ax a1 a2 a3 a4 a5 a6 v1 v2 v3 v4 v5 v6 : Nat) (pm ik ty th mn wt bn wh dp dg : Int) (Z : Nat → Int) (F : FT) (K : KT) (w u x : Int) (hG : GF F) (hz : ZR Z F) (hlk : LKG F) (hw : 0 ≤ w ∧ w < 4) (hu : 0 ≤ u ∧ u < 4) (hx : 0 ≤ x ∧ x < fP F) : qMet l yX11_chainByProducts wsX11_chainByProducts ({ frames := 6, cells := 0, slots := 0, locals := 147 }) g [.ref mo, .int (iI w), .int (iI u), .int (iI x)] [(mo, .inr (11, [.ref az, .ref ap, .int (iI pm), .ref ak, .int (iI ik), .ref ax, .int (iI ty), .int (iI th), .ref a1, .ref a2, .int (iI mn), .ref a3, .int (iI wt), .ref a4, .ref a5, .ref a6, .ref v1, .ref v2, .ref v3, .ref v4, .ref v5, .ref v6, .int (iI bn), .int (iI wh), .int (iI dp), .int (iI dg)])), (az, gI g 325 Z), (a4, gI g 796 (kV K)), (a5, gI g 796 (kH K)), (a6, gI g 796 (kR K)), (v1, gI g 41 (kW K)), (v2, gI g 41 (kS K)), (v3, gI g 41 (kL K)), (v4, gI g 41 (kE K)), (v5, gI g 41 (kX K)), (v6, gI g 41 (kT K))] (fun _ => True) (fun _ => True) (S := KT × Int) (fun u_ => some (.int (iI (cbp F w u x)))) (fun u_ => [(mo, .inr (11, [.ref az, .ref ap, .int (iI pm), .ref ak, .int (iI ik), .ref ax, .int (iI ty), .int (iI 0), .ref a1, .ref a2, .int (iI mn), .ref a3, .int (iI wt), .ref a4, .ref a5, .ref a6, .ref v1, .ref v2, .ref v3, .ref v4, .ref v5, .ref v6, .int (iI u_.2), .int (iI wh), .int (iI dp), .int (iI dg)])), (az, gI g 325 Z), (a4, gI g 796 (kV u_.1)), (a5, gI g 796 (kH u_.1)), (a6, gI g 796 (kR u_.1)), (v1, gI g 41 (kW u_.1)), (v2, gI g 41 (kS u_.1)), (v3, gI g 41 (kL u_.1)), (v4, gI g 41 (kE u_.1)), (v5, gI g 41 (kX u_.1)), (v6, gI g 41 (kT u_.1))]) (fun u_ => TB F (w + 1) (kV u_.1) (kH u_.1) (kR u_.1) ∧ TB F (u + 1) (kV u_.1) (kH u_.1) (kR u_.1)) 0 0 := by
  refine q_ofW (cc := cX11_chainByProducts) (maxL := 6) (ret := (some .int)) (fun sz h => h.self) (by decide) rfl (Nat.le_of_ble_eq_true rfl) ?_
  intro p e s m args below meth c A ls S0 hr hlocks hnme hK hA hAe hW hD0 hX hl
  have hW : gW g A s.heap s.heap [] [(mo, .inr (11, [.ref az, .ref ap, .int (iI pm), .ref ak, .int (iI ik), .ref ax, .int (iI ty), .int (iI th), .ref a1, .ref a2, .int (iI mn), .ref a3, .int (iI wt), .ref a4, .ref a5, .ref a6, .ref v1, .ref v2, .ref v3, .ref v4, .ref v5, .ref v6, .int (iI bn), .int (iI wh), .int (iI dp), .int (iI dg)])), (az, gI g 325 Z), (a4, gI g 796 (kV K)), (a5, gI g 796 (kH K)), (a6, gI g 796 (kR K)), (v1, gI g 41 (kW K)), (v2, gI g 41 (kS K)), (v3, gI g 41 (kL K)), (v4, gI g 41 (kE K)), (v5, gI g 41 (kX K)), (v6, gI g 41 (kT K))] := hW
  have hl : lv_has ls 6 [(0, .ref mo), (1, .int (iI w)), (2, .int (iI u)), (3, .int (iI x))] := hl
  have hinX11 : ∀ w ∈ wsX110, w ∈ wsX11_chainByProducts := fun w h => List.mem_cons_of_mem _ (List.mem_append_right _ h)
  have hpr := GF_p hG
  refine lv_aload_n S0.1 S0.2.1 dX11_chainByProducts_0 rfl (lv_at hl 0 rfl) ?_
  refine lv_iload_n S0.1 S0.2.1 dX11_chainByProducts_1 rfl (lv_at hl 1 rfl) ?_
  refine lv_iload_n S0.1 S0.2.1 dX11_chainByProducts_2 rfl (lv_at hl 2 rfl) ?_
  refine lv_iload_n S0.1 S0.2.1 dX11_chainByProducts_3 rfl (lv_at hl 3 rfl) ?_
  refine q_cV (n := 3) (rest := []) (wr := []) S0 hK hA hW (c_X11_asksChain0 l g mo az ap ak ax a1 a2 a3 a4 a5 a6 v1 v2 v3 v4 v5 v6 pm ik ty th mn wt bn wh dp dg Z F K w u x (hG) (hz) (hlk) (hw) (hu) (hx)) gX11_chainByProducts_X11_asksChain rfl rfl rfl (by decide +kernel) ⟨Nat.le_of_ble_eq_true rfl, Nat.le_of_ble_eq_true rfl⟩ [0, 1, 2, 3, 4, 5, 6, 7, 8, 9, 10] [] rfl rfl rfl rfl (by decide) (q_recv hK hW.1 (ci := 11) (q0 := 0) rfl rfl) (fun _ _ => trivial) (trivial) rfl rfl hl.1 (Nat.le_of_ble_eq_true rfl) ⟨Nat.le_of_ble_eq_true rfl, Nat.le_of_ble_eq_true rfl⟩ dX11_chainByProducts_4 ?_
  rintro ⟨Ka, ba⟩ H locs hp hW
  try dsimp only at hp
  have hW : gW g A s.heap H _ [(mo, .inr (11, [.ref az, .ref ap, .int (iI pm), .ref ak, .int (iI ik), .ref ax, .int (iI ty), .int (iI 0), .ref a1, .ref a2, .int (iI mn), .ref a3, .int (iI wt), .ref a4, .ref a5, .ref a6, .ref v1, .ref v2, .ref v3, .ref v4, .ref v5, .ref v6, .int (iI ba), .int (iI wh), .int (iI dp), .int (iI dg)])), (az, gI g 325 Z), (a4, gI g 796 (kV Ka)), (a5, gI g 796 (kH Ka)), (a6, gI g 796 (kR Ka)), (v1, gI g 41 (kW Ka)), (v2, gI g 41 (kS Ka)), (v3, gI g 41 (kL Ka)), (v4, gI g 41 (kE Ka)), (v5, gI g 41 (kX Ka)), (v6, gI g 41 (kT Ka))] := hW
  refine W.eq (g2 := F0 m 7 ls [.int (iI 1)]) rfl ?_
  have hTBw := hp.1
  have hTB := hp.2
  refine q_if_ne (tgt := 12) S0 (by omega) dX11_chainByProducts_7 (by decide) (fun c7 => ?_) (fun c7 => ?_)
  · skip
    refine lv_aload_n S0.1 S0.2.1 dX11_chainByProducts_12 rfl (lv_at hl 0 rfl) ?_
    refine q_get (C := RX11) (T := TX11) (N := 26) S0 hK hW.1 hinX11 0 rfl rfl 13 (by decide) (List.mem_of_getElem? (i := 1) rfl) rfl rfl dX11_chainByProducts_13 ?_
    refine q_sipush S0 (by decide) dX11_chainByProducts_16 ?_
    refine lv_iload_n S0.1 S0.2.1 dX11_chainByProducts_19 rfl (lv_at hl 2 rfl) ?_
    refine q_imul S0 dX11_chainByProducts_20 ?_
    refine lv_iload_n S0.1 S0.2.1 dX11_chainByProducts_21 rfl (lv_at hl 3 rfl) ?_
    refine q_iadd S0 dX11_chainByProducts_22 ?_
    refine q_iald S0 hK hW.1 2 rfl (by omega) dX11_chainByProducts_23 ?_
    refine q_topI (b := vv (fP F) (fE F) u.toNat x) ((hTB u x (by omega) (by omega) (by omega) (by omega)).1) ?_
    refine q_nm (fun m9 hm9 => ?_)
    have hvr := GF_vv hG hu hx
    rw [← hm9] at hvr
    have hbi := hh_bad_iff hG (f := u.toNat) (x := x) (by omega) hx
    rw [← hm9] at hbi
    have hhr := GF_hh hG (f := u.toNat) (x := x) (by omega)
    refine lv_istore (lv' := [(4, .int (iI m9)), (0, .ref mo), (1, .int (iI w)), (2, .int (iI u)), (3, .int (iI x))]) S0.1 S0.2.1 dX11_chainByProducts_24 hl (by decide) rfl (fun ls hl => ?_)
    refine q_cut (α := Unit) (fun _ => F0 m 54 ls (.int (iI (if ¬ m9 = -1 ∧ ¬ vv (fP F) (fE F) w.toNat m9 = -1 then (1 : Int) else 0)) :: [])) (fun _ => True) (fun _ _ => ?_) (fun hJ26 => ?_)
    · skip
      refine lv_istore (lv' := [(5, .int (iI (if ¬ m9 = -1 ∧ ¬ vv (fP F) (fE F) w.toNat m9 = -1 then (1 : Int) else 0))), (4, .int (iI m9)), (0, .ref mo), (1, .int (iI w)), (2, .int (iI u)), (3, .int (iI x))]) S0.1 S0.2.1 dX11_chainByProducts_54 hl (by decide) rfl (fun ls hl => ?_)
      refine lv_iload S0.1 S0.2.1 dX11_chainByProducts_56 (lv_at hl 0 rfl) ?_
      refine q_if_eqP (tgt := 94) S0 dX11_chainByProducts_58 (by decide) (fun c58 => ?_) (fun c58 => ?_)
      · skip
        refine q_iconst S0 dX11_chainByProducts_94 ?_
        exact q_iret S0 hr hlocks (Ka, ba) (⟨hTBw, hTB⟩) (by unfold cbp; rw [← hm9]; first | (rw [if_neg c58.1, if_neg (fun q => c58.2 (hbw.mp q))]; done) | (by_cases q : m9 = -1; rw [if_pos q]; rw [if_neg q, if_pos ((hh_bad_iff hG (f := w.toNat) (x := m9) (by omega) (by omega)).mpr (by by_cases z : vv (fP F) (fE F) w.toNat m9 = -1; exact z; exact absurd ⟨q, z⟩ c58))])) (hW.sub [0, 1, 2, 3, 4, 5, 6, 7, 8, 9, 10] rfl (rfl)) (Nat.le_of_ble_eq_true rfl) (Nat.le_of_ble_eq_true rfl) dX11_chainByProducts_95
      · skip
        have hbw := hh_bad_iff hG (f := w.toNat) (x := m9) (by omega) (by omega)
        have hhw := GF_hh hG (f := w.toNat) (x := m9) (by omega)
        have hm1 := mul_rng (a := hh (fP F) (fE F) w.toNat m9) (b := hh (fP F) (fE F) u.toNat x) (n := 200) (k := 200) (by omega) (by omega)
        refine lv_aload_n S0.1 S0.2.1 dX11_chainByProducts_61 rfl (lv_at hl 2 rfl) ?_
        refine lv_aload_n S0.1 S0.2.1 dX11_chainByProducts_62 rfl (lv_at hl 2 rfl) ?_
        refine q_get (C := RX11) (T := TX11) (N := 26) S0 hK hW.1 hinX11 0 rfl rfl 15 (by decide) (List.mem_of_getElem? (i := 2) rfl) rfl rfl dX11_chainByProducts_63 ?_
        refine q_sipush S0 (by decide) dX11_chainByProducts_66 ?_
        refine lv_iload_n S0.1 S0.2.1 dX11_chainByProducts_69 rfl (lv_at hl 3 rfl) ?_
        refine q_imul S0 dX11_chainByProducts_70 ?_
        refine lv_iload S0.1 S0.2.1 dX11_chainByProducts_71 (lv_at hl 1 rfl) ?_
        refine q_iadd S0 dX11_chainByProducts_73 ?_
        refine q_iald S0 hK hW.1 4 rfl (by omega) dX11_chainByProducts_74 ?_
        refine q_topI (b := hh (fP F) (fE F) w.toNat m9) ((hTBw w m9 (by omega) (by omega) (by omega) (by omega)).2.2) ?_
        refine lv_aload_n S0.1 S0.2.1 dX11_chainByProducts_75 rfl (lv_at hl 2 rfl) ?_
        refine q_get (C := RX11) (T := TX11) (N := 26) S0 hK hW.1 hinX11 0 rfl rfl 15 (by decide) (List.mem_of_getElem? (i := 2) rfl) rfl rfl dX11_chainByProducts_76 ?_
        refine q_sipush S0 (by decide) dX11_chainByProducts_79 ?_
        refine lv_iload_n S0.1 S0.2.1 dX11_chainByProducts_82 rfl (lv_at hl 4 rfl) ?_
        refine q_imul S0 dX11_chainByProducts_83 ?_
        refine lv_iload_n S0.1 S0.2.1 dX11_chainByProducts_84 rfl (lv_at hl 5 rfl) ?_
        refine q_iadd S0 dX11_chainByProducts_85 ?_
        refine q_iald S0 hK hW.1 4 rfl (by omega) dX11_chainByProducts_86 ?_
        refine q_topI (b := hh (fP F) (fE F) u.toNat x) ((hTB u x (by omega) (by omega) (by omega) (by omega)).2.2) ?_
        refine q_imul S0 dX11_chainByProducts_87 ?_
        refine q_pV (n := 1) (rest := []) S0 hK (c_X11_p l g mo az ap ak ax a1 a2 a3 a4 a5 a6 v1 v2 v3 v4 v5 v6 pm ik ty 0 mn wt ba wh dp dg Z (fP F) ((hh (fP F) (fE F) w.toNat m9) * (hh (fP F) (fE F) u.toNat x)) (hpr) (hz.1) (by omega)) (subP hW.1 [0, 1] rfl) (trivial) gX11_chainByProducts_X11_p rfl rfl rfl (by decide +kernel) ⟨Nat.le_of_ble_eq_true rfl, Nat.le_of_ble_eq_true rfl⟩ (q_recv hK hW.1 (ci := 11) (q0 := 0) rfl rfl) rfl rfl hl.1 (Nat.le_of_ble_eq_true rfl) ⟨Nat.le_of_ble_eq_true rfl, Nat.le_of_ble_eq_true rfl⟩ dX11_chainByProducts_88 ?_
        refine W.eq (g2 := F0 m 91 ls [.int (iI (((hh (fP F) (fE F) w.toNat m9) * (hh (fP F) (fE F) u.toNat x)) % (fP F)))]) rfl ?_
        refine lv_goto (tgt := 95) S0.1 S0.2.1 dX11_chainByProducts_91 (by decide) ?_
        exact q_iret S0 hr hlocks (Ka, ba) (⟨hTBw, hTB⟩) (by unfold cbp; rw [← hm9]; first | (rw [if_neg c58.1, if_neg (fun q => c58.2 (hbw.mp q))]; done) | (by_cases q : m9 = -1; rw [if_pos q]; rw [if_neg q, if_pos ((hh_bad_iff hG (f := w.toNat) (x := m9) (by omega) (by omega)).mpr (by by_cases z : vv (fP F) (fE F) w.toNat m9 = -1; exact z; exact absurd ⟨q, z⟩ c58))])) (hW.sub [0, 1, 2, 3, 4, 5, 6, 7, 8, 9, 10] rfl (rfl)) (Nat.le_of_ble_eq_true rfl) (Nat.le_of_ble_eq_true rfl) dX11_chainByProducts_95
    · skip
      refine lv_iload S0.1 S0.2.1 dX11_chainByProducts_26 (lv_at hl 0 rfl) ?_
      refine q_iconst S0 dX11_chainByProducts_28 ?_
      refine q_icmp_eq (tgt := 53) S0 (by omega) dX11_chainByProducts_29 (by decide) (fun c29 => ?_) (fun c29 => ?_)
      · skip
        refine q_iconst S0 dX11_chainByProducts_53 ?_
        refine W.eq (g2 := F0 m 54 ls (.int (iI (if ¬ m9 = -1 ∧ ¬ vv (fP F) (fE F) w.toNat m9 = -1 then (1 : Int) else 0)) :: [])) (by rw [show (if ¬ m9 = -1 ∧ ¬ vv (fP F) (fE F) w.toNat m9 = -1 then (1 : Int) else 0) = 0 from if_neg (by omega)]) ?_
        exact hJ26 () trivial
      · skip
        refine lv_aload_n S0.1 S0.2.1 dX11_chainByProducts_32 rfl (lv_at hl 1 rfl) ?_
        refine q_get (C := RX11) (T := TX11) (N := 26) S0 hK hW.1 hinX11 0 rfl rfl 13 (by decide) (List.mem_of_getElem? (i := 1) rfl) rfl rfl dX11_chainByProducts_33 ?_
        refine q_sipush S0 (by decide) dX11_chainByProducts_36 ?_
        refine lv_iload_n S0.1 S0.2.1 dX11_chainByProducts_39 rfl (lv_at hl 2 rfl) ?_
        refine q_imul S0 dX11_chainByProducts_40 ?_
        refine lv_iload S0.1 S0.2.1 dX11_chainByProducts_41 (lv_at hl 0 rfl) ?_
        refine q_iadd S0 dX11_chainByProducts_43 ?_
        refine q_iald S0 hK hW.1 2 rfl (by omega) dX11_chainByProducts_44 ?_
        refine q_topI (b := vv (fP F) (fE F) w.toNat m9) ((hTBw w m9 (by omega) (by omega) (by omega) (by omega)).1) ?_
        have hvw := GF_vv hG hw (x := m9) (by omega)
        refine q_iconst S0 dX11_chainByProducts_45 ?_
        refine q_icmp_eq (tgt := 53) S0 (by omega) dX11_chainByProducts_46 (by decide) (fun c46 => ?_) (fun c46 => ?_)
        · skip
          refine q_iconst S0 dX11_chainByProducts_53 ?_
          refine W.eq (g2 := F0 m 54 ls (.int (iI (if ¬ m9 = -1 ∧ ¬ vv (fP F) (fE F) w.toNat m9 = -1 then (1 : Int) else 0)) :: [])) (by rw [show (if ¬ m9 = -1 ∧ ¬ vv (fP F) (fE F) w.toNat m9 = -1 then (1 : Int) else 0) = 0 from if_neg (by omega)]) ?_
          exact hJ26 () trivial
        · skip
          refine q_iconst S0 dX11_chainByProducts_49 ?_
          refine lv_goto (tgt := 54) S0.1 S0.2.1 dX11_chainByProducts_50 (by decide) ?_
          refine W.eq (g2 := F0 m 54 ls (.int (iI (if ¬ m9 = -1 ∧ ¬ vv (fP F) (fE F) w.toNat m9 = -1 then (1 : Int) else 0)) :: [])) (by rw [show (if ¬ m9 = -1 ∧ ¬ vv (fP F) (fE F) w.toNat m9 = -1 then (1 : Int) else 0) = 1 from if_pos (by omega)]) ?_
          exact hJ26 () trivial
  · skip
    exact absurd c7 (by omega)
set_option maxHeartbeats 4000000 in
set_option maxRecDepth 100000 in
theorem c_X11_chainByFeeding1 (l : Launch) (g : GG) (mo az ap ak ax a1 a2 a3 a4 a5 a6 v1 v2 v3 v4 v5 v6 : Nat) (pm ik ty th mn wt bn wh dp dg : Int) (Z : Nat → Int) (F : FT) (w u x : Int) (hG : GF F) (hz : ZR Z F) (hu : ¬ ((0 ≤ w ∧ w ≤ 3) ∧ (0 ≤ u ∧ u ≤ 3)) ∧ (-2147483648 ≤ w ∧ w < 2147483648) ∧ (-2147483648 ≤ u ∧ u < 2147483648)) (hx : -2147483648 ≤ x ∧ x < 2147483648) : qMet l yX11_chainByFeeding wsX11_chainByFeeding ({ frames := 3, cells := 0, slots := 0, locals := 66 }) g [.ref mo, .int (iI w), .int (iI u), .int (iI x)] [(mo, .inr (11, [.ref az, .ref ap, .int (iI pm), .ref ak, .int (iI ik), .ref ax, .int (iI ty), .int (iI th), .ref a1, .ref a2, .int (iI mn), .ref a3, .int (iI wt), .ref a4, .ref a5, .ref a6, .ref v1, .ref v2, .ref v3, .ref v4, .ref v5, .ref v6, .int (iI bn), .int (iI wh), .int (iI dp), .int (iI dg)])), (az, gI g 325 Z)] (fun _ => True) (fun _ => True) (S := Unit) (fun _ => some (.int (iI 0))) (fun _ => [(mo, .inr (11, [.ref az, .ref ap, .int (iI pm), .ref ak, .int (iI ik), .ref ax, .int (iI ty), .int (iI 1), .ref a1, .ref a2, .int (iI mn), .ref a3, .int (iI wt), .ref a4, .ref a5, .ref a6, .ref v1, .ref v2, .ref v3, .ref v4, .ref v5, .ref v6, .int (iI bn), .int (iI wh), .int (iI dp), .int (iI dg)])), (az, gI g 325 Z)]) (fun _ => True) 0 0 := by
  refine q_ofW (cc := cX11_chainByFeeding) (maxL := 5) (ret := (some .int)) (fun sz h => h.self) (by decide) rfl (Nat.le_of_ble_eq_true rfl) ?_
  intro p e s m args below meth c A ls S0 hr hlocks hnme hK hA hAe hW hD0 hX hl
  have hW : gW g A s.heap s.heap [] [(mo, .inr (11, [.ref az, .ref ap, .int (iI pm), .ref ak, .int (iI ik), .ref ax, .int (iI ty), .int (iI th), .ref a1, .ref a2, .int (iI mn), .ref a3, .int (iI wt), .ref a4, .ref a5, .ref a6, .ref v1, .ref v2, .ref v3, .ref v4, .ref v5, .ref v6, .int (iI bn), .int (iI wh), .int (iI dp), .int (iI dg)])), (az, gI g 325 Z)] := hW
  have hl : lv_has ls 5 [(0, .ref mo), (1, .int (iI w)), (2, .int (iI u)), (3, .int (iI x))] := hl
  refine lv_aload_n S0.1 S0.2.1 dX11_chainByFeeding_0 rfl (lv_at hl 0 rfl) ?_
  refine lv_iload_n S0.1 S0.2.1 dX11_chainByFeeding_1 rfl (lv_at hl 1 rfl) ?_
  refine lv_iload_n S0.1 S0.2.1 dX11_chainByFeeding_2 rfl (lv_at hl 2 rfl) ?_
  refine lv_iload_n S0.1 S0.2.1 dX11_chainByFeeding_3 rfl (lv_at hl 3 rfl) ?_
  refine q_cV (n := 3) (rest := []) (wr := []) S0 hK hA hW (c_X11_asksChain1 l g mo az ap ak ax a1 a2 a3 a4 a5 a6 v1 v2 v3 v4 v5 v6 pm ik ty th mn wt bn wh dp dg Z F w u x (hG) (hz) (hu) (hx)) gX11_chainByFeeding_X11_asksChain rfl rfl rfl (by decide +kernel) ⟨Nat.le_of_ble_eq_true rfl, Nat.le_of_ble_eq_true rfl⟩ [0, 1] [] rfl rfl rfl rfl (by decide) (q_recv hK hW.1 (ci := 11) (q0 := 0) rfl rfl) (fun _ _ => trivial) (trivial) rfl rfl hl.1 (Nat.le_of_ble_eq_true rfl) ⟨Nat.le_of_ble_eq_true rfl, Nat.le_of_ble_eq_true rfl⟩ dX11_chainByFeeding_4 (fun _ H locs _ hW => ?_)
  have hW : gW g A s.heap H _ [(mo, .inr (11, [.ref az, .ref ap, .int (iI pm), .ref ak, .int (iI ik), .ref ax, .int (iI ty), .int (iI 1), .ref a1, .ref a2, .int (iI mn), .ref a3, .int (iI wt), .ref a4, .ref a5, .ref a6, .ref v1, .ref v2, .ref v3, .ref v4, .ref v5, .ref v6, .int (iI bn), .int (iI wh), .int (iI dp), .int (iI dg)])), (az, gI g 325 Z)] := hW
  refine W.eq (g2 := F0 m 7 ls [.int (iI 0)]) rfl ?_
  refine q_if_ne (tgt := 12) S0 (by omega) dX11_chainByFeeding_7 (by decide) (fun c7 => ?_) (fun c7 => ?_)
  · skip
    exact absurd c7 (by omega)
  · skip
    refine q_iconst S0 dX11_chainByFeeding_10 ?_
    exact q_iret S0 hr hlocks () (trivial) (rfl) (hW.sub [0, 1] rfl (rfl)) (Nat.le_of_ble_eq_true rfl) (Nat.le_of_ble_eq_true rfl) dX11_chainByFeeding_11
set_option maxHeartbeats 4000000 in
set_option maxRecDepth 100000 in
theorem c_X11_chainByFeeding2 (l : Launch) (g : GG) (mo az ap ak ax a1 a2 a3 a4 a5 a6 v1 v2 v3 v4 v5 v6 : Nat) (pm ik ty th mn wt bn wh dp dg : Int) (Z : Nat → Int) (F : FT) (w u x : Int) (hG : GF F) (hz : ZR Z F) (hw : 0 ≤ w ∧ w < 4) (hu : 0 ≤ u ∧ u < 4) (hx : (x < 0 ∨ fP F ≤ x) ∧ -2147483648 ≤ x ∧ x < 2147483648) : qMet l yX11_chainByFeeding wsX11_chainByFeeding ({ frames := 3, cells := 0, slots := 0, locals := 66 }) g [.ref mo, .int (iI w), .int (iI u), .int (iI x)] [(mo, .inr (11, [.ref az, .ref ap, .int (iI pm), .ref ak, .int (iI ik), .ref ax, .int (iI ty), .int (iI th), .ref a1, .ref a2, .int (iI mn), .ref a3, .int (iI wt), .ref a4, .ref a5, .ref a6, .ref v1, .ref v2, .ref v3, .ref v4, .ref v5, .ref v6, .int (iI bn), .int (iI wh), .int (iI dp), .int (iI dg)])), (az, gI g 325 Z)] (fun _ => True) (fun _ => True) (S := Unit) (fun _ => some (.int (iI 0))) (fun _ => [(mo, .inr (11, [.ref az, .ref ap, .int (iI pm), .ref ak, .int (iI ik), .ref ax, .int (iI ty), .int (iI 2), .ref a1, .ref a2, .int (iI mn), .ref a3, .int (iI wt), .ref a4, .ref a5, .ref a6, .ref v1, .ref v2, .ref v3, .ref v4, .ref v5, .ref v6, .int (iI bn), .int (iI wh), .int (iI dp), .int (iI dg)])), (az, gI g 325 Z)]) (fun _ => True) 0 0 := by
  refine q_ofW (cc := cX11_chainByFeeding) (maxL := 5) (ret := (some .int)) (fun sz h => h.self) (by decide) rfl (Nat.le_of_ble_eq_true rfl) ?_
  intro p e s m args below meth c A ls S0 hr hlocks hnme hK hA hAe hW hD0 hX hl
  have hW : gW g A s.heap s.heap [] [(mo, .inr (11, [.ref az, .ref ap, .int (iI pm), .ref ak, .int (iI ik), .ref ax, .int (iI ty), .int (iI th), .ref a1, .ref a2, .int (iI mn), .ref a3, .int (iI wt), .ref a4, .ref a5, .ref a6, .ref v1, .ref v2, .ref v3, .ref v4, .ref v5, .ref v6, .int (iI bn), .int (iI wh), .int (iI dp), .int (iI dg)])), (az, gI g 325 Z)] := hW
  have hl : lv_has ls 5 [(0, .ref mo), (1, .int (iI w)), (2, .int (iI u)), (3, .int (iI x))] := hl
  refine lv_aload_n S0.1 S0.2.1 dX11_chainByFeeding_0 rfl (lv_at hl 0 rfl) ?_
  refine lv_iload_n S0.1 S0.2.1 dX11_chainByFeeding_1 rfl (lv_at hl 1 rfl) ?_
  refine lv_iload_n S0.1 S0.2.1 dX11_chainByFeeding_2 rfl (lv_at hl 2 rfl) ?_
  refine lv_iload_n S0.1 S0.2.1 dX11_chainByFeeding_3 rfl (lv_at hl 3 rfl) ?_
  refine q_cV (n := 3) (rest := []) (wr := []) S0 hK hA hW (c_X11_asksChain2 l g mo az ap ak ax a1 a2 a3 a4 a5 a6 v1 v2 v3 v4 v5 v6 pm ik ty th mn wt bn wh dp dg Z F w u x (hG) (hz) (hw) (hu) (hx)) gX11_chainByFeeding_X11_asksChain rfl rfl rfl (by decide +kernel) ⟨Nat.le_of_ble_eq_true rfl, Nat.le_of_ble_eq_true rfl⟩ [0, 1] [] rfl rfl rfl rfl (by decide) (q_recv hK hW.1 (ci := 11) (q0 := 0) rfl rfl) (fun _ _ => trivial) (trivial) rfl rfl hl.1 (Nat.le_of_ble_eq_true rfl) ⟨Nat.le_of_ble_eq_true rfl, Nat.le_of_ble_eq_true rfl⟩ dX11_chainByFeeding_4 (fun _ H locs _ hW => ?_)
  have hW : gW g A s.heap H _ [(mo, .inr (11, [.ref az, .ref ap, .int (iI pm), .ref ak, .int (iI ik), .ref ax, .int (iI ty), .int (iI 2), .ref a1, .ref a2, .int (iI mn), .ref a3, .int (iI wt), .ref a4, .ref a5, .ref a6, .ref v1, .ref v2, .ref v3, .ref v4, .ref v5, .ref v6, .int (iI bn), .int (iI wh), .int (iI dp), .int (iI dg)])), (az, gI g 325 Z)] := hW
  refine W.eq (g2 := F0 m 7 ls [.int (iI 0)]) rfl ?_
  refine q_if_ne (tgt := 12) S0 (by omega) dX11_chainByFeeding_7 (by decide) (fun c7 => ?_) (fun c7 => ?_)
  · skip
    exact absurd c7 (by omega)
  · skip
    refine q_iconst S0 dX11_chainByFeeding_10 ?_
    exact q_iret S0 hr hlocks () (trivial) (rfl) (hW.sub [0, 1] rfl (rfl)) (Nat.le_of_ble_eq_true rfl) (Nat.le_of_ble_eq_true rfl) dX11_chainByFeeding_11
set_option maxHeartbeats 4000000 in
set_option maxRecDepth 100000 in
theorem c_X11_chainByFeeding0 (l : Launch) (g : GG) (mo az ap ak ax a1 a2 a3 a4 a5 a6 v1 v2 v3 v4 v5 v6 : Nat) (pm ik ty th mn wt bn wh dp dg : Int) (Z : Nat → Int) (F : FT) (K : KT) (w u x : Int) (hG : GF F) (hz : ZR Z F) (hlk : LKG F) (hw : 0 ≤ w ∧ w < 4) (hu : 0 ≤ u ∧ u < 4) (hx : 0 ≤ x ∧ x < fP F) : qMet l yX11_chainByFeeding wsX11_chainByFeeding ({ frames := 6, cells := 0, slots := 0, locals := 147 }) g [.ref mo, .int (iI w), .int (iI u), .int (iI x)] [(mo, .inr (11, [.ref az, .ref ap, .int (iI pm), .ref ak, .int (iI ik), .ref ax, .int (iI ty), .int (iI th), .ref a1, .ref a2, .int (iI mn), .ref a3, .int (iI wt), .ref a4, .ref a5, .ref a6, .ref v1, .ref v2, .ref v3, .ref v4, .ref v5, .ref v6, .int (iI bn), .int (iI wh), .int (iI dp), .int (iI dg)])), (az, gI g 325 Z), (a4, gI g 796 (kV K)), (a5, gI g 796 (kH K)), (a6, gI g 796 (kR K)), (v1, gI g 41 (kW K)), (v2, gI g 41 (kS K)), (v3, gI g 41 (kL K)), (v4, gI g 41 (kE K)), (v5, gI g 41 (kX K)), (v6, gI g 41 (kT K))] (fun _ => True) (fun _ => True) (S := KT × Int) (fun u_ => some (.int (iI (cbf F w u x)))) (fun u_ => [(mo, .inr (11, [.ref az, .ref ap, .int (iI pm), .ref ak, .int (iI ik), .ref ax, .int (iI ty), .int (iI 0), .ref a1, .ref a2, .int (iI mn), .ref a3, .int (iI wt), .ref a4, .ref a5, .ref a6, .ref v1, .ref v2, .ref v3, .ref v4, .ref v5, .ref v6, .int (iI u_.2), .int (iI wh), .int (iI dp), .int (iI dg)])), (az, gI g 325 Z), (a4, gI g 796 (kV u_.1)), (a5, gI g 796 (kH u_.1)), (a6, gI g 796 (kR u_.1)), (v1, gI g 41 (kW u_.1)), (v2, gI g 41 (kS u_.1)), (v3, gI g 41 (kL u_.1)), (v4, gI g 41 (kE u_.1)), (v5, gI g 41 (kX u_.1)), (v6, gI g 41 (kT u_.1))]) (fun u_ => TB F (w + 1) (kV u_.1) (kH u_.1) (kR u_.1) ∧ TB F (u + 1) (kV u_.1) (kH u_.1) (kR u_.1)) 0 0 := by
  refine q_ofW (cc := cX11_chainByFeeding) (maxL := 5) (ret := (some .int)) (fun sz h => h.self) (by decide) rfl (Nat.le_of_ble_eq_true rfl) ?_
  intro p e s m args below meth c A ls S0 hr hlocks hnme hK hA hAe hW hD0 hX hl
  have hW : gW g A s.heap s.heap [] [(mo, .inr (11, [.ref az, .ref ap, .int (iI pm), .ref ak, .int (iI ik), .ref ax, .int (iI ty), .int (iI th), .ref a1, .ref a2, .int (iI mn), .ref a3, .int (iI wt), .ref a4, .ref a5, .ref a6, .ref v1, .ref v2, .ref v3, .ref v4, .ref v5, .ref v6, .int (iI bn), .int (iI wh), .int (iI dp), .int (iI dg)])), (az, gI g 325 Z), (a4, gI g 796 (kV K)), (a5, gI g 796 (kH K)), (a6, gI g 796 (kR K)), (v1, gI g 41 (kW K)), (v2, gI g 41 (kS K)), (v3, gI g 41 (kL K)), (v4, gI g 41 (kE K)), (v5, gI g 41 (kX K)), (v6, gI g 41 (kT K))] := hW
  have hl : lv_has ls 5 [(0, .ref mo), (1, .int (iI w)), (2, .int (iI u)), (3, .int (iI x))] := hl
  have hinX11 : ∀ w ∈ wsX110, w ∈ wsX11_chainByFeeding := fun w h => List.mem_cons_of_mem _ (List.mem_append_right _ h)
  have hpr := GF_p hG
  refine lv_aload_n S0.1 S0.2.1 dX11_chainByFeeding_0 rfl (lv_at hl 0 rfl) ?_
  refine lv_iload_n S0.1 S0.2.1 dX11_chainByFeeding_1 rfl (lv_at hl 1 rfl) ?_
  refine lv_iload_n S0.1 S0.2.1 dX11_chainByFeeding_2 rfl (lv_at hl 2 rfl) ?_
  refine lv_iload_n S0.1 S0.2.1 dX11_chainByFeeding_3 rfl (lv_at hl 3 rfl) ?_
  refine q_cV (n := 3) (rest := []) (wr := []) S0 hK hA hW (c_X11_asksChain0 l g mo az ap ak ax a1 a2 a3 a4 a5 a6 v1 v2 v3 v4 v5 v6 pm ik ty th mn wt bn wh dp dg Z F K w u x (hG) (hz) (hlk) (hw) (hu) (hx)) gX11_chainByFeeding_X11_asksChain rfl rfl rfl (by decide +kernel) ⟨Nat.le_of_ble_eq_true rfl, Nat.le_of_ble_eq_true rfl⟩ [0, 1, 2, 3, 4, 5, 6, 7, 8, 9, 10] [] rfl rfl rfl rfl (by decide) (q_recv hK hW.1 (ci := 11) (q0 := 0) rfl rfl) (fun _ _ => trivial) (trivial) rfl rfl hl.1 (Nat.le_of_ble_eq_true rfl) ⟨Nat.le_of_ble_eq_true rfl, Nat.le_of_ble_eq_true rfl⟩ dX11_chainByFeeding_4 ?_
  rintro ⟨Ka, ba⟩ H locs hp hW
  try dsimp only at hp
  have hW : gW g A s.heap H _ [(mo, .inr (11, [.ref az, .ref ap, .int (iI pm), .ref ak, .int (iI ik), .ref ax, .int (iI ty), .int (iI 0), .ref a1, .ref a2, .int (iI mn), .ref a3, .int (iI wt), .ref a4, .ref a5, .ref a6, .ref v1, .ref v2, .ref v3, .ref v4, .ref v5, .ref v6, .int (iI ba), .int (iI wh), .int (iI dp), .int (iI dg)])), (az, gI g 325 Z), (a4, gI g 796 (kV Ka)), (a5, gI g 796 (kH Ka)), (a6, gI g 796 (kR Ka)), (v1, gI g 41 (kW Ka)), (v2, gI g 41 (kS Ka)), (v3, gI g 41 (kL Ka)), (v4, gI g 41 (kE Ka)), (v5, gI g 41 (kX Ka)), (v6, gI g 41 (kT Ka))] := hW
  refine W.eq (g2 := F0 m 7 ls [.int (iI 1)]) rfl ?_
  have hTBw := hp.1
  have hTB := hp.2
  refine q_if_ne (tgt := 12) S0 (by omega) dX11_chainByFeeding_7 (by decide) (fun c7 => ?_) (fun c7 => ?_)
  · skip
    refine lv_aload_n S0.1 S0.2.1 dX11_chainByFeeding_12 rfl (lv_at hl 0 rfl) ?_
    refine q_get (C := RX11) (T := TX11) (N := 26) S0 hK hW.1 hinX11 0 rfl rfl 13 (by decide) (List.mem_of_getElem? (i := 1) rfl) rfl rfl dX11_chainByFeeding_13 ?_
    refine q_sipush S0 (by decide) dX11_chainByFeeding_16 ?_
    refine lv_iload_n S0.1 S0.2.1 dX11_chainByFeeding_19 rfl (lv_at hl 2 rfl) ?_
    refine q_imul S0 dX11_chainByFeeding_20 ?_
    refine lv_iload_n S0.1 S0.2.1 dX11_chainByFeeding_21 rfl (lv_at hl 3 rfl) ?_
    refine q_iadd S0 dX11_chainByFeeding_22 ?_
    refine q_iald S0 hK hW.1 2 rfl (by omega) dX11_chainByFeeding_23 ?_
    refine q_topI (b := vv (fP F) (fE F) u.toNat x) ((hTB u x (by omega) (by omega) (by omega) (by omega)).1) ?_
    refine q_nm (fun m9 hm9 => ?_)
    have hvr := GF_vv hG hu hx
    rw [← hm9] at hvr
    have hbi := hh_bad_iff hG (f := u.toNat) (x := x) (by omega) hx
    rw [← hm9] at hbi
    have hhr := GF_hh hG (f := u.toNat) (x := x) (by omega)
    refine lv_istore (lv' := [(4, .int (iI m9)), (0, .ref mo), (1, .int (iI w)), (2, .int (iI u)), (3, .int (iI x))]) S0.1 S0.2.1 dX11_chainByFeeding_24 hl (by decide) rfl (fun ls hl => ?_)
    refine lv_iload S0.1 S0.2.1 dX11_chainByFeeding_26 (lv_at hl 0 rfl) ?_
    refine q_iconst S0 dX11_chainByFeeding_28 ?_
    refine q_icmp_ne (tgt := 34) S0 (by omega) dX11_chainByFeeding_29 (by decide) (fun c29 => ?_) (fun c29 => ?_)
    · skip
      refine lv_aload_n S0.1 S0.2.1 dX11_chainByFeeding_34 rfl (lv_at hl 1 rfl) ?_
      refine lv_iload_n S0.1 S0.2.1 dX11_chainByFeeding_35 rfl (lv_at hl 2 rfl) ?_
      refine lv_iload S0.1 S0.2.1 dX11_chainByFeeding_36 (lv_at hl 0 rfl) ?_
      refine lv_aload_n S0.1 S0.2.1 dX11_chainByFeeding_38 rfl (lv_at hl 1 rfl) ?_
      refine q_get (C := RX11) (T := TX11) (N := 26) S0 hK hW.1 hinX11 0 rfl rfl 14 (by decide) (List.mem_of_getElem? (i := 2) rfl) rfl rfl dX11_chainByFeeding_39 ?_
      refine q_sipush S0 (by decide) dX11_chainByFeeding_42 ?_
      refine lv_iload_n S0.1 S0.2.1 dX11_chainByFeeding_45 rfl (lv_at hl 3 rfl) ?_
      refine q_imul S0 dX11_chainByFeeding_46 ?_
      refine lv_iload_n S0.1 S0.2.1 dX11_chainByFeeding_47 rfl (lv_at hl 4 rfl) ?_
      refine q_iadd S0 dX11_chainByFeeding_48 ?_
      refine q_iald S0 hK hW.1 3 rfl (by omega) dX11_chainByFeeding_49 ?_
      refine q_topI (b := hh (fP F) (fE F) u.toNat x) ((hTB u x (by omega) (by omega) (by omega) (by omega)).2.1) ?_
      refine q_nm (fun s9 hs9 => ?_)
      rw [← hs9] at hbi hhr
      refine q_cV (n := 3) (rest := []) (wr := [(a6, gI g 796 (kR Ka)), (v5, gI g 41 (kX Ka))]) S0 hK hA hW (c_X11_feeds l g mo az ap ak ax a1 a2 a3 a4 a5 a6 v1 v2 v3 v4 v5 v6 pm ik ty 0 mn wt ba wh dp dg Z F (kV Ka) (kH Ka) (kR Ka) (kW Ka) (kS Ka) (kL Ka) (kE Ka) (kT Ka) w m9 s9 (hG) (hz) (hlk) (hw) (by omega) (by omega) (TB_le hTBw (by omega))) gX11_chainByFeeding_X11_feeds rfl rfl rfl (by decide +kernel) ⟨Nat.le_of_ble_eq_true rfl, Nat.le_of_ble_eq_true rfl⟩ [0, 1, 2, 3, 5, 6, 7, 8, 10] [4, 9] rfl rfl rfl rfl (by decide) (q_recv hK hW.1 (ci := 11) (q0 := 0) rfl rfl) (fun _ _ => trivial) (trivial) rfl rfl hl.1 (Nat.le_of_ble_eq_true rfl) ⟨Nat.le_of_ble_eq_true rfl, Nat.le_of_ble_eq_true rfl⟩ dX11_chainByFeeding_50 ?_
      rintro ⟨W3, S3, L3, V3, T3, b3⟩ H locs hp hW
      try dsimp only at hp
      have hW : gW g A s.heap H _ [(a6, gI g 796 (kR Ka)), (v5, gI g 41 (kX Ka)), (mo, .inr (11, [.ref az, .ref ap, .int (iI pm), .ref ak, .int (iI ik), .ref ax, .int (iI ty), .int (iI 0), .ref a1, .ref a2, .int (iI mn), .ref a3, .int (iI wt), .ref a4, .ref a5, .ref a6, .ref v1, .ref v2, .ref v3, .ref v4, .ref v5, .ref v6, .int (iI b3), .int (iI wh), .int (iI dp), .int (iI dg)])), (az, gI g 325 Z), (a4, gI g 796 (kV Ka)), (a5, gI g 796 (kH Ka)), (v1, gI g 41 W3), (v2, gI g 41 S3), (v3, gI g 41 L3), (v4, gI g 41 V3), (v6, gI g 41 T3)] := hW
      refine W.eq (g2 := F0 m 53 ls []) rfl ?_
      have hFI := hp.1
      have hb3 := hFI.1
      have hnw := (hG.2 w.toNat (by omega)).1
      have hfi := hf_bad_iff hG (f := w.toNat) (x := m9) (sx := s9) (by omega) (by omega) (by omega)
      have hs0 : b3 = 0 → S3 (((eN (fE F w.toNat) : Nat) : Int) - 1).toNat = hf (fP F) (fE F) w.toNat m9 s9 := fun q => by
        have z := SI_end hG hw rfl (hFI.2.1 q).1 (hFI.2.1 q).2
        rw [RQ_S hw.1] at z
        exact z.symm
      refine lv_aload_n S0.1 S0.2.1 dX11_chainByFeeding_53 rfl (lv_at hl 1 rfl) ?_
      refine q_get (C := RX11) (T := TX11) (N := 26) S0 hK hW.1 hinX11 2 rfl rfl 22 (by decide) (List.mem_of_getElem? (i := 3) rfl) rfl rfl dX11_chainByFeeding_54 ?_
      refine q_if_eq (tgt := 64) S0 (by omega) dX11_chainByFeeding_57 (by decide) (fun c57 => ?_) (fun c57 => ?_)
      · skip
        refine lv_aload_n S0.1 S0.2.1 dX11_chainByFeeding_64 rfl (lv_at hl 1 rfl) ?_
        refine q_get (C := RX11) (T := TX11) (N := 26) S0 hK hW.1 hinX11 2 rfl rfl 17 (by decide) (List.mem_of_getElem? (i := 4) rfl) rfl rfl dX11_chainByFeeding_65 ?_
        refine lv_aload_n S0.1 S0.2.1 dX11_chainByFeeding_68 rfl (lv_at hl 1 rfl) ?_
        refine lv_iload_n S0.1 S0.2.1 dX11_chainByFeeding_69 rfl (lv_at hl 2 rfl) ?_
        refine q_pV (n := 1) (rest := [.ref v2]) S0 hK (c_X11_size l g mo az ap ak ax a1 a2 a3 a4 a5 a6 v1 v2 v3 v4 v5 v6 pm ik ty 0 mn wt b3 wh dp dg Z w (hw)) (subP hW.1 [2, 3] rfl) (trivial) gX11_chainByFeeding_X11_size rfl rfl rfl (by decide +kernel) ⟨Nat.le_of_ble_eq_true rfl, Nat.le_of_ble_eq_true rfl⟩ (q_recv hK hW.1 (ci := 11) (q0 := 2) rfl rfl) rfl rfl hl.1 (Nat.le_of_ble_eq_true rfl) ⟨Nat.le_of_ble_eq_true rfl, Nat.le_of_ble_eq_true rfl⟩ dX11_chainByFeeding_70 ?_
        refine W.eq (g2 := F0 m 73 ls [.int (iI (Z (1 + 81 * w).toNat)), .ref v2]) rfl ?_
        refine q_topI (b := ((eN (fE F w.toNat) : Nat) : Int)) ((hz.2 w hw).1) ?_
        refine q_iconst S0 dX11_chainByFeeding_73 ?_
        refine q_isub S0 dX11_chainByFeeding_74 ?_
        refine q_iald S0 hK hW.1 7 rfl (by omega) dX11_chainByFeeding_75 ?_
        refine q_topI (b := hf (fP F) (fE F) w.toNat m9 s9) (hs0 (by omega)) ?_
        exact q_iret S0 hr hlocks ((mkK (kV Ka) (kH Ka) (kR Ka) W3 S3 L3 V3 (kX Ka) T3), b3) (⟨hTBw, hTB⟩) (by unfold cbf; rw [← hm9, ← hs9, if_neg (by omega)]; first | done | rw [hfi.mpr (hFI.2.2.1 (by omega))]) (hW.sub [2, 3, 4, 5, 0, 6, 7, 8, 9, 1, 10] rfl (rfl)) (Nat.le_of_ble_eq_true rfl) (Nat.le_of_ble_eq_true rfl) dX11_chainByFeeding_76
      · skip
        refine q_iconst S0 dX11_chainByFeeding_60 ?_
        refine lv_goto (tgt := 76) S0.1 S0.2.1 dX11_chainByFeeding_61 (by decide) ?_
        exact q_iret S0 hr hlocks ((mkK (kV Ka) (kH Ka) (kR Ka) W3 S3 L3 V3 (kX Ka) T3), b3) (⟨hTBw, hTB⟩) (by unfold cbf; rw [← hm9, ← hs9, if_neg (by omega)]; first | done | rw [hfi.mpr (hFI.2.2.1 (by omega))]) (hW.sub [2, 3, 4, 5, 0, 6, 7, 8, 9, 1, 10] rfl (rfl)) (Nat.le_of_ble_eq_true rfl) (Nat.le_of_ble_eq_true rfl) dX11_chainByFeeding_76
    · skip
      refine q_iconst S0 dX11_chainByFeeding_32 ?_
      exact q_iret S0 hr hlocks (Ka, ba) (⟨hTBw, hTB⟩) (by unfold cbf; rw [← hm9, if_pos (by omega)]) (hW.sub [0, 1, 2, 3, 4, 5, 6, 7, 8, 9, 10] rfl (rfl)) (Nat.le_of_ble_eq_true rfl) (Nat.le_of_ble_eq_true rfl) dX11_chainByFeeding_33
  · skip
    exact absurd c7 (by omega)
set_option maxHeartbeats 4000000 in
set_option maxRecDepth 100000 in
theorem c_X11_isSame1 (l : Launch) (g : GG) (mo az ap ak ax a1 a2 a3 a4 a5 a6 v1 v2 v3 v4 v5 v6 : Nat) (pm ik ty th mn wt bn wh dp dg : Int) (w u : Int) (hu : ¬ ((0 ≤ w ∧ w ≤ 3) ∧ (0 ≤ u ∧ u ≤ 3)) ∧ (-2147483648 ≤ w ∧ w < 2147483648) ∧ (-2147483648 ≤ u ∧ u < 2147483648)) : qMet l yX11_isSame wsX11_isSame ({ frames := 2, cells := 0, slots := 0, locals := 42 }) g [.ref mo, .int (iI w), .int (iI u)] [(mo, .inr (11, [.ref az, .ref ap, .int (iI pm), .ref ak, .int (iI ik), .ref ax, .int (iI ty), .int (iI th), .ref a1, .ref a2, .int (iI mn), .ref a3, .int (iI wt), .ref a4, .ref a5, .ref a6, .ref v1, .ref v2, .ref v3, .ref v4, .ref v5, .ref v6, .int (iI bn), .int (iI wh), .int (iI dp), .int (iI dg)]))] (fun _ => True) (fun _ => True) (S := Unit) (fun _ => some (.int (iI 0))) (fun _ => [(mo, .inr (11, [.ref az, .ref ap, .int (iI pm), .ref ak, .int (iI ik), .ref ax, .int (iI ty), .int (iI 1), .ref a1, .ref a2, .int (iI mn), .ref a3, .int (iI wt), .ref a4, .ref a5, .ref a6, .ref v1, .ref v2, .ref v3, .ref v4, .ref v5, .ref v6, .int (iI bn), .int (iI wh), .int (iI dp), .int (iI dg)]))]) (fun _ => True) 0 0 := by
  refine q_ofW (cc := cX11_isSame) (maxL := 5) (ret := (some .boolean)) (fun sz h => h.self) (by decide) rfl (Nat.le_of_ble_eq_true rfl) ?_
  intro p e s m args below meth c A ls S0 hr hlocks hnme hK hA hAe hW hD0 hX hl
  have hW : gW g A s.heap s.heap [] [(mo, .inr (11, [.ref az, .ref ap, .int (iI pm), .ref ak, .int (iI ik), .ref ax, .int (iI ty), .int (iI th), .ref a1, .ref a2, .int (iI mn), .ref a3, .int (iI wt), .ref a4, .ref a5, .ref a6, .ref v1, .ref v2, .ref v3, .ref v4, .ref v5, .ref v6, .int (iI bn), .int (iI wh), .int (iI dp), .int (iI dg)]))] := hW
  have hl : lv_has ls 5 [(0, .ref mo), (1, .int (iI w)), (2, .int (iI u))] := hl
  refine lv_aload_n S0.1 S0.2.1 dX11_isSame_0 rfl (lv_at hl 0 rfl) ?_
  refine lv_iload_n S0.1 S0.2.1 dX11_isSame_1 rfl (lv_at hl 1 rfl) ?_
  refine q_pS (n := 1) (rest := [.ref mo]) S0 hK (c_X11_isFunction l g w (by omega)) (subP hW.1 [] rfl) (trivial) gX11_isSame_X11_isFunction rfl rfl rfl (by decide +kernel) ⟨Nat.le_of_ble_eq_true rfl, Nat.le_of_ble_eq_true rfl⟩ rfl rfl hl.1 (Nat.le_of_ble_eq_true rfl) ⟨Nat.le_of_ble_eq_true rfl, Nat.le_of_ble_eq_true rfl⟩ dX11_isSame_2 ?_
  refine W.eq (g2 := F0 m 5 ls [.int (iI (if 0 ≤ w ∧ w ≤ 3 then (1 : Int) else 0)), .ref mo]) rfl ?_
  refine q_if_eqP (tgt := 19) S0 dX11_isSame_5 (by decide) (fun c5 => ?_) (fun c5 => ?_)
  · skip
    refine q_iconst S0 dX11_isSame_19 ?_
    refine q_cV (n := 1) (rest := []) (wr := []) S0 hK hA hW (c_X11_asksF l g mo az ap ak ax a1 a2 a3 a4 a5 a6 v1 v2 v3 v4 v5 v6 pm ik ty th mn wt bn wh dp dg) gX11_isSame_X11_asks rfl rfl rfl (by decide +kernel) ⟨Nat.le_of_ble_eq_true rfl, Nat.le_of_ble_eq_true rfl⟩ [0] [] rfl rfl rfl rfl (by decide) (q_recv hK hW.1 (ci := 11) (q0 := 0) rfl rfl) (fun _ _ => trivial) (trivial) rfl rfl hl.1 (Nat.le_of_ble_eq_true rfl) ⟨Nat.le_of_ble_eq_true rfl, Nat.le_of_ble_eq_true rfl⟩ dX11_isSame_20 (fun _ H locs _ hW => ?_)
    have hW : gW g A s.heap H _ [(mo, .inr (11, [.ref az, .ref ap, .int (iI pm), .ref ak, .int (iI ik), .ref ax, .int (iI ty), .int (iI 1), .ref a1, .ref a2, .int (iI mn), .ref a3, .int (iI wt), .ref a4, .ref a5, .ref a6, .ref v1, .ref v2, .ref v3, .ref v4, .ref v5, .ref v6, .int (iI bn), .int (iI wh), .int (iI dp), .int (iI dg)]))] := hW
    refine W.eq (g2 := F0 m 23 ls [.int (iI 0)]) rfl ?_
    refine q_if_ne (tgt := 28) S0 (by omega) dX11_isSame_23 (by decide) (fun c23 => ?_) (fun c23 => ?_)
    · skip
      exact absurd c23 (by omega)
    · skip
      refine q_iconst S0 dX11_isSame_26 ?_
      exact q_zret S0 hr hlocks () (trivial) (Or.inl rfl) (rfl) (hW.sub [0] rfl (rfl)) (Nat.le_of_ble_eq_true rfl) (Nat.le_of_ble_eq_true rfl) dX11_isSame_27
  · skip
    refine lv_iload_n S0.1 S0.2.1 dX11_isSame_8 rfl (lv_at hl 2 rfl) ?_
    refine q_pS (n := 1) (rest := [.ref mo]) S0 hK (c_X11_isFunction l g u (by omega)) (subP hW.1 [] rfl) (trivial) gX11_isSame_X11_isFunction rfl rfl rfl (by decide +kernel) ⟨Nat.le_of_ble_eq_true rfl, Nat.le_of_ble_eq_true rfl⟩ rfl rfl hl.1 (Nat.le_of_ble_eq_true rfl) ⟨Nat.le_of_ble_eq_true rfl, Nat.le_of_ble_eq_true rfl⟩ dX11_isSame_9 ?_
    refine W.eq (g2 := F0 m 12 ls [.int (iI (if 0 ≤ u ∧ u ≤ 3 then (1 : Int) else 0)), .ref mo]) rfl ?_
    refine q_if_eqP (tgt := 19) S0 dX11_isSame_12 (by decide) (fun c12 => ?_) (fun c12 => ?_)
    · skip
      refine q_iconst S0 dX11_isSame_19 ?_
      refine q_cV (n := 1) (rest := []) (wr := []) S0 hK hA hW (c_X11_asksF l g mo az ap ak ax a1 a2 a3 a4 a5 a6 v1 v2 v3 v4 v5 v6 pm ik ty th mn wt bn wh dp dg) gX11_isSame_X11_asks rfl rfl rfl (by decide +kernel) ⟨Nat.le_of_ble_eq_true rfl, Nat.le_of_ble_eq_true rfl⟩ [0] [] rfl rfl rfl rfl (by decide) (q_recv hK hW.1 (ci := 11) (q0 := 0) rfl rfl) (fun _ _ => trivial) (trivial) rfl rfl hl.1 (Nat.le_of_ble_eq_true rfl) ⟨Nat.le_of_ble_eq_true rfl, Nat.le_of_ble_eq_true rfl⟩ dX11_isSame_20 (fun _ H locs _ hW => ?_)
      have hW : gW g A s.heap H _ [(mo, .inr (11, [.ref az, .ref ap, .int (iI pm), .ref ak, .int (iI ik), .ref ax, .int (iI ty), .int (iI 1), .ref a1, .ref a2, .int (iI mn), .ref a3, .int (iI wt), .ref a4, .ref a5, .ref a6, .ref v1, .ref v2, .ref v3, .ref v4, .ref v5, .ref v6, .int (iI bn), .int (iI wh), .int (iI dp), .int (iI dg)]))] := hW
      refine W.eq (g2 := F0 m 23 ls [.int (iI 0)]) rfl ?_
      refine q_if_ne (tgt := 28) S0 (by omega) dX11_isSame_23 (by decide) (fun c23 => ?_) (fun c23 => ?_)
      · skip
        exact absurd c23 (by omega)
      · skip
        refine q_iconst S0 dX11_isSame_26 ?_
        exact q_zret S0 hr hlocks () (trivial) (Or.inl rfl) (rfl) (hW.sub [0] rfl (rfl)) (Nat.le_of_ble_eq_true rfl) (Nat.le_of_ble_eq_true rfl) dX11_isSame_27
    · skip
      exact absurd c12 (by omega)
set_option maxHeartbeats 4000000 in
set_option maxRecDepth 100000 in
theorem c_X11_isSame0 (l : Launch) (g : GG) (mo az ap ak ax a1 a2 a3 a4 a5 a6 v1 v2 v3 v4 v5 v6 : Nat) (pm ik ty th mn wt bn wh dp dg : Int) (Z : Nat → Int) (F : FT) (K : KT) (w u : Int) (hG : GF F) (hz : ZR Z F) (hlk : LKG F) (hw : 0 ≤ w ∧ w < 4) (hu : 0 ≤ u ∧ u < 4) : qMet l yX11_isSame wsX11_isSame ({ frames := 5, cells := 0, slots := 0, locals := 123 }) g [.ref mo, .int (iI w), .int (iI u)] [(mo, .inr (11, [.ref az, .ref ap, .int (iI pm), .ref ak, .int (iI ik), .ref ax, .int (iI ty), .int (iI th), .ref a1, .ref a2, .int (iI mn), .ref a3, .int (iI wt), .ref a4, .ref a5, .ref a6, .ref v1, .ref v2, .ref v3, .ref v4, .ref v5, .ref v6, .int (iI bn), .int (iI wh), .int (iI dp), .int (iI dg)])), (az, gI g 325 Z), (a4, gI g 796 (kV K)), (a5, gI g 796 (kH K)), (a6, gI g 796 (kR K)), (v1, gI g 41 (kW K)), (v2, gI g 41 (kS K)), (v3, gI g 41 (kL K)), (v4, gI g 41 (kE K)), (v5, gI g 41 (kX K)), (v6, gI g 41 (kT K))] (fun _ => True) (fun _ => True) (S := KT × Int) (fun u_ => some (.int (iI (equ (vv (fP F) (fE F) w.toNat) (vv (fP F) (fE F) u.toNat) (fP F).toNat 0)))) (fun u_ => [(mo, .inr (11, [.ref az, .ref ap, .int (iI pm), .ref ak, .int (iI ik), .ref ax, .int (iI ty), .int (iI 0), .ref a1, .ref a2, .int (iI mn), .ref a3, .int (iI wt), .ref a4, .ref a5, .ref a6, .ref v1, .ref v2, .ref v3, .ref v4, .ref v5, .ref v6, .int (iI u_.2), .int (iI wh), .int (iI dp), .int (iI dg)])), (az, gI g 325 Z), (a4, gI g 796 (kV u_.1)), (a5, gI g 796 (kH u_.1)), (a6, gI g 796 (kR u_.1)), (v1, gI g 41 (kW u_.1)), (v2, gI g 41 (kS u_.1)), (v3, gI g 41 (kL u_.1)), (v4, gI g 41 (kE u_.1)), (v5, gI g 41 (kX u_.1)), (v6, gI g 41 (kT u_.1))]) (fun u_ => TB F (w + 1) (kV u_.1) (kH u_.1) (kR u_.1) ∧ TB F (u + 1) (kV u_.1) (kH u_.1) (kR u_.1)) 0 0 := by
  refine q_ofW (cc := cX11_isSame) (maxL := 5) (ret := (some .boolean)) (fun sz h => h.self) (by decide) rfl (Nat.le_of_ble_eq_true rfl) ?_
  intro p e s m args below meth c A ls S0 hr hlocks hnme hK hA hAe hW hD0 hX hl
  have hW : gW g A s.heap s.heap [] [(mo, .inr (11, [.ref az, .ref ap, .int (iI pm), .ref ak, .int (iI ik), .ref ax, .int (iI ty), .int (iI th), .ref a1, .ref a2, .int (iI mn), .ref a3, .int (iI wt), .ref a4, .ref a5, .ref a6, .ref v1, .ref v2, .ref v3, .ref v4, .ref v5, .ref v6, .int (iI bn), .int (iI wh), .int (iI dp), .int (iI dg)])), (az, gI g 325 Z), (a4, gI g 796 (kV K)), (a5, gI g 796 (kH K)), (a6, gI g 796 (kR K)), (v1, gI g 41 (kW K)), (v2, gI g 41 (kS K)), (v3, gI g 41 (kL K)), (v4, gI g 41 (kE K)), (v5, gI g 41 (kX K)), (v6, gI g 41 (kT K))] := hW
  have hl : lv_has ls 5 [(0, .ref mo), (1, .int (iI w)), (2, .int (iI u))] := hl
  have hinX11 : ∀ w ∈ wsX110, w ∈ wsX11_isSame := fun w h => List.mem_cons_of_mem _ (List.mem_append_right _ h)
  have hpr := GF_p hG
  refine lv_aload_n S0.1 S0.2.1 dX11_isSame_0 rfl (lv_at hl 0 rfl) ?_
  refine lv_iload_n S0.1 S0.2.1 dX11_isSame_1 rfl (lv_at hl 1 rfl) ?_
  refine q_pS (n := 1) (rest := [.ref mo]) S0 hK (c_X11_isFunction l g w (by omega)) (subP hW.1 [] rfl) (trivial) gX11_isSame_X11_isFunction rfl rfl rfl (by decide +kernel) ⟨Nat.le_of_ble_eq_true rfl, Nat.le_of_ble_eq_true rfl⟩ rfl rfl hl.1 (Nat.le_of_ble_eq_true rfl) ⟨Nat.le_of_ble_eq_true rfl, Nat.le_of_ble_eq_true rfl⟩ dX11_isSame_2 ?_
  refine W.eq (g2 := F0 m 5 ls [.int (iI (if 0 ≤ w ∧ w ≤ 3 then (1 : Int) else 0)), .ref mo]) rfl ?_
  refine q_if_eqP (tgt := 19) S0 dX11_isSame_5 (by decide) (fun c5 => ?_) (fun c5 => ?_)
  · skip
    exact absurd c5 (by omega)
  · skip
    refine lv_iload_n S0.1 S0.2.1 dX11_isSame_8 rfl (lv_at hl 2 rfl) ?_
    refine q_pS (n := 1) (rest := [.ref mo]) S0 hK (c_X11_isFunction l g u (by omega)) (subP hW.1 [] rfl) (trivial) gX11_isSame_X11_isFunction rfl rfl rfl (by decide +kernel) ⟨Nat.le_of_ble_eq_true rfl, Nat.le_of_ble_eq_true rfl⟩ rfl rfl hl.1 (Nat.le_of_ble_eq_true rfl) ⟨Nat.le_of_ble_eq_true rfl, Nat.le_of_ble_eq_true rfl⟩ dX11_isSame_9 ?_
    refine W.eq (g2 := F0 m 12 ls [.int (iI (if 0 ≤ u ∧ u ≤ 3 then (1 : Int) else 0)), .ref mo]) rfl ?_
    refine q_if_eqP (tgt := 19) S0 dX11_isSame_12 (by decide) (fun c12 => ?_) (fun c12 => ?_)
    · skip
      exact absurd c12 (by omega)
    · skip
      refine q_iconst S0 dX11_isSame_15 ?_
      refine lv_goto (tgt := 20) S0.1 S0.2.1 dX11_isSame_16 (by decide) ?_
      refine q_cV (n := 1) (rest := []) (wr := [(az, gI g 325 Z), (a4, gI g 796 (kV K)), (a5, gI g 796 (kH K)), (a6, gI g 796 (kR K)), (v1, gI g 41 (kW K)), (v2, gI g 41 (kS K)), (v3, gI g 41 (kL K)), (v4, gI g 41 (kE K)), (v5, gI g 41 (kX K)), (v6, gI g 41 (kT K))]) S0 hK hA hW (c_X11_asksT l g mo az ap ak ax a1 a2 a3 a4 a5 a6 v1 v2 v3 v4 v5 v6 pm ik ty th mn wt bn wh dp dg) gX11_isSame_X11_asks rfl rfl rfl (by decide +kernel) ⟨Nat.le_of_ble_eq_true rfl, Nat.le_of_ble_eq_true rfl⟩ [0] [1, 2, 3, 4, 5, 6, 7, 8, 9, 10] rfl rfl rfl rfl (by decide) (q_recv hK hW.1 (ci := 11) (q0 := 0) rfl rfl) (fun _ _ => trivial) (trivial) rfl rfl hl.1 (Nat.le_of_ble_eq_true rfl) ⟨Nat.le_of_ble_eq_true rfl, Nat.le_of_ble_eq_true rfl⟩ dX11_isSame_20 (fun _ H locs _ hW => ?_)
      have hW : gW g A s.heap H _ [(az, gI g 325 Z), (a4, gI g 796 (kV K)), (a5, gI g 796 (kH K)), (a6, gI g 796 (kR K)), (v1, gI g 41 (kW K)), (v2, gI g 41 (kS K)), (v3, gI g 41 (kL K)), (v4, gI g 41 (kE K)), (v5, gI g 41 (kX K)), (v6, gI g 41 (kT K)), (mo, .inr (11, [.ref az, .ref ap, .int (iI pm), .ref ak, .int (iI ik), .ref ax, .int (iI ty), .int (iI 0), .ref a1, .ref a2, .int (iI mn), .ref a3, .int (iI wt), .ref a4, .ref a5, .ref a6, .ref v1, .ref v2, .ref v3, .ref v4, .ref v5, .ref v6, .int (iI bn), .int (iI wh), .int (iI dp), .int (iI dg)]))] := hW
      refine W.eq (g2 := F0 m 23 ls [.int (iI 1)]) rfl ?_
      refine q_if_ne (tgt := 28) S0 (by omega) dX11_isSame_23 (by decide) (fun c23 => ?_) (fun c23 => ?_)
      · skip
        refine lv_aload_n S0.1 S0.2.1 dX11_isSame_28 rfl (lv_at hl 0 rfl) ?_
        refine q_cut (α := Int) (fun q9 => F0 m 39 ls (.int (iI q9) :: [.ref mo])) (fun q9 => q9 = if u < w then w else u) (fun q9 hq9 => ?_) (fun hJ29 => ?_)
        · skip
          have hq1 : w ≤ q9 ∧ u ≤ q9 := by rw [hq9]; split <;> omega
          refine q_cV (n := 1) (rest := []) (wr := []) S0 hK hA hW (c_X11_knows l g mo az ap ak ax a1 a2 a3 a4 a5 a6 v1 v2 v3 v4 v5 v6 pm ik ty 0 mn wt bn wh dp dg Z F K q9 (hG) (hz) (hlk) (by rw [hq9]; split <;> omega)) gX11_isSame_X11_knows rfl rfl rfl (by decide +kernel) ⟨Nat.le_of_ble_eq_true rfl, Nat.le_of_ble_eq_true rfl⟩ [10, 0, 1, 2, 3, 4, 5, 6, 7, 8, 9] [] rfl rfl rfl rfl (by decide) (q_recv hK hW.1 (ci := 11) (q0 := 10) rfl rfl) (fun _ _ => trivial) (trivial) rfl rfl hl.1 (Nat.le_of_ble_eq_true rfl) ⟨Nat.le_of_ble_eq_true rfl, Nat.le_of_ble_eq_true rfl⟩ dX11_isSame_39 ?_
          rintro ⟨Ka, ba⟩ H locs hp hW
          try dsimp only at hp
          have hW : gW g A s.heap H _ [(mo, .inr (11, [.ref az, .ref ap, .int (iI pm), .ref ak, .int (iI ik), .ref ax, .int (iI ty), .int (iI 0), .ref a1, .ref a2, .int (iI mn), .ref a3, .int (iI wt), .ref a4, .ref a5, .ref a6, .ref v1, .ref v2, .ref v3, .ref v4, .ref v5, .ref v6, .int (iI ba), .int (iI wh), .int (iI dp), .int (iI dg)])), (az, gI g 325 Z), (a4, gI g 796 (kV Ka)), (a5, gI g 796 (kH Ka)), (a6, gI g 796 (kR Ka)), (v1, gI g 41 (kW Ka)), (v2, gI g 41 (kS Ka)), (v3, gI g 41 (kL Ka)), (v4, gI g 41 (kE Ka)), (v5, gI g 41 (kX Ka)), (v6, gI g 41 (kT Ka))] := hW
          refine W.eq (g2 := F0 m 42 ls []) rfl ?_
          have hTBw : TB F (w + 1) (kV Ka) (kH Ka) (kR Ka) := TB_le hp (by omega)
          have hTB : TB F (u + 1) (kV Ka) (kH Ka) (kR Ka) := TB_le hp (by omega)
          refine q_iconst S0 dX11_isSame_42 ?_
          refine lv_istore_n (lv' := [(3, .int (iI 1)), (0, .ref mo), (1, .int (iI w)), (2, .int (iI u))]) S0.1 S0.2.1 dX11_isSame_43 rfl hl (by decide) rfl (fun ls hl => ?_)
          refine q_iconst S0 dX11_isSame_44 ?_
          refine lv_istore (lv' := [(4, .int (iI 0)), (3, .int (iI 1)), (0, .ref mo), (1, .int (iI w)), (2, .int (iI u))]) S0.1 S0.2.1 dX11_isSame_45 hl (by decide) rfl (fun ls hl => ?_)
          refine q_loop (α := Int × Int) (fun (z_ : Int × Int) => match z_ with | (i, b9) => (0 ≤ i ∧ i ≤ fP F) ∧ ((b9 = 1 ∧ equ (vv (fP F) (fE F) w.toNat) (vv (fP F) (fE F) u.toNat) (fP F - i).toNat i = equ (vv (fP F) (fE F) w.toNat) (vv (fP F) (fE F) u.toNat) (fP F).toNat 0) ∨ (b9 = 0 ∧ equ (vv (fP F) (fE F) w.toNat) (vv (fP F) (fE F) u.toNat) (fP F).toNat 0 = 0))) (fun (z_ : Int × Int) => match z_ with | (i, b9) => (fP F - i).toNat) (fun (z_ : Int × Int) => match z_ with | (i, b9) => [(mo, .inr (11, [.ref az, .ref ap, .int (iI pm), .ref ak, .int (iI ik), .ref ax, .int (iI ty), .int (iI 0), .ref a1, .ref a2, .int (iI mn), .ref a3, .int (iI wt), .ref a4, .ref a5, .ref a6, .ref v1, .ref v2, .ref v3, .ref v4, .ref v5, .ref v6, .int (iI ba), .int (iI wh), .int (iI dp), .int (iI dg)])), (az, gI g 325 Z), (a4, gI g 796 (kV Ka)), (a5, gI g 796 (kH Ka)), (a6, gI g 796 (kR Ka)), (v1, gI g 41 (kW Ka)), (v2, gI g 41 (kS Ka)), (v3, gI g 41 (kL Ka)), (v4, gI g 41 (kE Ka)), (v5, gI g 41 (kX Ka)), (v6, gI g 41 (kT Ka))]) (fun (z_ : Int × Int) => match z_ with | (i, b9) => [(4, .int (iI i)), (3, .int (iI b9)), (0, .ref mo), (1, .int (iI w)), (2, .int (iI u))]) ?_ (0, 1) (by exact ⟨by omega, Or.inl ⟨rfl, by rw [show fP F - 0 = fP F by omega]⟩⟩) hW (lv_sub hl [0, 1, 2, 3, 4] rfl)
          rintro ⟨i, b9⟩ hinv IHl H locs ls hW hl
          try dsimp only at hinv
          have hW : gW g A s.heap H _ [(mo, .inr (11, [.ref az, .ref ap, .int (iI pm), .ref ak, .int (iI ik), .ref ax, .int (iI ty), .int (iI 0), .ref a1, .ref a2, .int (iI mn), .ref a3, .int (iI wt), .ref a4, .ref a5, .ref a6, .ref v1, .ref v2, .ref v3, .ref v4, .ref v5, .ref v6, .int (iI ba), .int (iI wh), .int (iI dp), .int (iI dg)])), (az, gI g 325 Z), (a4, gI g 796 (kV Ka)), (a5, gI g 796 (kH Ka)), (a6, gI g 796 (kR Ka)), (v1, gI g 41 (kW Ka)), (v2, gI g 41 (kS Ka)), (v3, gI g 41 (kL Ka)), (v4, gI g 41 (kE Ka)), (v5, gI g 41 (kX Ka)), (v6, gI g 41 (kT Ka))] := hW
          have hl : lv_has ls 5 [(4, .int (iI i)), (3, .int (iI b9)), (0, .ref mo), (1, .int (iI w)), (2, .int (iI u))] := hl
          obtain ⟨hi, hbq⟩ := hinv
          refine lv_iload S0.1 S0.2.1 dX11_isSame_47 (lv_at hl 0 rfl) ?_
          refine lv_aload_n S0.1 S0.2.1 dX11_isSame_49 rfl (lv_at hl 2 rfl) ?_
          refine q_get (C := RX11) (T := TX11) (N := 26) S0 hK hW.1 hinX11 0 rfl rfl 0 (by decide) (List.mem_of_getElem? (i := 1) rfl) rfl rfl dX11_isSame_50 ?_
          refine q_iconst S0 dX11_isSame_53 ?_
          refine q_iald S0 hK hW.1 1 rfl (by omega) dX11_isSame_54 ?_
          refine W.eq (g2 := F0 m 55 ls [.int (iI (Z 0)), .int (iI i)]) rfl ?_
          refine q_topI (b := fP F) (hz.1) ?_
          refine q_icmp_ge (tgt := 103) S0 (by omega) dX11_isSame_55 (by decide) (fun c55 => ?_) (fun c55 => ?_)
          · skip
            refine lv_iload_n S0.1 S0.2.1 dX11_isSame_103 rfl (lv_at hl 1 rfl) ?_
            exact q_zret S0 hr hlocks (Ka, ba) (⟨hTBw, hTB⟩) (by omega) (by rcases hbq with q | q; rw [← q.2, show (fP F - i).toNat = 0 by omega, q.1]; rfl; rw [q.2, q.1]) (hW.sub [0, 1, 2, 3, 4, 5, 6, 7, 8, 9, 10] rfl (rfl)) (Nat.le_of_ble_eq_true rfl) (Nat.le_of_ble_eq_true rfl) dX11_isSame_104
          · skip
            have hvr := GF_vv hG hu (x := i)
            have hvw := GF_vv hG hw (x := i)
            refine q_cut (α := Int) (fun z9 => F0 m 96 ls (.int (iI z9) :: [])) (fun z9 => z9 = if ¬ b9 = 0 ∧ vv (fP F) (fE F) w.toNat i = vv (fP F) (fE F) u.toNat i then (1 : Int) else 0) (fun z9 hz9 => ?_) (fun hJ58 => ?_)
            · skip
              refine lv_istore_n (lv' := [(3, .int (iI z9)), (4, .int (iI i)), (0, .ref mo), (1, .int (iI w)), (2, .int (iI u))]) S0.1 S0.2.1 dX11_isSame_96 rfl hl (by decide) rfl (fun ls hl => ?_)
              refine q_iinc (lv' := [(4, .int (iI (i + 1))), (3, .int (iI z9)), (0, .ref mo), (1, .int (iI w)), (2, .int (iI u))]) S0 dX11_isSame_97 hl (k := 1) rfl (by decide) rfl (fun ls hl => ?_)
              refine lv_goto (tgt := 47) S0.1 S0.2.1 dX11_isSame_100 (by decide) ?_
              exact IHl (i + 1, z9) H locs ls (by
                    refine ⟨by omega, ?_⟩
                    rw [hz9]
                    rcases hbq with q | q
                    · by_cases y : vv (fP F) (fE F) w.toNat i = vv (fP F) (fE F) u.toNat i
                      · rw [if_pos ⟨by omega, y⟩]
                        refine Or.inl ⟨rfl, ?_⟩
                        rw [← q.2, show (fP F - i).toNat = (fP F - (i + 1)).toNat + 1 by omega]
                        exact (equ_step y).symm
                      · rw [if_neg (fun z => y z.2)]
                        refine Or.inr ⟨rfl, ?_⟩
                        rw [← q.2, show (fP F - i).toNat = (fP F - (i + 1)).toNat + 1 by omega]
                        exact equ_no y
                    · rw [if_neg (fun z => z.1 q.1)]
                      exact Or.inr ⟨rfl, q.2⟩) (by dsimp only; omega) hW (lv_sub hl [0, 1, 2, 3, 4] rfl)
            · skip
              refine lv_iload_n S0.1 S0.2.1 dX11_isSame_58 rfl (lv_at hl 1 rfl) ?_
              refine q_if_eq (tgt := 95) S0 (by omega) dX11_isSame_59 (by decide) (fun c59 => ?_) (fun c59 => ?_)
              · skip
                refine q_iconst S0 dX11_isSame_95 ?_
                exact hJ58 _ (by first | (rw [if_pos (by omega)]; done) | (rw [if_neg (by omega)]; done) | omega)
              · skip
                refine lv_aload_n S0.1 S0.2.1 dX11_isSame_62 rfl (lv_at hl 2 rfl) ?_
                refine q_get (C := RX11) (T := TX11) (N := 26) S0 hK hW.1 hinX11 0 rfl rfl 13 (by decide) (List.mem_of_getElem? (i := 2) rfl) rfl rfl dX11_isSame_63 ?_
                refine q_sipush S0 (by decide) dX11_isSame_66 ?_
                refine lv_iload_n S0.1 S0.2.1 dX11_isSame_69 rfl (lv_at hl 3 rfl) ?_
                refine q_imul S0 dX11_isSame_70 ?_
                refine lv_iload S0.1 S0.2.1 dX11_isSame_71 (lv_at hl 0 rfl) ?_
                refine q_iadd S0 dX11_isSame_73 ?_
                refine q_iald S0 hK hW.1 2 rfl (by omega) dX11_isSame_74 ?_
                refine q_topI (b := vv (fP F) (fE F) w.toNat i) ((hTBw w i (by omega) (by omega) (by omega) (by omega)).1) ?_
                have hvr2 := hvr (by omega)
                have hvw2 := hvw (by omega)
                refine lv_aload_n S0.1 S0.2.1 dX11_isSame_75 rfl (lv_at hl 2 rfl) ?_
                refine q_get (C := RX11) (T := TX11) (N := 26) S0 hK hW.1 hinX11 0 rfl rfl 13 (by decide) (List.mem_of_getElem? (i := 2) rfl) rfl rfl dX11_isSame_76 ?_
                refine q_sipush S0 (by decide) dX11_isSame_79 ?_
                refine lv_iload_n S0.1 S0.2.1 dX11_isSame_82 rfl (lv_at hl 4 rfl) ?_
                refine q_imul S0 dX11_isSame_83 ?_
                refine lv_iload S0.1 S0.2.1 dX11_isSame_84 (lv_at hl 0 rfl) ?_
                refine q_iadd S0 dX11_isSame_86 ?_
                refine q_iald S0 hK hW.1 2 rfl (by omega) dX11_isSame_87 ?_
                refine q_topI (b := vv (fP F) (fE F) u.toNat i) ((hTB u i (by omega) (by omega) (by omega) (by omega)).1) ?_
                refine q_icmp_ne (tgt := 95) S0 (by omega) dX11_isSame_88 (by decide) (fun c88 => ?_) (fun c88 => ?_)
                · skip
                  refine q_iconst S0 dX11_isSame_95 ?_
                  exact hJ58 _ (by first | (rw [if_pos (by omega)]; done) | (rw [if_neg (by omega)]; done) | omega)
                · skip
                  refine q_iconst S0 dX11_isSame_91 ?_
                  refine lv_goto (tgt := 96) S0.1 S0.2.1 dX11_isSame_92 (by decide) ?_
                  exact hJ58 _ (by first | (rw [if_pos (by omega)]; done) | (rw [if_neg (by omega)]; done) | omega)
        · skip
          refine lv_iload_n S0.1 S0.2.1 dX11_isSame_29 rfl (lv_at hl 1 rfl) ?_
          refine lv_iload_n S0.1 S0.2.1 dX11_isSame_30 rfl (lv_at hl 2 rfl) ?_
          refine q_icmp_le (tgt := 38) S0 (by omega) dX11_isSame_31 (by decide) (fun c31 => ?_) (fun c31 => ?_)
          · skip
            refine lv_iload_n S0.1 S0.2.1 dX11_isSame_38 rfl (lv_at hl 2 rfl) ?_
            exact hJ29 _ (by first | (rw [if_pos (by omega)]; done) | (rw [if_neg (by omega)]; done) | omega)
          · skip
            refine lv_iload_n S0.1 S0.2.1 dX11_isSame_34 rfl (lv_at hl 1 rfl) ?_
            refine lv_goto (tgt := 39) S0.1 S0.2.1 dX11_isSame_35 (by decide) ?_
            exact hJ29 _ (by first | (rw [if_pos (by omega)]; done) | (rw [if_neg (by omega)]; done) | omega)
      · skip
        exact absurd c23 (by omega)
