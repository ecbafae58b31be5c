set_option maxHeartbeats 4000000 in
set_option maxRecDepth 100000 in
theorem c_X11_asksAll1 (l : Launch) (g : GG) (mo az ap ak ax a1 a2 a3 a4 a5 a6 v1 v2 v3 v4 v5 v6 : Nat) (pm ik ty th mn wt bn wh dp dg : Int) (u : Int) (hu : (u < 0 ∨ 3 < u) ∧ -2147483648 ≤ u ∧ u < 2147483648) : qMet l yX11_asksAll wsX11_asksAll ({ frames := 2, cells := 0, slots := 0, locals := 42 }) g [.ref mo, .int (iI u)] [(mo, .inr (11, [.ref az, .ref ap, .int (iI pm), .ref ak, .int (iI ik), .ref ax, .int (iI ty), .int (iI th), .ref a1, .ref a2, .int (iI mn), .ref a3, .int (iI wt), .ref a4, .ref a5, .ref a6, .ref v1, .ref v2, .ref v3, .ref v4, .ref v5, .ref v6, .int (iI bn), .int (iI wh), .int (iI dp), .int (iI dg)]))] (fun _ => True) (fun _ => True) (S := Unit) (fun _ => some (.int (iI 0))) (fun _ => [(mo, .inr (11, [.ref az, .ref ap, .int (iI pm), .ref ak, .int (iI ik), .ref ax, .int (iI ty), .int (iI 1), .ref a1, .ref a2, .int (iI mn), .ref a3, .int (iI wt), .ref a4, .ref a5, .ref a6, .ref v1, .ref v2, .ref v3, .ref v4, .ref v5, .ref v6, .int (iI bn), .int (iI wh), .int (iI dp), .int (iI dg)]))]) (fun _ => True) 0 0 := by
  refine q_ofW (cc := cX11_asksAll) (maxL := 2) (ret := (some .boolean)) (fun sz h => h.self) (by decide) rfl (Nat.le_of_ble_eq_true rfl) ?_
  intro p e s m args below meth c A ls S0 hr hlocks hnme hK hA hAe hW hD0 hX hl
  have hW : gW g A s.heap s.heap [] [(mo, .inr (11, [.ref az, .ref ap, .int (iI pm), .ref ak, .int (iI ik), .ref ax, .int (iI ty), .int (iI th), .ref a1, .ref a2, .int (iI mn), .ref a3, .int (iI wt), .ref a4, .ref a5, .ref a6, .ref v1, .ref v2, .ref v3, .ref v4, .ref v5, .ref v6, .int (iI bn), .int (iI wh), .int (iI dp), .int (iI dg)]))] := hW
  have hl : lv_has ls 2 [(0, .ref mo), (1, .int (iI u))] := hl
  have hinX11 : ∀ w ∈ wsX110, w ∈ wsX11_asksAll := fun w h => List.mem_cons_of_mem _ (List.mem_append_right _ h)
  refine lv_aload_n S0.1 S0.2.1 dX11_asksAll_0 rfl (lv_at hl 0 rfl) ?_
  refine lv_iload_n S0.1 S0.2.1 dX11_asksAll_1 rfl (lv_at hl 1 rfl) ?_
  refine q_pS (n := 1) (rest := [.ref mo]) S0 hK (c_X11_isFunction l g u (by omega)) (subP hW.1 [] rfl) (trivial) gX11_asksAll_X11_isFunction rfl rfl rfl (by decide +kernel) ⟨Nat.le_of_ble_eq_true rfl, Nat.le_of_ble_eq_true rfl⟩ rfl rfl hl.1 (Nat.le_of_ble_eq_true rfl) ⟨Nat.le_of_ble_eq_true rfl, Nat.le_of_ble_eq_true rfl⟩ dX11_asksAll_2 ?_
  refine W.eq (g2 := F0 m 5 ls [.int (iI (if 0 ≤ u ∧ u ≤ 3 then (1 : Int) else 0)), .ref mo]) rfl ?_
  refine q_cV (n := 1) (rest := []) (wr := []) S0 hK hA hW (c_X11_asksN l g mo az ap ak ax a1 a2 a3 a4 a5 a6 v1 v2 v3 v4 v5 v6 pm ik ty th mn wt bn wh dp dg (0 ≤ u ∧ u ≤ 3) (by omega)) gX11_asksAll_X11_asks rfl rfl rfl (by decide +kernel) ⟨Nat.le_of_ble_eq_true rfl, Nat.le_of_ble_eq_true rfl⟩ [0] [] rfl rfl rfl rfl (by decide) (q_recv hK hW.1 (ci := 11) (q0 := 0) rfl rfl) (fun _ _ => trivial) (trivial) rfl rfl hl.1 (Nat.le_of_ble_eq_true rfl) ⟨Nat.le_of_ble_eq_true rfl, Nat.le_of_ble_eq_true rfl⟩ dX11_asksAll_5 (fun _ H locs _ hW => ?_)
  have hW : gW g A s.heap H _ [(mo, .inr (11, [.ref az, .ref ap, .int (iI pm), .ref ak, .int (iI ik), .ref ax, .int (iI ty), .int (iI 1), .ref a1, .ref a2, .int (iI mn), .ref a3, .int (iI wt), .ref a4, .ref a5, .ref a6, .ref v1, .ref v2, .ref v3, .ref v4, .ref v5, .ref v6, .int (iI bn), .int (iI wh), .int (iI dp), .int (iI dg)]))] := hW
  refine W.eq (g2 := F0 m 8 ls [.int (iI 0)]) rfl ?_
  refine q_if_eq (tgt := 16) S0 (by omega) dX11_asksAll_8 (by decide) (fun c8 => ?_) (fun c8 => ?_)
  · skip
    refine lv_aload_n S0.1 S0.2.1 dX11_asksAll_16 rfl (lv_at hl 0 rfl) ?_
    refine q_get (C := RX11) (T := TX11) (N := 26) S0 hK hW.1 hinX11 0 rfl rfl 7 (by decide) (List.mem_of_getElem? (i := 1) rfl) rfl rfl dX11_asksAll_17 ?_
    refine q_if_ne (tgt := 27) S0 (by omega) dX11_asksAll_20 (by decide) (fun c20 => ?_) (fun c20 => ?_)
    · skip
      refine q_iconst S0 dX11_asksAll_27 ?_
      exact q_zret S0 hr hlocks () (trivial) (Or.inl rfl) (rfl) (hW.sub [0] rfl (rfl)) (Nat.le_of_ble_eq_true rfl) (Nat.le_of_ble_eq_true rfl) dX11_asksAll_28
    · skip
      exact absurd c20 (by omega)
  · skip
    exact absurd c8 (by omega)
set_option maxHeartbeats 4000000 in
set_option maxRecDepth 100000 in
theorem c_X11_asksAll0 (l : Launch) (g : GG) (mo az ap ak ax a1 a2 a3 a4 a5 a6 v1 v2 v3 v4 v5 v6 : Nat) (pm ik ty th mn wt bn wh dp dg : Int) (Z : Nat → Int) (F : FT) (K : KT) (u : Int) (hG : GF F) (hz : ZR Z F) (hlk : LKG F) (hu : 0 ≤ u ∧ u < 4) : qMet l yX11_asksAll wsX11_asksAll ({ frames := 5, cells := 0, slots := 0, locals := 123 }) g [.ref mo, .int (iI u)] [(mo, .inr (11, [.ref az, .ref ap, .int (iI pm), .ref ak, .int (iI ik), .ref ax, .int (iI ty), .int (iI th), .ref a1, .ref a2, .int (iI mn), .ref a3, .int (iI wt), .ref a4, .ref a5, .ref a6, .ref v1, .ref v2, .ref v3, .ref v4, .ref v5, .ref v6, .int (iI bn), .int (iI wh), .int (iI dp), .int (iI dg)])), (az, gI g 325 Z), (a4, gI g 796 (kV K)), (a5, gI g 796 (kH K)), (a6, gI g 796 (kR K)), (v1, gI g 41 (kW K)), (v2, gI g 41 (kS K)), (v3, gI g 41 (kL K)), (v4, gI g 41 (kE K)), (v5, gI g 41 (kX K)), (v6, gI g 41 (kT K))] (fun _ => True) (fun _ => True) (S := KT × Int) (fun u_ => some (.int (iI 1))) (fun u_ => [(mo, .inr (11, [.ref az, .ref ap, .int (iI pm), .ref ak, .int (iI ik), .ref ax, .int (iI ty), .int (iI 0), .ref a1, .ref a2, .int (iI mn), .ref a3, .int (iI wt), .ref a4, .ref a5, .ref a6, .ref v1, .ref v2, .ref v3, .ref v4, .ref v5, .ref v6, .int (iI u_.2), .int (iI wh), .int (iI dp), .int (iI dg)])), (az, gI g 325 Z), (a4, gI g 796 (kV u_.1)), (a5, gI g 796 (kH u_.1)), (a6, gI g 796 (kR u_.1)), (v1, gI g 41 (kW u_.1)), (v2, gI g 41 (kS u_.1)), (v3, gI g 41 (kL u_.1)), (v4, gI g 41 (kE u_.1)), (v5, gI g 41 (kX u_.1)), (v6, gI g 41 (kT u_.1))]) (fun u_ => TB F (u + 1) (kV u_.1) (kH u_.1) (kR u_.1)) 0 0 := by
  refine q_ofW (cc := cX11_asksAll) (maxL := 2) (ret := (some .boolean)) (fun sz h => h.self) (by decide) rfl (Nat.le_of_ble_eq_true rfl) ?_
  intro p e s m args below meth c A ls S0 hr hlocks hnme hK hA hAe hW hD0 hX hl
  have hW : gW g A s.heap s.heap [] [(mo, .inr (11, [.ref az, .ref ap, .int (iI pm), .ref ak, .int (iI ik), .ref ax, .int (iI ty), .int (iI th), .ref a1, .ref a2, .int (iI mn), .ref a3, .int (iI wt), .ref a4, .ref a5, .ref a6, .ref v1, .ref v2, .ref v3, .ref v4, .ref v5, .ref v6, .int (iI bn), .int (iI wh), .int (iI dp), .int (iI dg)])), (az, gI g 325 Z), (a4, gI g 796 (kV K)), (a5, gI g 796 (kH K)), (a6, gI g 796 (kR K)), (v1, gI g 41 (kW K)), (v2, gI g 41 (kS K)), (v3, gI g 41 (kL K)), (v4, gI g 41 (kE K)), (v5, gI g 41 (kX K)), (v6, gI g 41 (kT K))] := hW
  have hl : lv_has ls 2 [(0, .ref mo), (1, .int (iI u))] := hl
  have hinX11 : ∀ w ∈ wsX110, w ∈ wsX11_asksAll := fun w h => List.mem_cons_of_mem _ (List.mem_append_right _ h)
  refine lv_aload_n S0.1 S0.2.1 dX11_asksAll_0 rfl (lv_at hl 0 rfl) ?_
  refine lv_iload_n S0.1 S0.2.1 dX11_asksAll_1 rfl (lv_at hl 1 rfl) ?_
  refine q_pS (n := 1) (rest := [.ref mo]) S0 hK (c_X11_isFunction l g u (by omega)) (subP hW.1 [] rfl) (trivial) gX11_asksAll_X11_isFunction rfl rfl rfl (by decide +kernel) ⟨Nat.le_of_ble_eq_true rfl, Nat.le_of_ble_eq_true rfl⟩ rfl rfl hl.1 (Nat.le_of_ble_eq_true rfl) ⟨Nat.le_of_ble_eq_true rfl, Nat.le_of_ble_eq_true rfl⟩ dX11_asksAll_2 ?_
  refine W.eq (g2 := F0 m 5 ls [.int (iI (if 0 ≤ u ∧ u ≤ 3 then (1 : Int) else 0)), .ref mo]) rfl ?_
  refine q_cV (n := 1) (rest := []) (wr := [(az, gI g 325 Z), (a4, gI g 796 (kV K)), (a5, gI g 796 (kH K)), (a6, gI g 796 (kR K)), (v1, gI g 41 (kW K)), (v2, gI g 41 (kS K)), (v3, gI g 41 (kL K)), (v4, gI g 41 (kE K)), (v5, gI g 41 (kX K)), (v6, gI g 41 (kT K))]) S0 hK hA hW (c_X11_asksP l g mo az ap ak ax a1 a2 a3 a4 a5 a6 v1 v2 v3 v4 v5 v6 pm ik ty th mn wt bn wh dp dg (0 ≤ u ∧ u ≤ 3) (by omega)) gX11_asksAll_X11_asks rfl rfl rfl (by decide +kernel) ⟨Nat.le_of_ble_eq_true rfl, Nat.le_of_ble_eq_true rfl⟩ [0] [1, 2, 3, 4, 5, 6, 7, 8, 9, 10] rfl rfl rfl rfl (by decide) (q_recv hK hW.1 (ci := 11) (q0 := 0) rfl rfl) (fun _ _ => trivial) (trivial) rfl rfl hl.1 (Nat.le_of_ble_eq_true rfl) ⟨Nat.le_of_ble_eq_true rfl, Nat.le_of_ble_eq_true rfl⟩ dX11_asksAll_5 (fun _ H locs _ hW => ?_)
  have hW : gW g A s.heap H _ [(az, gI g 325 Z), (a4, gI g 796 (kV K)), (a5, gI g 796 (kH K)), (a6, gI g 796 (kR K)), (v1, gI g 41 (kW K)), (v2, gI g 41 (kS K)), (v3, gI g 41 (kL K)), (v4, gI g 41 (kE K)), (v5, gI g 41 (kX K)), (v6, gI g 41 (kT K)), (mo, .inr (11, [.ref az, .ref ap, .int (iI pm), .ref ak, .int (iI ik), .ref ax, .int (iI ty), .int (iI 0), .ref a1, .ref a2, .int (iI mn), .ref a3, .int (iI wt), .ref a4, .ref a5, .ref a6, .ref v1, .ref v2, .ref v3, .ref v4, .ref v5, .ref v6, .int (iI bn), .int (iI wh), .int (iI dp), .int (iI dg)]))] := hW
  refine W.eq (g2 := F0 m 8 ls [.int (iI 1)]) rfl ?_
  refine q_if_eq (tgt := 16) S0 (by omega) dX11_asksAll_8 (by decide) (fun c8 => ?_) (fun c8 => ?_)
  · skip
    exact absurd c8 (by omega)
  · skip
    refine lv_aload_n S0.1 S0.2.1 dX11_asksAll_11 rfl (lv_at hl 0 rfl) ?_
    refine lv_iload_n S0.1 S0.2.1 dX11_asksAll_12 rfl (lv_at hl 1 rfl) ?_
    refine q_cV (n := 1) (rest := []) (wr := []) S0 hK hA hW (c_X11_knows l g mo az ap ak ax a1 a2 a3 a4 a5 a6 v1 v2 v3 v4 v5 v6 pm ik ty 0 mn wt bn wh dp dg Z F K u (hG) (hz) (hlk) (hu)) gX11_asksAll_X11_knows rfl rfl rfl (by decide +kernel) ⟨Nat.le_of_ble_eq_true rfl, Nat.le_of_ble_eq_true rfl⟩ [10, 0, 1, 2, 3, 4, 5, 6, 7, 8, 9] [] rfl rfl rfl rfl (by decide) (q_recv hK hW.1 (ci := 11) (q0 := 10) rfl rfl) (fun _ _ => trivial) (trivial) rfl rfl hl.1 (Nat.le_of_ble_eq_true rfl) ⟨Nat.le_of_ble_eq_true rfl, Nat.le_of_ble_eq_true rfl⟩ dX11_asksAll_13 ?_
    rintro ⟨Ka, ba⟩ H locs hp hW
    try dsimp only at hp
    have hW : gW g A s.heap H _ [(mo, .inr (11, [.ref az, .ref ap, .int (iI pm), .ref ak, .int (iI ik), .ref ax, .int (iI ty), .int (iI 0), .ref a1, .ref a2, .int (iI mn), .ref a3, .int (iI wt), .ref a4, .ref a5, .ref a6, .ref v1, .ref v2, .ref v3, .ref v4, .ref v5, .ref v6, .int (iI ba), .int (iI wh), .int (iI dp), .int (iI dg)])), (az, gI g 325 Z), (a4, gI g 796 (kV Ka)), (a5, gI g 796 (kH Ka)), (a6, gI g 796 (kR Ka)), (v1, gI g 41 (kW Ka)), (v2, gI g 41 (kS Ka)), (v3, gI g 41 (kL Ka)), (v4, gI g 41 (kE Ka)), (v5, gI g 41 (kX Ka)), (v6, gI g 41 (kT Ka))] := hW
    refine W.eq (g2 := F0 m 16 ls []) rfl ?_
    have hTB := hp
    refine lv_aload_n S0.1 S0.2.1 dX11_asksAll_16 rfl (lv_at hl 0 rfl) ?_
    refine q_get (C := RX11) (T := TX11) (N := 26) S0 hK hW.1 hinX11 0 rfl rfl 7 (by decide) (List.mem_of_getElem? (i := 1) rfl) rfl rfl dX11_asksAll_17 ?_
    refine q_if_ne (tgt := 27) S0 (by omega) dX11_asksAll_20 (by decide) (fun c20 => ?_) (fun c20 => ?_)
    · skip
      exact absurd c20 (by omega)
    · skip
      refine q_iconst S0 dX11_asksAll_23 ?_
      refine lv_goto (tgt := 28) S0.1 S0.2.1 dX11_asksAll_24 (by decide) ?_
      exact q_zret S0 hr hlocks (Ka, ba) (hTB) (Or.inr rfl) (rfl) (hW.sub [0, 1, 2, 3, 4, 5, 6, 7, 8, 9, 10] rfl (rfl)) (Nat.le_of_ble_eq_true rfl) (Nat.le_of_ble_eq_true rfl) dX11_asksAll_28
set_option maxHeartbeats 4000000 in
set_option maxRecDepth 100000 in
theorem c_X11_isFlat (l : Launch) (g : GG) (mo az ap ak ax a1 a2 a3 a4 a5 a6 v1 v2 v3 v4 v5 v6 : Nat) (pm ik ty th mn wt bn wh dp dg : Int) (Z : Nat → Int) (F : FT) (K : KT) (u x : Int) (hG : GF F) (hz : ZR Z F) (hu : 0 ≤ u ∧ u < 4) (hx : 0 ≤ x ∧ x < fP F) (hTB : TB F (u + 1) (kV K) (kH K) (kR K)) : qPure l yX11_isFlat wsX11_isFlat ({ frames := 0, cells := 0, slots := 0, locals := 0 }) g [.ref mo, .int (iI u), .int (iI x)] [(mo, .inr (11, [.ref az, .ref ap, .int (iI pm), .ref ak, .int (iI ik), .ref ax, .int (iI ty), .int (iI th), .ref a1, .ref a2, .int (iI mn), .ref a3, .int (iI wt), .ref a4, .ref a5, .ref a6, .ref v1, .ref v2, .ref v3, .ref v4, .ref v5, .ref v6, .int (iI bn), .int (iI wh), .int (iI dp), .int (iI dg)])), (a4, gI g 796 (kV K)), (a6, gI g 796 (kR K))] (fun _ => True) (some (.int (iI (if hh (fP F) (fE F) u.toNat x = 0 then (1 : Int) else 0)))) := by
  refine q_ofP (cc := cX11_isFlat) (maxL := 3) (ret := (some .boolean)) (by decide) rfl (Nat.le_of_ble_eq_true rfl) ?_
  intro p e s m args below meth c ls S0 hr hlocks hK hP hX hl
  have hP : va_P g.1 vwCl [(mo, .inr (11, [.ref az, .ref ap, .int (iI pm), .ref ak, .int (iI ik), .ref ax, .int (iI ty), .int (iI th), .ref a1, .ref a2, .int (iI mn), .ref a3, .int (iI wt), .ref a4, .ref a5, .ref a6, .ref v1, .ref v2, .ref v3, .ref v4, .ref v5, .ref v6, .int (iI bn), .int (iI wh), .int (iI dp), .int (iI dg)])), (a4, gI g 796 (kV K)), (a6, gI g 796 (kR K))] s.heap := hP
  have hl : lv_has ls 3 [(0, .ref mo), (1, .int (iI u)), (2, .int (iI x))] := hl
  have hinX11 : ∀ w ∈ wsX110, w ∈ wsX11_isFlat := fun w h => List.mem_cons_of_mem _ (List.mem_append_right _ h)
  have hpr := GF_p hG
  have hbi := hh_bad_iff hG (f := u.toNat) (x := x) (by omega) hx
  have hvr := GF_vv hG hu hx
  have hhr := GF_hh hG (f := u.toNat) (x := x) (by omega)
  refine lv_aload_n S0.1 S0.2.1 dX11_isFlat_0 rfl (lv_at hl 0 rfl) ?_
  refine q_get (C := RX11) (T := TX11) (N := 26) S0 hK hP hinX11 0 rfl rfl 13 (by decide) (List.mem_of_getElem? (i := 1) rfl) rfl rfl dX11_isFlat_1 ?_
  refine q_sipush S0 (by decide) dX11_isFlat_4 ?_
  refine lv_iload_n S0.1 S0.2.1 dX11_isFlat_7 rfl (lv_at hl 1 rfl) ?_
  refine q_imul S0 dX11_isFlat_8 ?_
  refine lv_iload_n S0.1 S0.2.1 dX11_isFlat_9 rfl (lv_at hl 2 rfl) ?_
  refine q_iadd S0 dX11_isFlat_10 ?_
  refine q_iald S0 hK hP 1 rfl (by omega) dX11_isFlat_11 ?_
  refine q_topI (b := vv (fP F) (fE F) u.toNat x) ((hTB u x (by omega) (by omega) (by omega) (by omega)).1) ?_
  refine q_iconst S0 dX11_isFlat_12 ?_
  refine q_icmp_eq (tgt := 35) S0 (by omega) dX11_isFlat_13 (by decide) (fun c13 => ?_) (fun c13 => ?_)
  · skip
    refine q_iconst S0 dX11_isFlat_35 ?_
    exact qp_zret S0 hr hlocks (by first | exact Or.inl rfl | exact Or.inr rfl | omega) (by first | (rw [if_pos (by omega)]; done) | (rw [if_neg (by omega)]; done)) dX11_isFlat_36
  · skip
    refine lv_aload_n S0.1 S0.2.1 dX11_isFlat_16 rfl (lv_at hl 0 rfl) ?_
    refine q_get (C := RX11) (T := TX11) (N := 26) S0 hK hP hinX11 0 rfl rfl 15 (by decide) (List.mem_of_getElem? (i := 2) rfl) rfl rfl dX11_isFlat_17 ?_
    refine q_sipush S0 (by decide) dX11_isFlat_20 ?_
    refine lv_iload_n S0.1 S0.2.1 dX11_isFlat_23 rfl (lv_at hl 1 rfl) ?_
    refine q_imul S0 dX11_isFlat_24 ?_
    refine lv_iload_n S0.1 S0.2.1 dX11_isFlat_25 rfl (lv_at hl 2 rfl) ?_
    refine q_iadd S0 dX11_isFlat_26 ?_
    refine q_iald S0 hK hP 2 rfl (by omega) dX11_isFlat_27 ?_
    refine q_topI (b := hh (fP F) (fE F) u.toNat x) ((hTB u x (by omega) (by omega) (by omega) (by omega)).2.2) ?_
    refine q_if_ne (tgt := 35) S0 (by omega) dX11_isFlat_28 (by decide) (fun c28 => ?_) (fun c28 => ?_)
    · skip
      refine q_iconst S0 dX11_isFlat_35 ?_
      exact qp_zret S0 hr hlocks (by first | exact Or.inl rfl | exact Or.inr rfl | omega) (by first | (rw [if_pos (by omega)]; done) | (rw [if_neg (by omega)]; done)) dX11_isFlat_36
    · skip
      refine q_iconst S0 dX11_isFlat_31 ?_
      refine lv_goto (tgt := 36) S0.1 S0.2.1 dX11_isFlat_32 (by decide) ?_
      exact qp_zret S0 hr hlocks (by first | exact Or.inl rfl | exact Or.inr rfl | omega) (by first | (rw [if_pos (by omega)]; done) | (rw [if_neg (by omega)]; done)) dX11_isFlat_36
set_option maxHeartbeats 4000000 in
set_option maxRecDepth 100000 in
theorem c_X11_bansOf1 (l : Launch) (g : GG) (mo az ap ak ax a1 a2 a3 a4 a5 a6 v1 v2 v3 v4 v5 v6 : Nat) (pm ik ty th mn wt bn wh dp dg : Int) (u : Int) (hu : (u < 0 ∨ 3 < u) ∧ -2147483648 ≤ u ∧ u < 2147483648) : qMet l yX11_bansOf wsX11_bansOf ({ frames := 3, cells := 0, slots := 0, locals := 63 }) g [.ref mo, .int (iI u)] [(mo, .inr (11, [.ref az, .ref ap, .int (iI pm), .ref ak, .int (iI ik), .ref ax, .int (iI ty), .int (iI th), .ref a1, .ref a2, .int (iI mn), .ref a3, .int (iI wt), .ref a4, .ref a5, .ref a6, .ref v1, .ref v2, .ref v3, .ref v4, .ref v5, .ref v6, .int (iI bn), .int (iI wh), .int (iI dp), .int (iI dg)]))] (fun _ => True) (fun _ => True) (S := Unit) (fun _ => some (.int (iI 0))) (fun _ => [(mo, .inr (11, [.ref az, .ref ap, .int (iI pm), .ref ak, .int (iI ik), .ref ax, .int (iI ty), .int (iI 1), .ref a1, .ref a2, .int (iI mn), .ref a3, .int (iI wt), .ref a4, .ref a5, .ref a6, .ref v1, .ref v2, .ref v3, .ref v4, .ref v5, .ref v6, .int (iI bn), .int (iI wh), .int (iI dp), .int (iI dg)]))]) (fun _ => True) 0 0 := by
  refine q_ofW (cc := cX11_bansOf) (maxL := 5) (ret := (some .int)) (fun sz h => h.self) (by decide) rfl (Nat.le_of_ble_eq_true rfl) ?_
  intro p e s m args below meth c A ls S0 hr hlocks hnme hK hA hAe hW hD0 hX hl
  have hW : gW g A s.heap s.heap [] [(mo, .inr (11, [.ref az, .ref ap, .int (iI pm), .ref ak, .int (iI ik), .ref ax, .int (iI ty), .int (iI th), .ref a1, .ref a2, .int (iI mn), .ref a3, .int (iI wt), .ref a4, .ref a5, .ref a6, .ref v1, .ref v2, .ref v3, .ref v4, .ref v5, .ref v6, .int (iI bn), .int (iI wh), .int (iI dp), .int (iI dg)]))] := hW
  have hl : lv_has ls 5 [(0, .ref mo), (1, .int (iI u))] := hl
  refine q_iconst S0 dX11_bansOf_0 ?_
  refine lv_istore_n (lv' := [(2, .int (iI 0)), (0, .ref mo), (1, .int (iI u))]) S0.1 S0.2.1 dX11_bansOf_1 rfl hl (by decide) rfl (fun ls hl => ?_)
  refine lv_aload_n S0.1 S0.2.1 dX11_bansOf_2 rfl (lv_at hl 1 rfl) ?_
  refine lv_iload_n S0.1 S0.2.1 dX11_bansOf_3 rfl (lv_at hl 2 rfl) ?_
  refine q_cV (n := 1) (rest := []) (wr := []) S0 hK hA hW (c_X11_asksAll1 l g mo az ap ak ax a1 a2 a3 a4 a5 a6 v1 v2 v3 v4 v5 v6 pm ik ty th mn wt bn wh dp dg u (hu)) gX11_bansOf_X11_asksAll rfl rfl rfl (by decide +kernel) ⟨Nat.le_of_ble_eq_true rfl, Nat.le_of_ble_eq_true rfl⟩ [0] [] rfl rfl rfl rfl (by decide) (q_recv hK hW.1 (ci := 11) (q0 := 0) rfl rfl) (fun _ _ => trivial) (trivial) rfl rfl hl.1 (Nat.le_of_ble_eq_true rfl) ⟨Nat.le_of_ble_eq_true rfl, Nat.le_of_ble_eq_true rfl⟩ dX11_bansOf_4 (fun _ H locs _ hW => ?_)
  have hW : gW g A s.heap H _ [(mo, .inr (11, [.ref az, .ref ap, .int (iI pm), .ref ak, .int (iI ik), .ref ax, .int (iI ty), .int (iI 1), .ref a1, .ref a2, .int (iI mn), .ref a3, .int (iI wt), .ref a4, .ref a5, .ref a6, .ref v1, .ref v2, .ref v3, .ref v4, .ref v5, .ref v6, .int (iI bn), .int (iI wh), .int (iI dp), .int (iI dg)]))] := hW
  refine W.eq (g2 := F0 m 7 ls [.int (iI 0)]) rfl ?_
  refine lv_istore_n (lv' := [(3, .int (iI 0)), (2, .int (iI 0)), (0, .ref mo), (1, .int (iI u))]) S0.1 S0.2.1 dX11_bansOf_7 rfl hl (by decide) rfl (fun ls hl => ?_)
  refine q_iconst S0 dX11_bansOf_8 ?_
  refine lv_istore (lv' := [(4, .int (iI 0)), (3, .int (iI 0)), (2, .int (iI 0)), (0, .ref mo), (1, .int (iI u))]) S0.1 S0.2.1 dX11_bansOf_9 hl (by decide) rfl (fun ls hl => ?_)
  refine lv_iload_n S0.1 S0.2.1 dX11_bansOf_11 rfl (lv_at hl 1 rfl) ?_
  refine q_if_eq (tgt := 57) S0 (by omega) dX11_bansOf_12 (by decide) (fun c12 => ?_) (fun c12 => ?_)
  · skip
    refine lv_iload_n S0.1 S0.2.1 dX11_bansOf_57 rfl (lv_at hl 2 rfl) ?_
    exact q_iret S0 hr hlocks () (trivial) (rfl) (hW.sub [0] rfl (rfl)) (Nat.le_of_ble_eq_true rfl) (Nat.le_of_ble_eq_true rfl) dX11_bansOf_58
  · skip
    exact absurd c12 (by omega)
set_option maxHeartbeats 4000000 in
set_option maxRecDepth 100000 in
theorem c_X11_bansOf0 (l : Launch) (g : GG) (mo az ap ak ax a1 a2 a3 a4 a5 a6 v1 v2 v3 v4 v5 v6 : Nat) (pm ik ty th mn wt bn wh dp dg : Int) (Z : Nat → Int) (F : FT) (K : KT) (u : Int) (hG : GF F) (hz : ZR Z F) (hlk : LKG F) (hu : 0 ≤ u ∧ u < 4) : qMet l yX11_bansOf wsX11_bansOf ({ frames := 6, cells := 0, slots := 0, locals := 144 }) g [.ref mo, .int (iI u)] [(mo, .inr (11, [.ref az, .ref ap, .int (iI pm), .ref ak, .int (iI ik), .ref ax, .int (iI ty), .int (iI th), .ref a1, .ref a2, .int (iI mn), .ref a3, .int (iI wt), .ref a4, .ref a5, .ref a6, .ref v1, .ref v2, .ref v3, .ref v4, .ref v5, .ref v6, .int (iI bn), .int (iI wh), .int (iI dp), .int (iI dg)])), (az, gI g 325 Z), (a4, gI g 796 (kV K)), (a5, gI g 796 (kH K)), (a6, gI g 796 (kR K)), (v1, gI g 41 (kW K)), (v2, gI g 41 (kS K)), (v3, gI g 41 (kL K)), (v4, gI g 41 (kE K)), (v5, gI g 41 (kX K)), (v6, gI g 41 (kT K))] (fun _ => True) (fun _ => True) (S := KT × Int) (fun u_ => some (.int (iI (cnu (vv (fP F) (fE F) u.toNat) (-1) (fP F).toNat 0 0)))) (fun u_ => [(mo, .inr (11, [.ref az, .ref ap, .int (iI pm), .ref ak, .int (iI ik), .ref ax, .int (iI ty), .int (iI 0), .ref a1, .ref a2, .int (iI mn), .ref a3, .int (iI wt), .ref a4, .ref a5, .ref a6, .ref v1, .ref v2, .ref v3, .ref v4, .ref v5, .ref v6, .int (iI u_.2), .int (iI wh), .int (iI dp), .int (iI dg)])), (az, gI g 325 Z), (a4, gI g 796 (kV u_.1)), (a5, gI g 796 (kH u_.1)), (a6, gI g 796 (kR u_.1)), (v1, gI g 41 (kW u_.1)), (v2, gI g 41 (kS u_.1)), (v3, gI g 41 (kL u_.1)), (v4, gI g 41 (kE u_.1)), (v5, gI g 41 (kX u_.1)), (v6, gI g 41 (kT u_.1))]) (fun u_ => TB F (u + 1) (kV u_.1) (kH u_.1) (kR u_.1)) 0 0 := by
  refine q_ofW (cc := cX11_bansOf) (maxL := 5) (ret := (some .int)) (fun sz h => h.self) (by decide) rfl (Nat.le_of_ble_eq_true rfl) ?_
  intro p e s m args below meth c A ls S0 hr hlocks hnme hK hA hAe hW hD0 hX hl
  have hW : gW g A s.heap s.heap [] [(mo, .inr (11, [.ref az, .ref ap, .int (iI pm), .ref ak, .int (iI ik), .ref ax, .int (iI ty), .int (iI th), .ref a1, .ref a2, .int (iI mn), .ref a3, .int (iI wt), .ref a4, .ref a5, .ref a6, .ref v1, .ref v2, .ref v3, .ref v4, .ref v5, .ref v6, .int (iI bn), .int (iI wh), .int (iI dp), .int (iI dg)])), (az, gI g 325 Z), (a4, gI g 796 (kV K)), (a5, gI g 796 (kH K)), (a6, gI g 796 (kR K)), (v1, gI g 41 (kW K)), (v2, gI g 41 (kS K)), (v3, gI g 41 (kL K)), (v4, gI g 41 (kE K)), (v5, gI g 41 (kX K)), (v6, gI g 41 (kT K))] := hW
  have hl : lv_has ls 5 [(0, .ref mo), (1, .int (iI u))] := hl
  have hinX11 : ∀ w ∈ wsX110, w ∈ wsX11_bansOf := fun w h => List.mem_cons_of_mem _ (List.mem_append_right _ h)
  have hpr := GF_p hG
  refine q_iconst S0 dX11_bansOf_0 ?_
  refine lv_istore_n (lv' := [(2, .int (iI 0)), (0, .ref mo), (1, .int (iI u))]) S0.1 S0.2.1 dX11_bansOf_1 rfl hl (by decide) rfl (fun ls hl => ?_)
  refine lv_aload_n S0.1 S0.2.1 dX11_bansOf_2 rfl (lv_at hl 1 rfl) ?_
  refine lv_iload_n S0.1 S0.2.1 dX11_bansOf_3 rfl (lv_at hl 2 rfl) ?_
  refine q_cV (n := 1) (rest := []) (wr := []) S0 hK hA hW (c_X11_asksAll0 l g mo az ap ak ax a1 a2 a3 a4 a5 a6 v1 v2 v3 v4 v5 v6 pm ik ty th mn wt bn wh dp dg Z F K u (hG) (hz) (hlk) (hu)) gX11_bansOf_X11_asksAll rfl rfl rfl (by decide +kernel) ⟨Nat.le_of_ble_eq_true rfl, Nat.le_of_ble_eq_true rfl⟩ [0, 1, 2, 3, 4, 5, 6, 7, 8, 9, 10] [] rfl rfl rfl rfl (by decide) (q_recv hK hW.1 (ci := 11) (q0 := 0) rfl rfl) (fun _ _ => trivial) (trivial) rfl rfl hl.1 (Nat.le_of_ble_eq_true rfl) ⟨Nat.le_of_ble_eq_true rfl, Nat.le_of_ble_eq_true rfl⟩ dX11_bansOf_4 ?_
  rintro ⟨Ka, ba⟩ H locs hp hW
  try dsimp only at hp
  have hW : gW g A s.heap H _ [(mo, .inr (11, [.ref az, .ref ap, .int (iI pm), .ref ak, .int (iI ik), .ref ax, .int (iI ty), .int (iI 0), .ref a1, .ref a2, .int (iI mn), .ref a3, .int (iI wt), .ref a4, .ref a5, .ref a6, .ref v1, .ref v2, .ref v3, .ref v4, .ref v5, .ref v6, .int (iI ba), .int (iI wh), .int (iI dp), .int (iI dg)])), (az, gI g 325 Z), (a4, gI g 796 (kV Ka)), (a5, gI g 796 (kH Ka)), (a6, gI g 796 (kR Ka)), (v1, gI g 41 (kW Ka)), (v2, gI g 41 (kS Ka)), (v3, gI g 41 (kL Ka)), (v4, gI g 41 (kE Ka)), (v5, gI g 41 (kX Ka)), (v6, gI g 41 (kT Ka))] := hW
  refine W.eq (g2 := F0 m 7 ls [.int (iI 1)]) rfl ?_
  have hTB := hp
  refine lv_istore_n (lv' := [(3, .int (iI 1)), (2, .int (iI 0)), (0, .ref mo), (1, .int (iI u))]) S0.1 S0.2.1 dX11_bansOf_7 rfl hl (by decide) rfl (fun ls hl => ?_)
  refine q_iconst S0 dX11_bansOf_8 ?_
  refine lv_istore (lv' := [(4, .int (iI 0)), (3, .int (iI 1)), (2, .int (iI 0)), (0, .ref mo), (1, .int (iI u))]) S0.1 S0.2.1 dX11_bansOf_9 hl (by decide) rfl (fun ls hl => ?_)
  refine q_loop (α := Int × Int) (fun (z_ : Int × Int) => match z_ with | (i, cn) => (0 ≤ i ∧ i ≤ fP F) ∧ (0 ≤ cn ∧ cn ≤ i) ∧ cnu (vv (fP F) (fE F) u.toNat) (-1) (fP F - i).toNat i cn = cnu (vv (fP F) (fE F) u.toNat) (-1) (fP F).toNat 0 0) (fun (z_ : Int × Int) => match z_ with | (i, cn) => (fP F - i).toNat) (fun (z_ : Int × Int) => match z_ with | (i, cn) => [(mo, .inr (11, [.ref az, .ref ap, .int (iI pm), .ref ak, .int (iI ik), .ref ax, .int (iI ty), .int (iI 0), .ref a1, .ref a2, .int (iI mn), .ref a3, .int (iI wt), .ref a4, .ref a5, .ref a6, .ref v1, .ref v2, .ref v3, .ref v4, .ref v5, .ref v6, .int (iI ba), .int (iI wh), .int (iI dp), .int (iI dg)])), (az, gI g 325 Z), (a4, gI g 796 (kV Ka)), (a5, gI g 796 (kH Ka)), (a6, gI g 796 (kR Ka)), (v1, gI g 41 (kW Ka)), (v2, gI g 41 (kS Ka)), (v3, gI g 41 (kL Ka)), (v4, gI g 41 (kE Ka)), (v5, gI g 41 (kX Ka)), (v6, gI g 41 (kT Ka))]) (fun (z_ : Int × Int) => match z_ with | (i, cn) => [(4, .int (iI i)), (3, .int (iI 1)), (2, .int (iI cn)), (0, .ref mo), (1, .int (iI u))]) ?_ (0, 0) (by exact ⟨by omega, by omega, by rw [show fP F - 0 = fP F by omega]⟩) hW (lv_sub hl [0, 1, 2, 3, 4] rfl)
  rintro ⟨i, cn⟩ hinv IHl H locs ls hW hl
  try dsimp only at hinv
  have hW : gW g A s.heap H _ [(mo, .inr (11, [.ref az, .ref ap, .int (iI pm), .ref ak, .int (iI ik), .ref ax, .int (iI ty), .int (iI 0), .ref a1, .ref a2, .int (iI mn), .ref a3, .int (iI wt), .ref a4, .ref a5, .ref a6, .ref v1, .ref v2, .ref v3, .ref v4, .ref v5, .ref v6, .int (iI ba), .int (iI wh), .int (iI dp), .int (iI dg)])), (az, gI g 325 Z), (a4, gI g 796 (kV Ka)), (a5, gI g 796 (kH Ka)), (a6, gI g 796 (kR Ka)), (v1, gI g 41 (kW Ka)), (v2, gI g 41 (kS Ka)), (v3, gI g 41 (kL Ka)), (v4, gI g 41 (kE Ka)), (v5, gI g 41 (kX Ka)), (v6, gI g 41 (kT Ka))] := hW
  have hl : lv_has ls 5 [(4, .int (iI i)), (3, .int (iI 1)), (2, .int (iI cn)), (0, .ref mo), (1, .int (iI u))] := hl
  obtain ⟨hi, hcn, heq⟩ := hinv
  refine lv_iload_n S0.1 S0.2.1 dX11_bansOf_11 rfl (lv_at hl 1 rfl) ?_
  refine q_if_eq (tgt := 57) S0 (by omega) dX11_bansOf_12 (by decide) (fun c12 => ?_) (fun c12 => ?_)
  · skip
    exact absurd c12 (by omega)
  · skip
    refine lv_iload S0.1 S0.2.1 dX11_bansOf_15 (lv_at hl 0 rfl) ?_
    refine lv_aload_n S0.1 S0.2.1 dX11_bansOf_17 rfl (lv_at hl 3 rfl) ?_
    refine q_get (C := RX11) (T := TX11) (N := 26) S0 hK hW.1 hinX11 0 rfl rfl 0 (by decide) (List.mem_of_getElem? (i := 1) rfl) rfl rfl dX11_bansOf_18 ?_
    refine q_iconst S0 dX11_bansOf_21 ?_
    refine q_iald S0 hK hW.1 1 rfl (by omega) dX11_bansOf_22 ?_
    refine W.eq (g2 := F0 m 23 ls [.int (iI (Z 0)), .int (iI i)]) rfl ?_
    refine q_topI (b := fP F) (hz.1) ?_
    refine q_icmp_ge (tgt := 57) S0 (by omega) dX11_bansOf_23 (by decide) (fun c23 => ?_) (fun c23 => ?_)
    · skip
      refine lv_iload_n S0.1 S0.2.1 dX11_bansOf_57 rfl (lv_at hl 2 rfl) ?_
      exact q_iret S0 hr hlocks (Ka, ba) (hTB) (by rw [← heq, show (fP F - i).toNat = 0 by omega]; rfl) (hW.sub [0, 1, 2, 3, 4, 5, 6, 7, 8, 9, 10] rfl (rfl)) (Nat.le_of_ble_eq_true rfl) (Nat.le_of_ble_eq_true rfl) dX11_bansOf_58
    · skip
      refine lv_iload_n S0.1 S0.2.1 dX11_bansOf_26 rfl (lv_at hl 2 rfl) ?_
      have hvr := GF_vv hG hu (x := i) (by omega)
      refine q_cut (α := Int) (fun z9 => F0 m 49 ls (.int (iI z9) :: [.int (iI cn)])) (fun z9 => z9 = if vv (fP F) (fE F) u.toNat i = -1 then (1 : Int) else 0) (fun z9 hz9 => ?_) (fun hJ27 => ?_)
      · skip
        refine q_iadd S0 dX11_bansOf_49 ?_
        refine lv_istore_n (lv' := [(2, .int (iI (cn + z9))), (4, .int (iI i)), (3, .int (iI 1)), (0, .ref mo), (1, .int (iI u))]) S0.1 S0.2.1 dX11_bansOf_50 rfl hl (by decide) rfl (fun ls hl => ?_)
        refine q_iinc (lv' := [(4, .int (iI (i + 1))), (2, .int (iI (cn + z9))), (3, .int (iI 1)), (0, .ref mo), (1, .int (iI u))]) S0 dX11_bansOf_51 hl (k := 1) rfl (by decide) rfl (fun ls hl => ?_)
        refine lv_goto (tgt := 11) S0.1 S0.2.1 dX11_bansOf_54 (by decide) ?_
        exact IHl (i + 1, cn + z9) H locs ls (by refine ⟨by omega, (by rw [hz9]; split <;> omega), ?_⟩; rw [← heq, show (fP F - i).toNat = (fP F - (i + 1)).toNat + 1 by omega, hz9]; symm; by_cases q : (vv (fP F) (fE F) u.toNat) i = (-1); rw [if_pos q]; exact cnu_hit q; rw [if_neg q, Int.add_zero]; exact cnu_miss q) (by dsimp only; omega) hW (lv_sub hl [0, 2, 1, 3, 4] rfl)
      · skip
        refine lv_aload_n S0.1 S0.2.1 dX11_bansOf_27 rfl (lv_at hl 3 rfl) ?_
        refine q_get (C := RX11) (T := TX11) (N := 26) S0 hK hW.1 hinX11 0 rfl rfl 13 (by decide) (List.mem_of_getElem? (i := 2) rfl) rfl rfl dX11_bansOf_28 ?_
        refine q_sipush S0 (by decide) dX11_bansOf_31 ?_
        refine lv_iload_n S0.1 S0.2.1 dX11_bansOf_34 rfl (lv_at hl 4 rfl) ?_
        refine q_imul S0 dX11_bansOf_35 ?_
        refine lv_iload S0.1 S0.2.1 dX11_bansOf_36 (lv_at hl 0 rfl) ?_
        refine q_iadd S0 dX11_bansOf_38 ?_
        refine q_iald S0 hK hW.1 2 rfl (by omega) dX11_bansOf_39 ?_
        refine q_topI (b := vv (fP F) (fE F) u.toNat i) ((hTB u i (by omega) (by omega) (by omega) (by omega)).1) ?_
        refine q_iconst S0 dX11_bansOf_40 ?_
        refine q_icmp_ne (tgt := 48) S0 (by omega) dX11_bansOf_41 (by decide) (fun c41 => ?_) (fun c41 => ?_)
        · skip
          refine q_iconst S0 dX11_bansOf_48 ?_
          exact hJ27 _ (by first | (rw [if_pos (by omega)]; done) | (rw [if_neg (by omega)]; done) | omega)
        · skip
          refine q_iconst S0 dX11_bansOf_44 ?_
          refine lv_goto (tgt := 49) S0.1 S0.2.1 dX11_bansOf_45 (by decide) ?_
          exact hJ27 _ (by first | (rw [if_pos (by omega)]; done) | (rw [if_neg (by omega)]; done) | omega)
set_option maxHeartbeats 4000000 in
set_option maxRecDepth 100000 in
theorem c_X11_rootsOf1 (l : Launch) (g : GG) (mo az ap ak ax a1 a2 a3 a4 a5 a6 v1 v2 v3 v4 v5 v6 : Nat) (pm ik ty th mn wt bn wh dp dg : Int) (u : Int) (hu : (u < 0 ∨ 3 < u) ∧ -2147483648 ≤ u ∧ u < 2147483648) : qMet l yX11_rootsOf wsX11_rootsOf ({ frames := 3, cells := 0, slots := 0, locals := 63 }) g [.ref mo, .int (iI u)] [(mo, .inr (11, [.ref az, .ref ap, .int (iI pm), .ref ak, .int (iI ik), .ref ax, .int (iI ty), .int (iI th), .ref a1, .ref a2, .int (iI mn), .ref a3, .int (iI wt), .ref a4, .ref a5, .ref a6, .ref v1, .ref v2, .ref v3, .ref v4, .ref v5, .ref v6, .int (iI bn), .int (iI wh), .int (iI dp), .int (iI dg)]))] (fun _ => True) (fun _ => True) (S := Unit) (fun _ => some (.int (iI 0))) (fun _ => [(mo, .inr (11, [.ref az, .ref ap, .int (iI pm), .ref ak, .int (iI ik), .ref ax, .int (iI ty), .int (iI 1), .ref a1, .ref a2, .int (iI mn), .ref a3, .int (iI wt), .ref a4, .ref a5, .ref a6, .ref v1, .ref v2, .ref v3, .ref v4, .ref v5, .ref v6, .int (iI bn), .int (iI wh), .int (iI dp), .int (iI dg)]))]) (fun _ => True) 0 0 := by
  refine q_ofW (cc := cX11_rootsOf) (maxL := 5) (ret := (some .int)) (fun sz h => h.self) (by decide) rfl (Nat.le_of_ble_eq_true rfl) ?_
  intro p e s m args below meth c A ls S0 hr hlocks hnme hK hA hAe hW hD0 hX hl
  have hW : gW g A s.heap s.heap [] [(mo, .inr (11, [.ref az, .ref ap, .int (iI pm), .ref ak, .int (iI ik), .ref ax, .int (iI ty), .int (iI th), .ref a1, .ref a2, .int (iI mn), .ref a3, .int (iI wt), .ref a4, .ref a5, .ref a6, .ref v1, .ref v2, .ref v3, .ref v4, .ref v5, .ref v6, .int (iI bn), .int (iI wh), .int (iI dp), .int (iI dg)]))] := hW
  have hl : lv_has ls 5 [(0, .ref mo), (1, .int (iI u))] := hl
  refine q_iconst S0 dX11_rootsOf_0 ?_
  refine lv_istore_n (lv' := [(2, .int (iI 0)), (0, .ref mo), (1, .int (iI u))]) S0.1 S0.2.1 dX11_rootsOf_1 rfl hl (by decide) rfl (fun ls hl => ?_)
  refine lv_aload_n S0.1 S0.2.1 dX11_rootsOf_2 rfl (lv_at hl 1 rfl) ?_
  refine lv_iload_n S0.1 S0.2.1 dX11_rootsOf_3 rfl (lv_at hl 2 rfl) ?_
  refine q_cV (n := 1) (rest := []) (wr := []) S0 hK hA hW (c_X11_asksAll1 l g mo az ap ak ax a1 a2 a3 a4 a5 a6 v1 v2 v3 v4 v5 v6 pm ik ty th mn wt bn wh dp dg u (hu)) gX11_rootsOf_X11_asksAll rfl rfl rfl (by decide +kernel) ⟨Nat.le_of_ble_eq_true rfl, Nat.le_of_ble_eq_true rfl⟩ [0] [] rfl rfl rfl rfl (by decide) (q_recv hK hW.1 (ci := 11) (q0 := 0) rfl rfl) (fun _ _ => trivial) (trivial) rfl rfl hl.1 (Nat.le_of_ble_eq_true rfl) ⟨Nat.le_of_ble_eq_true rfl, Nat.le_of_ble_eq_true rfl⟩ dX11_rootsOf_4 (fun _ H locs _ hW => ?_)
  have hW : gW g A s.heap H _ [(mo, .inr (11, [.ref az, .ref ap, .int (iI pm), .ref ak, .int (iI ik), .ref ax, .int (iI ty), .int (iI 1), .ref a1, .ref a2, .int (iI mn), .ref a3, .int (iI wt), .ref a4, .ref a5, .ref a6, .ref v1, .ref v2, .ref v3, .ref v4, .ref v5, .ref v6, .int (iI bn), .int (iI wh), .int (iI dp), .int (iI dg)]))] := hW
  refine W.eq (g2 := F0 m 7 ls [.int (iI 0)]) rfl ?_
  refine lv_istore_n (lv' := [(3, .int (iI 0)), (2, .int (iI 0)), (0, .ref mo), (1, .int (iI u))]) S0.1 S0.2.1 dX11_rootsOf_7 rfl hl (by decide) rfl (fun ls hl => ?_)
  refine q_iconst S0 dX11_rootsOf_8 ?_
  refine lv_istore (lv' := [(4, .int (iI 0)), (3, .int (iI 0)), (2, .int (iI 0)), (0, .ref mo), (1, .int (iI u))]) S0.1 S0.2.1 dX11_rootsOf_9 hl (by decide) rfl (fun ls hl => ?_)
  refine lv_iload_n S0.1 S0.2.1 dX11_rootsOf_11 rfl (lv_at hl 1 rfl) ?_
  refine q_if_eq (tgt := 56) S0 (by omega) dX11_rootsOf_12 (by decide) (fun c12 => ?_) (fun c12 => ?_)
  · skip
    refine lv_iload_n S0.1 S0.2.1 dX11_rootsOf_56 rfl (lv_at hl 2 rfl) ?_
    exact q_iret S0 hr hlocks () (trivial) (rfl) (hW.sub [0] rfl (rfl)) (Nat.le_of_ble_eq_true rfl) (Nat.le_of_ble_eq_true rfl) dX11_rootsOf_57
  · skip
    exact absurd c12 (by omega)
set_option maxHeartbeats 4000000 in
set_option maxRecDepth 100000 in
theorem c_X11_rootsOf0 (l : Launch) (g : GG) (mo az ap ak ax a1 a2 a3 a4 a5 a6 v1 v2 v3 v4 v5 v6 : Nat) (pm ik ty th mn wt bn wh dp dg : Int) (Z : Nat → Int) (F : FT) (K : KT) (u : Int) (hG : GF F) (hz : ZR Z F) (hlk : LKG F) (hu : 0 ≤ u ∧ u < 4) : qMet l yX11_rootsOf wsX11_rootsOf ({ frames := 6, cells := 0, slots := 0, locals := 144 }) g [.ref mo, .int (iI u)] [(mo, .inr (11, [.ref az, .ref ap, .int (iI pm), .ref ak, .int (iI ik), .ref ax, .int (iI ty), .int (iI th), .ref a1, .ref a2, .int (iI mn), .ref a3, .int (iI wt), .ref a4, .ref a5, .ref a6, .ref v1, .ref v2, .ref v3, .ref v4, .ref v5, .ref v6, .int (iI bn), .int (iI wh), .int (iI dp), .int (iI dg)])), (az, gI g 325 Z), (a4, gI g 796 (kV K)), (a5, gI g 796 (kH K)), (a6, gI g 796 (kR K)), (v1, gI g 41 (kW K)), (v2, gI g 41 (kS K)), (v3, gI g 41 (kL K)), (v4, gI g 41 (kE K)), (v5, gI g 41 (kX K)), (v6, gI g 41 (kT K))] (fun _ => True) (fun _ => True) (S := KT × Int) (fun u_ => some (.int (iI (cnu (vv (fP F) (fE F) u.toNat) 0 (fP F).toNat 0 0)))) (fun u_ => [(mo, .inr (11, [.ref az, .ref ap, .int (iI pm), .ref ak, .int (iI ik), .ref ax, .int (iI ty), .int (iI 0), .ref a1, .ref a2, .int (iI mn), .ref a3, .int (iI wt), .ref a4, .ref a5, .ref a6, .ref v1, .ref v2, .ref v3, .ref v4, .ref v5, .ref v6, .int (iI u_.2), .int (iI wh), .int (iI dp), .int (iI dg)])), (az, gI g 325 Z), (a4, gI g 796 (kV u_.1)), (a5, gI g 796 (kH u_.1)), (a6, gI g 796 (kR u_.1)), (v1, gI g 41 (kW u_.1)), (v2, gI g 41 (kS u_.1)), (v3, gI g 41 (kL u_.1)), (v4, gI g 41 (kE u_.1)), (v5, gI g 41 (kX u_.1)), (v6, gI g 41 (kT u_.1))]) (fun u_ => TB F (u + 1) (kV u_.1) (kH u_.1) (kR u_.1)) 0 0 := by
  refine q_ofW (cc := cX11_rootsOf) (maxL := 5) (ret := (some .int)) (fun sz h => h.self) (by decide) rfl (Nat.le_of_ble_eq_true rfl) ?_
  intro p e s m args below meth c A ls S0 hr hlocks hnme hK hA hAe hW hD0 hX hl
  have hW : gW g A s.heap s.heap [] [(mo, .inr (11, [.ref az, .ref ap, .int (iI pm), .ref ak, .int (iI ik), .ref ax, .int (iI ty), .int (iI th), .ref a1, .ref a2, .int (iI mn), .ref a3, .int (iI wt), .ref a4, .ref a5, .ref a6, .ref v1, .ref v2, .ref v3, .ref v4, .ref v5, .ref v6, .int (iI bn), .int (iI wh), .int (iI dp), .int (iI dg)])), (az, gI g 325 Z), (a4, gI g 796 (kV K)), (a5, gI g 796 (kH K)), (a6, gI g 796 (kR K)), (v1, gI g 41 (kW K)), (v2, gI g 41 (kS K)), (v3, gI g 41 (kL K)), (v4, gI g 41 (kE K)), (v5, gI g 41 (kX K)), (v6, gI g 41 (kT K))] := hW
  have hl : lv_has ls 5 [(0, .ref mo), (1, .int (iI u))] := hl
  have hinX11 : ∀ w ∈ wsX110, w ∈ wsX11_rootsOf := fun w h => List.mem_cons_of_mem _ (List.mem_append_right _ h)
  have hpr := GF_p hG
  refine q_iconst S0 dX11_rootsOf_0 ?_
  refine lv_istore_n (lv' := [(2, .int (iI 0)), (0, .ref mo), (1, .int (iI u))]) S0.1 S0.2.1 dX11_rootsOf_1 rfl hl (by decide) rfl (fun ls hl => ?_)
  refine lv_aload_n S0.1 S0.2.1 dX11_rootsOf_2 rfl (lv_at hl 1 rfl) ?_
  refine lv_iload_n S0.1 S0.2.1 dX11_rootsOf_3 rfl (lv_at hl 2 rfl) ?_
  refine q_cV (n := 1) (rest := []) (wr := []) S0 hK hA hW (c_X11_asksAll0 l g mo az ap ak ax a1 a2 a3 a4 a5 a6 v1 v2 v3 v4 v5 v6 pm ik ty th mn wt bn wh dp dg Z F K u (hG) (hz) (hlk) (hu)) gX11_rootsOf_X11_asksAll rfl rfl rfl (by decide +kernel) ⟨Nat.le_of_ble_eq_true rfl, Nat.le_of_ble_eq_true rfl⟩ [0, 1, 2, 3, 4, 5, 6, 7, 8, 9, 10] [] rfl rfl rfl rfl (by decide) (q_recv hK hW.1 (ci := 11) (q0 := 0) rfl rfl) (fun _ _ => trivial) (trivial) rfl rfl hl.1 (Nat.le_of_ble_eq_true rfl) ⟨Nat.le_of_ble_eq_true rfl, Nat.le_of_ble_eq_true rfl⟩ dX11_rootsOf_4 ?_
  rintro ⟨Ka, ba⟩ H locs hp hW
  try dsimp only at hp
  have hW : gW g A s.heap H _ [(mo, .inr (11, [.ref az, .ref ap, .int (iI pm), .ref ak, .int (iI ik), .ref ax, .int (iI ty), .int (iI 0), .ref a1, .ref a2, .int (iI mn), .ref a3, .int (iI wt), .ref a4, .ref a5, .ref a6, .ref v1, .ref v2, .ref v3, .ref v4, .ref v5, .ref v6, .int (iI ba), .int (iI wh), .int (iI dp), .int (iI dg)])), (az, gI g 325 Z), (a4, gI g 796 (kV Ka)), (a5, gI g 796 (kH Ka)), (a6, gI g 796 (kR Ka)), (v1, gI g 41 (kW Ka)), (v2, gI g 41 (kS Ka)), (v3, gI g 41 (kL Ka)), (v4, gI g 41 (kE Ka)), (v5, gI g 41 (kX Ka)), (v6, gI g 41 (kT Ka))] := hW
  refine W.eq (g2 := F0 m 7 ls [.int (iI 1)]) rfl ?_
  have hTB := hp
  refine lv_istore_n (lv' := [(3, .int (iI 1)), (2, .int (iI 0)), (0, .ref mo), (1, .int (iI u))]) S0.1 S0.2.1 dX11_rootsOf_7 rfl hl (by decide) rfl (fun ls hl => ?_)
  refine q_iconst S0 dX11_rootsOf_8 ?_
  refine lv_istore (lv' := [(4, .int (iI 0)), (3, .int (iI 1)), (2, .int (iI 0)), (0, .ref mo), (1, .int (iI u))]) S0.1 S0.2.1 dX11_rootsOf_9 hl (by decide) rfl (fun ls hl => ?_)
  refine q_loop (α := Int × Int) (fun (z_ : Int × Int) => match z_ with | (i, cn) => (0 ≤ i ∧ i ≤ fP F) ∧ (0 ≤ cn ∧ cn ≤ i) ∧ cnu (vv (fP F) (fE F) u.toNat) 0 (fP F - i).toNat i cn = cnu (vv (fP F) (fE F) u.toNat) 0 (fP F).toNat 0 0) (fun (z_ : Int × Int) => match z_ with | (i, cn) => (fP F - i).toNat) (fun (z_ : Int × Int) => match z_ with | (i, cn) => [(mo, .inr (11, [.ref az, .ref ap, .int (iI pm), .ref ak, .int (iI ik), .ref ax, .int (iI ty), .int (iI 0), .ref a1, .ref a2, .int (iI mn), .ref a3, .int (iI wt), .ref a4, .ref a5, .ref a6, .ref v1, .ref v2, .ref v3, .ref v4, .ref v5, .ref v6, .int (iI ba), .int (iI wh), .int (iI dp), .int (iI dg)])), (az, gI g 325 Z), (a4, gI g 796 (kV Ka)), (a5, gI g 796 (kH Ka)), (a6, gI g 796 (kR Ka)), (v1, gI g 41 (kW Ka)), (v2, gI g 41 (kS Ka)), (v3, gI g 41 (kL Ka)), (v4, gI g 41 (kE Ka)), (v5, gI g 41 (kX Ka)), (v6, gI g 41 (kT Ka))]) (fun (z_ : Int × Int) => match z_ with | (i, cn) => [(4, .int (iI i)), (3, .int (iI 1)), (2, .int (iI cn)), (0, .ref mo), (1, .int (iI u))]) ?_ (0, 0) (by exact ⟨by omega, by omega, by rw [show fP F - 0 = fP F by omega]⟩) hW (lv_sub hl [0, 1, 2, 3, 4] rfl)
  rintro ⟨i, cn⟩ hinv IHl H locs ls hW hl
  try dsimp only at hinv
  have hW : gW g A s.heap H _ [(mo, .inr (11, [.ref az, .ref ap, .int (iI pm), .ref ak, .int (iI ik), .ref ax, .int (iI ty), .int (iI 0), .ref a1, .ref a2, .int (iI mn), .ref a3, .int (iI wt), .ref a4, .ref a5, .ref a6, .ref v1, .ref v2, .ref v3, .ref v4, .ref v5, .ref v6, .int (iI ba), .int (iI wh), .int (iI dp), .int (iI dg)])), (az, gI g 325 Z), (a4, gI g 796 (kV Ka)), (a5, gI g 796 (kH Ka)), (a6, gI g 796 (kR Ka)), (v1, gI g 41 (kW Ka)), (v2, gI g 41 (kS Ka)), (v3, gI g 41 (kL Ka)), (v4, gI g 41 (kE Ka)), (v5, gI g 41 (kX Ka)), (v6, gI g 41 (kT Ka))] := hW
  have hl : lv_has ls 5 [(4, .int (iI i)), (3, .int (iI 1)), (2, .int (iI cn)), (0, .ref mo), (1, .int (iI u))] := hl
  obtain ⟨hi, hcn, heq⟩ := hinv
  refine lv_iload_n S0.1 S0.2.1 dX11_rootsOf_11 rfl (lv_at hl 1 rfl) ?_
  refine q_if_eq (tgt := 56) S0 (by omega) dX11_rootsOf_12 (by decide) (fun c12 => ?_) (fun c12 => ?_)
  · skip
    exact absurd c12 (by omega)
  · skip
    refine lv_iload S0.1 S0.2.1 dX11_rootsOf_15 (lv_at hl 0 rfl) ?_
    refine lv_aload_n S0.1 S0.2.1 dX11_rootsOf_17 rfl (lv_at hl 3 rfl) ?_
    refine q_get (C := RX11) (T := TX11) (N := 26) S0 hK hW.1 hinX11 0 rfl rfl 0 (by decide) (List.mem_of_getElem? (i := 1) rfl) rfl rfl dX11_rootsOf_18 ?_
    refine q_iconst S0 dX11_rootsOf_21 ?_
    refine q_iald S0 hK hW.1 1 rfl (by omega) dX11_rootsOf_22 ?_
    refine W.eq (g2 := F0 m 23 ls [.int (iI (Z 0)), .int (iI i)]) rfl ?_
    refine q_topI (b := fP F) (hz.1) ?_
    refine q_icmp_ge (tgt := 56) S0 (by omega) dX11_rootsOf_23 (by decide) (fun c23 => ?_) (fun c23 => ?_)
    · skip
      refine lv_iload_n S0.1 S0.2.1 dX11_rootsOf_56 rfl (lv_at hl 2 rfl) ?_
      exact q_iret S0 hr hlocks (Ka, ba) (hTB) (by rw [← heq, show (fP F - i).toNat = 0 by omega]; rfl) (hW.sub [0, 1, 2, 3, 4, 5, 6, 7, 8, 9, 10] rfl (rfl)) (Nat.le_of_ble_eq_true rfl) (Nat.le_of_ble_eq_true rfl) dX11_rootsOf_57
    · skip
      refine lv_iload_n S0.1 S0.2.1 dX11_rootsOf_26 rfl (lv_at hl 2 rfl) ?_
      have hvr := GF_vv hG hu (x := i) (by omega)
      refine q_cut (α := Int) (fun z9 => F0 m 48 ls (.int (iI z9) :: [.int (iI cn)])) (fun z9 => z9 = if vv (fP F) (fE F) u.toNat i = 0 then (1 : Int) else 0) (fun z9 hz9 => ?_) (fun hJ27 => ?_)
      · skip
        refine q_iadd S0 dX11_rootsOf_48 ?_
        refine lv_istore_n (lv' := [(2, .int (iI (cn + z9))), (4, .int (iI i)), (3, .int (iI 1)), (0, .ref mo), (1, .int (iI u))]) S0.1 S0.2.1 dX11_rootsOf_49 rfl hl (by decide) rfl (fun ls hl => ?_)
        refine q_iinc (lv' := [(4, .int (iI (i + 1))), (2, .int (iI (cn + z9))), (3, .int (iI 1)), (0, .ref mo), (1, .int (iI u))]) S0 dX11_rootsOf_50 hl (k := 1) rfl (by decide) rfl (fun ls hl => ?_)
        refine lv_goto (tgt := 11) S0.1 S0.2.1 dX11_rootsOf_53 (by decide) ?_
        exact IHl (i + 1, cn + z9) H locs ls (by refine ⟨by omega, (by rw [hz9]; split <;> omega), ?_⟩; rw [← heq, show (fP F - i).toNat = (fP F - (i + 1)).toNat + 1 by omega, hz9]; symm; by_cases q : (vv (fP F) (fE F) u.toNat) i = 0; rw [if_pos q]; exact cnu_hit q; rw [if_neg q, Int.add_zero]; exact cnu_miss q) (by dsimp only; omega) hW (lv_sub hl [0, 2, 1, 3, 4] rfl)
      · skip
        refine lv_aload_n S0.1 S0.2.1 dX11_rootsOf_27 rfl (lv_at hl 3 rfl) ?_
        refine q_get (C := RX11) (T := TX11) (N := 26) S0 hK hW.1 hinX11 0 rfl rfl 13 (by decide) (List.mem_of_getElem? (i := 2) rfl) rfl rfl dX11_rootsOf_28 ?_
        refine q_sipush S0 (by decide) dX11_rootsOf_31 ?_
        refine lv_iload_n S0.1 S0.2.1 dX11_rootsOf_34 rfl (lv_at hl 4 rfl) ?_
        refine q_imul S0 dX11_rootsOf_35 ?_
        refine lv_iload S0.1 S0.2.1 dX11_rootsOf_36 (lv_at hl 0 rfl) ?_
        refine q_iadd S0 dX11_rootsOf_38 ?_
        refine q_iald S0 hK hW.1 2 rfl (by omega) dX11_rootsOf_39 ?_
        refine q_topI (b := vv (fP F) (fE F) u.toNat i) ((hTB u i (by omega) (by omega) (by omega) (by omega)).1) ?_
        refine q_if_ne (tgt := 47) S0 (by omega) dX11_rootsOf_40 (by decide) (fun c40 => ?_) (fun c40 => ?_)
        · skip
          refine q_iconst S0 dX11_rootsOf_47 ?_
          exact hJ27 _ (by first | (rw [if_pos (by omega)]; done) | (rw [if_neg (by omega)]; done) | omega)
        · skip
          refine q_iconst S0 dX11_rootsOf_43 ?_
          refine lv_goto (tgt := 48) S0.1 S0.2.1 dX11_rootsOf_44 (by decide) ?_
          exact hJ27 _ (by first | (rw [if_pos (by omega)]; done) | (rw [if_neg (by omega)]; done) | omega)
set_option maxHeartbeats 4000000 in
set_option maxRecDepth 100000 in
theorem c_X11_flatsOf1 (l : Launch) (g : GG) (mo az ap ak ax a1 a2 a3 a4 a5 a6 v1 v2 v3 v4 v5 v6 : Nat) (pm ik ty th mn wt bn wh dp dg : Int) (u : Int) (hu : (u < 0 ∨ 3 < u) ∧ -2147483648 ≤ u ∧ u < 2147483648) : qMet l yX11_flatsOf wsX11_flatsOf ({ frames := 3, cells := 0, slots := 0, locals := 63 }) g [.ref mo, .int (iI u)] [(mo, .inr (11, [.ref az, .ref ap, .int (iI pm), .ref ak, .int (iI ik), .ref ax, .int (iI ty), .int (iI th), .ref a1, .ref a2, .int (iI mn), .ref a3, .int (iI wt), .ref a4, .ref a5, .ref a6, .ref v1, .ref v2, .ref v3, .ref v4, .ref v5, .ref v6, .int (iI bn), .int (iI wh), .int (iI dp), .int (iI dg)]))] (fun _ => True) (fun _ => True) (S := Unit) (fun _ => some (.int (iI 0))) (fun _ => [(mo, .inr (11, [.ref az, .ref ap, .int (iI pm), .ref ak, .int (iI ik), .ref ax, .int (iI ty), .int (iI 1), .ref a1, .ref a2, .int (iI mn), .ref a3, .int (iI wt), .ref a4, .ref a5, .ref a6, .ref v1, .ref v2, .ref v3, .ref v4, .ref v5, .ref v6, .int (iI bn), .int (iI wh), .int (iI dp), .int (iI dg)]))]) (fun _ => True) 0 0 := by
  refine q_ofW (cc := cX11_flatsOf) (maxL := 5) (ret := (some .int)) (fun sz h => h.self) (by decide) rfl (Nat.le_of_ble_eq_true rfl) ?_
  intro p e s m args below meth c A ls S0 hr hlocks hnme hK hA hAe hW hD0 hX hl
  have hW : gW g A s.heap s.heap [] [(mo, .inr (11, [.ref az, .ref ap, .int (iI pm), .ref ak, .int (iI ik), .ref ax, .int (iI ty), .int (iI th), .ref a1, .ref a2, .int (iI mn), .ref a3, .int (iI wt), .ref a4, .ref a5, .ref a6, .ref v1, .ref v2, .ref v3, .ref v4, .ref v5, .ref v6, .int (iI bn), .int (iI wh), .int (iI dp), .int (iI dg)]))] := hW
  have hl : lv_has ls 5 [(0, .ref mo), (1, .int (iI u))] := hl
  refine q_iconst S0 dX11_flatsOf_0 ?_
  refine lv_istore_n (lv' := [(2, .int (iI 0)), (0, .ref mo), (1, .int (iI u))]) S0.1 S0.2.1 dX11_flatsOf_1 rfl hl (by decide) rfl (fun ls hl => ?_)
  refine lv_aload_n S0.1 S0.2.1 dX11_flatsOf_2 rfl (lv_at hl 1 rfl) ?_
  refine lv_iload_n S0.1 S0.2.1 dX11_flatsOf_3 rfl (lv_at hl 2 rfl) ?_
  refine q_cV (n := 1) (rest := []) (wr := []) S0 hK hA hW (c_X11_asksAll1 l g mo az ap ak ax a1 a2 a3 a4 a5 a6 v1 v2 v3 v4 v5 v6 pm ik ty th mn wt bn wh dp dg u (hu)) gX11_flatsOf_X11_asksAll rfl rfl rfl (by decide +kernel) ⟨Nat.le_of_ble_eq_true rfl, Nat.le_of_ble_eq_true rfl⟩ [0] [] rfl rfl rfl rfl (by decide) (q_recv hK hW.1 (ci := 11) (q0 := 0) rfl rfl) (fun _ _ => trivial) (trivial) rfl rfl hl.1 (Nat.le_of_ble_eq_true rfl) ⟨Nat.le_of_ble_eq_true rfl, Nat.le_of_ble_eq_true rfl⟩ dX11_flatsOf_4 (fun _ H locs _ hW => ?_)
  have hW : gW g A s.heap H _ [(mo, .inr (11, [.ref az, .ref ap, .int (iI pm), .ref ak, .int (iI ik), .ref ax, .int (iI ty), .int (iI 1), .ref a1, .ref a2, .int (iI mn), .ref a3, .int (iI wt), .ref a4, .ref a5, .ref a6, .ref v1, .ref v2, .ref v3, .ref v4, .ref v5, .ref v6, .int (iI bn), .int (iI wh), .int (iI dp), .int (iI dg)]))] := hW
  refine W.eq (g2 := F0 m 7 ls [.int (iI 0)]) rfl ?_
  refine lv_istore_n (lv' := [(3, .int (iI 0)), (2, .int (iI 0)), (0, .ref mo), (1, .int (iI u))]) S0.1 S0.2.1 dX11_flatsOf_7 rfl hl (by decide) rfl (fun ls hl => ?_)
  refine q_iconst S0 dX11_flatsOf_8 ?_
  refine lv_istore (lv' := [(4, .int (iI 0)), (3, .int (iI 0)), (2, .int (iI 0)), (0, .ref mo), (1, .int (iI u))]) S0.1 S0.2.1 dX11_flatsOf_9 hl (by decide) rfl (fun ls hl => ?_)
  refine lv_iload_n S0.1 S0.2.1 dX11_flatsOf_11 rfl (lv_at hl 1 rfl) ?_
  refine q_if_eq (tgt := 50) S0 (by omega) dX11_flatsOf_12 (by decide) (fun c12 => ?_) (fun c12 => ?_)
  · skip
    refine lv_iload_n S0.1 S0.2.1 dX11_flatsOf_50 rfl (lv_at hl 2 rfl) ?_
    exact q_iret S0 hr hlocks () (trivial) (rfl) (hW.sub [0] rfl (rfl)) (Nat.le_of_ble_eq_true rfl) (Nat.le_of_ble_eq_true rfl) dX11_flatsOf_51
  · skip
    exact absurd c12 (by omega)
set_option maxHeartbeats 4000000 in
set_option maxRecDepth 100000 in
theorem c_X11_flatsOf0 (l : Launch) (g : GG) (mo az ap ak ax a1 a2 a3 a4 a5 a6 v1 v2 v3 v4 v5 v6 : Nat) (pm ik ty th mn wt bn wh dp dg : Int) (Z : Nat → Int) (F : FT) (K : KT) (u : Int) (hG : GF F) (hz : ZR Z F) (hlk : LKG F) (hu : 0 ≤ u ∧ u < 4) : qMet l yX11_flatsOf wsX11_flatsOf ({ frames := 6, cells := 0, slots := 0, locals := 144 }) g [.ref mo, .int (iI u)] [(mo, .inr (11, [.ref az, .ref ap, .int (iI pm), .ref ak, .int (iI ik), .ref ax, .int (iI ty), .int (iI th), .ref a1, .ref a2, .int (iI mn), .ref a3, .int (iI wt), .ref a4, .ref a5, .ref a6, .ref v1, .ref v2, .ref v3, .ref v4, .ref v5, .ref v6, .int (iI bn), .int (iI wh), .int (iI dp), .int (iI dg)])), (az, gI g 325 Z), (a4, gI g 796 (kV K)), (a5, gI g 796 (kH K)), (a6, gI g 796 (kR K)), (v1, gI g 41 (kW K)), (v2, gI g 41 (kS K)), (v3, gI g 41 (kL K)), (v4, gI g 41 (kE K)), (v5, gI g 41 (kX K)), (v6, gI g 41 (kT K))] (fun _ => True) (fun _ => True) (S := KT × Int) (fun u_ => some (.int (iI (cnu (hh (fP F) (fE F) u.toNat) 0 (fP F).toNat 0 0)))) (fun u_ => [(mo, .inr (11, [.ref az, .ref ap, .int (iI pm), .ref ak, .int (iI ik), .ref ax, .int (iI ty), .int (iI 0), .ref a1, .ref a2, .int (iI mn), .ref a3, .int (iI wt), .ref a4, .ref a5, .ref a6, .ref v1, .ref v2, .ref v3, .ref v4, .ref v5, .ref v6, .int (iI u_.2), .int (iI wh), .int (iI dp), .int (iI dg)])), (az, gI g 325 Z), (a4, gI g 796 (kV u_.1)), (a5, gI g 796 (kH u_.1)), (a6, gI g 796 (kR u_.1)), (v1, gI g 41 (kW u_.1)), (v2, gI g 41 (kS u_.1)), (v3, gI g 41 (kL u_.1)), (v4, gI g 41 (kE u_.1)), (v5, gI g 41 (kX u_.1)), (v6, gI g 41 (kT u_.1))]) (fun u_ => TB F (u + 1) (kV u_.1) (kH u_.1) (kR u_.1)) 0 0 := by
  refine q_ofW (cc := cX11_flatsOf) (maxL := 5) (ret := (some .int)) (fun sz h => h.self) (by decide) rfl (Nat.le_of_ble_eq_true rfl) ?_
  intro p e s m args below meth c A ls S0 hr hlocks hnme hK hA hAe hW hD0 hX hl
  have hW : gW g A s.heap s.heap [] [(mo, .inr (11, [.ref az, .ref ap, .int (iI pm), .ref ak, .int (iI ik), .ref ax, .int (iI ty), .int (iI th), .ref a1, .ref a2, .int (iI mn), .ref a3, .int (iI wt), .ref a4, .ref a5, .ref a6, .ref v1, .ref v2, .ref v3, .ref v4, .ref v5, .ref v6, .int (iI bn), .int (iI wh), .int (iI dp), .int (iI dg)])), (az, gI g 325 Z), (a4, gI g 796 (kV K)), (a5, gI g 796 (kH K)), (a6, gI g 796 (kR K)), (v1, gI g 41 (kW K)), (v2, gI g 41 (kS K)), (v3, gI g 41 (kL K)), (v4, gI g 41 (kE K)), (v5, gI g 41 (kX K)), (v6, gI g 41 (kT K))] := hW
  have hl : lv_has ls 5 [(0, .ref mo), (1, .int (iI u))] := hl
  have hinX11 : ∀ w ∈ wsX110, w ∈ wsX11_flatsOf := fun w h => List.mem_cons_of_mem _ (List.mem_append_right _ h)
  have hpr := GF_p hG
  refine q_iconst S0 dX11_flatsOf_0 ?_
  refine lv_istore_n (lv' := [(2, .int (iI 0)), (0, .ref mo), (1, .int (iI u))]) S0.1 S0.2.1 dX11_flatsOf_1 rfl hl (by decide) rfl (fun ls hl => ?_)
  refine lv_aload_n S0.1 S0.2.1 dX11_flatsOf_2 rfl (lv_at hl 1 rfl) ?_
  refine lv_iload_n S0.1 S0.2.1 dX11_flatsOf_3 rfl (lv_at hl 2 rfl) ?_
  refine q_cV (n := 1) (rest := []) (wr := []) S0 hK hA hW (c_X11_asksAll0 l g mo az ap ak ax a1 a2 a3 a4 a5 a6 v1 v2 v3 v4 v5 v6 pm ik ty th mn wt bn wh dp dg Z F K u (hG) (hz) (hlk) (hu)) gX11_flatsOf_X11_asksAll rfl rfl rfl (by decide +kernel) ⟨Nat.le_of_ble_eq_true rfl, Nat.le_of_ble_eq_true rfl⟩ [0, 1, 2, 3, 4, 5, 6, 7, 8, 9, 10] [] rfl rfl rfl rfl (by decide) (q_recv hK hW.1 (ci := 11) (q0 := 0) rfl rfl) (fun _ _ => trivial) (trivial) rfl rfl hl.1 (Nat.le_of_ble_eq_true rfl) ⟨Nat.le_of_ble_eq_true rfl, Nat.le_of_ble_eq_true rfl⟩ dX11_flatsOf_4 ?_
  rintro ⟨Ka, ba⟩ H locs hp hW
  try dsimp only at hp
  have hW : gW g A s.heap H _ [(mo, .inr (11, [.ref az, .ref ap, .int (iI pm), .ref ak, .int (iI ik), .ref ax, .int (iI ty), .int (iI 0), .ref a1, .ref a2, .int (iI mn), .ref a3, .int (iI wt), .ref a4, .ref a5, .ref a6, .ref v1, .ref v2, .ref v3, .ref v4, .ref v5, .ref v6, .int (iI ba), .int (iI wh), .int (iI dp), .int (iI dg)])), (az, gI g 325 Z), (a4, gI g 796 (kV Ka)), (a5, gI g 796 (kH Ka)), (a6, gI g 796 (kR Ka)), (v1, gI g 41 (kW Ka)), (v2, gI g 41 (kS Ka)), (v3, gI g 41 (kL Ka)), (v4, gI g 41 (kE Ka)), (v5, gI g 41 (kX Ka)), (v6, gI g 41 (kT Ka))] := hW
  refine W.eq (g2 := F0 m 7 ls [.int (iI 1)]) rfl ?_
  have hTB := hp
  refine lv_istore_n (lv' := [(3, .int (iI 1)), (2, .int (iI 0)), (0, .ref mo), (1, .int (iI u))]) S0.1 S0.2.1 dX11_flatsOf_7 rfl hl (by decide) rfl (fun ls hl => ?_)
  refine q_iconst S0 dX11_flatsOf_8 ?_
  refine lv_istore (lv' := [(4, .int (iI 0)), (3, .int (iI 1)), (2, .int (iI 0)), (0, .ref mo), (1, .int (iI u))]) S0.1 S0.2.1 dX11_flatsOf_9 hl (by decide) rfl (fun ls hl => ?_)
  refine q_loop (α := Int × Int) (fun (z_ : Int × Int) => match z_ with | (i, cn) => (0 ≤ i ∧ i ≤ fP F) ∧ (0 ≤ cn ∧ cn ≤ i) ∧ cnu (hh (fP F) (fE F) u.toNat) 0 (fP F - i).toNat i cn = cnu (hh (fP F) (fE F) u.toNat) 0 (fP F).toNat 0 0) (fun (z_ : Int × Int) => match z_ with | (i, cn) => (fP F - i).toNat) (fun (z_ : Int × Int) => match z_ with | (i, cn) => [(mo, .inr (11, [.ref az, .ref ap, .int (iI pm), .ref ak, .int (iI ik), .ref ax, .int (iI ty), .int (iI 0), .ref a1, .ref a2, .int (iI mn), .ref a3, .int (iI wt), .ref a4, .ref a5, .ref a6, .ref v1, .ref v2, .ref v3, .ref v4, .ref v5, .ref v6, .int (iI ba), .int (iI wh), .int (iI dp), .int (iI dg)])), (az, gI g 325 Z), (a4, gI g 796 (kV Ka)), (a5, gI g 796 (kH Ka)), (a6, gI g 796 (kR Ka)), (v1, gI g 41 (kW Ka)), (v2, gI g 41 (kS Ka)), (v3, gI g 41 (kL Ka)), (v4, gI g 41 (kE Ka)), (v5, gI g 41 (kX Ka)), (v6, gI g 41 (kT Ka))]) (fun (z_ : Int × Int) => match z_ with | (i, cn) => [(4, .int (iI i)), (3, .int (iI 1)), (2, .int (iI cn)), (0, .ref mo), (1, .int (iI u))]) ?_ (0, 0) (by exact ⟨by omega, by omega, by rw [show fP F - 0 = fP F by omega]⟩) hW (lv_sub hl [0, 1, 2, 3, 4] rfl)
  rintro ⟨i, cn⟩ hinv IHl H locs ls hW hl
  try dsimp only at hinv
  have hW : gW g A s.heap H _ [(mo, .inr (11, [.ref az, .ref ap, .int (iI pm), .ref ak, .int (iI ik), .ref ax, .int (iI ty), .int (iI 0), .ref a1, .ref a2, .int (iI mn), .ref a3, .int (iI wt), .ref a4, .ref a5, .ref a6, .ref v1, .ref v2, .ref v3, .ref v4, .ref v5, .ref v6, .int (iI ba), .int (iI wh), .int (iI dp), .int (iI dg)])), (az, gI g 325 Z), (a4, gI g 796 (kV Ka)), (a5, gI g 796 (kH Ka)), (a6, gI g 796 (kR Ka)), (v1, gI g 41 (kW Ka)), (v2, gI g 41 (kS Ka)), (v3, gI g 41 (kL Ka)), (v4, gI g 41 (kE Ka)), (v5, gI g 41 (kX Ka)), (v6, gI g 41 (kT Ka))] := hW
  have hl : lv_has ls 5 [(4, .int (iI i)), (3, .int (iI 1)), (2, .int (iI cn)), (0, .ref mo), (1, .int (iI u))] := hl
  obtain ⟨hi, hcn, heq⟩ := hinv
  refine lv_iload_n S0.1 S0.2.1 dX11_flatsOf_11 rfl (lv_at hl 1 rfl) ?_
  refine q_if_eq (tgt := 50) S0 (by omega) dX11_flatsOf_12 (by decide) (fun c12 => ?_) (fun c12 => ?_)
  · skip
    exact absurd c12 (by omega)
  · skip
    refine lv_iload S0.1 S0.2.1 dX11_flatsOf_15 (lv_at hl 0 rfl) ?_
    refine lv_aload_n S0.1 S0.2.1 dX11_flatsOf_17 rfl (lv_at hl 3 rfl) ?_
    refine q_get (C := RX11) (T := TX11) (N := 26) S0 hK hW.1 hinX11 0 rfl rfl 0 (by decide) (List.mem_of_getElem? (i := 1) rfl) rfl rfl dX11_flatsOf_18 ?_
    refine q_iconst S0 dX11_flatsOf_21 ?_
    refine q_iald S0 hK hW.1 1 rfl (by omega) dX11_flatsOf_22 ?_
    refine W.eq (g2 := F0 m 23 ls [.int (iI (Z 0)), .int (iI i)]) rfl ?_
    refine q_topI (b := fP F) (hz.1) ?_
    refine q_icmp_ge (tgt := 50) S0 (by omega) dX11_flatsOf_23 (by decide) (fun c23 => ?_) (fun c23 => ?_)
    · skip
      refine lv_iload_n S0.1 S0.2.1 dX11_flatsOf_50 rfl (lv_at hl 2 rfl) ?_
      exact q_iret S0 hr hlocks (Ka, ba) (hTB) (by rw [← heq, show (fP F - i).toNat = 0 by omega]; rfl) (hW.sub [0, 1, 2, 3, 4, 5, 6, 7, 8, 9, 10] rfl (rfl)) (Nat.le_of_ble_eq_true rfl) (Nat.le_of_ble_eq_true rfl) dX11_flatsOf_51
    · skip
      refine lv_iload_n S0.1 S0.2.1 dX11_flatsOf_26 rfl (lv_at hl 2 rfl) ?_
      refine q_cut (α := Int) (fun z9 => F0 m 42 ls (.int (iI z9) :: [.int (iI cn)])) (fun z9 => z9 = if hh (fP F) (fE F) u.toNat i = 0 then (1 : Int) else 0) (fun z9 hz9 => ?_) (fun hJ27 => ?_)
      · skip
        refine q_iadd S0 dX11_flatsOf_42 ?_
        refine lv_istore_n (lv' := [(2, .int (iI (cn + z9))), (4, .int (iI i)), (3, .int (iI 1)), (0, .ref mo), (1, .int (iI u))]) S0.1 S0.2.1 dX11_flatsOf_43 rfl hl (by decide) rfl (fun ls hl => ?_)
        refine q_iinc (lv' := [(4, .int (iI (i + 1))), (2, .int (iI (cn + z9))), (3, .int (iI 1)), (0, .ref mo), (1, .int (iI u))]) S0 dX11_flatsOf_44 hl (k := 1) rfl (by decide) rfl (fun ls hl => ?_)
        refine lv_goto (tgt := 11) S0.1 S0.2.1 dX11_flatsOf_47 (by decide) ?_
        exact IHl (i + 1, cn + z9) H locs ls (by refine ⟨by omega, (by rw [hz9]; split <;> omega), ?_⟩; rw [← heq, show (fP F - i).toNat = (fP F - (i + 1)).toNat + 1 by omega, hz9]; symm; by_cases q : (hh (fP F) (fE F) u.toNat) i = 0; rw [if_pos q]; exact cnu_hit q; rw [if_neg q, Int.add_zero]; exact cnu_miss q) (by dsimp only; omega) hW (lv_sub hl [0, 2, 1, 3, 4] rfl)
      · skip
        refine lv_aload_n S0.1 S0.2.1 dX11_flatsOf_27 rfl (lv_at hl 3 rfl) ?_
        refine lv_iload_n S0.1 S0.2.1 dX11_flatsOf_28 rfl (lv_at hl 4 rfl) ?_
        refine lv_iload S0.1 S0.2.1 dX11_flatsOf_29 (lv_at hl 0 rfl) ?_
        refine q_pV (n := 2) (rest := [.int (iI cn)]) S0 hK (c_X11_isFlat l g mo az ap ak ax a1 a2 a3 a4 a5 a6 v1 v2 v3 v4 v5 v6 pm ik ty 0 mn wt ba wh dp dg Z F Ka u i (hG) (hz) (hu) (by omega) (hTB)) (subP hW.1 [0, 2, 4] rfl) (trivial) gX11_flatsOf_X11_isFlat rfl rfl rfl (by decide +kernel) ⟨Nat.le_of_ble_eq_true rfl, Nat.le_of_ble_eq_true rfl⟩ (q_recv hK hW.1 (ci := 11) (q0 := 0) rfl rfl) rfl rfl hl.1 (Nat.le_of_ble_eq_true rfl) ⟨Nat.le_of_ble_eq_true rfl, Nat.le_of_ble_eq_true rfl⟩ dX11_flatsOf_31 ?_
        refine W.eq (g2 := F0 m 34 ls [.int (iI (if hh (fP F) (fE F) u.toNat i = 0 then (1 : Int) else 0)), .int (iI cn)]) rfl ?_
        refine q_if_eqP (tgt := 41) S0 dX11_flatsOf_34 (by decide) (fun c34 => ?_) (fun c34 => ?_)
        · skip
          refine q_iconst S0 dX11_flatsOf_41 ?_
          exact hJ27 _ (by first | (rw [if_pos (by omega)]; done) | (rw [if_neg (by omega)]; done) | omega)
        · skip
          refine q_iconst S0 dX11_flatsOf_37 ?_
          refine lv_goto (tgt := 42) S0.1 S0.2.1 dX11_flatsOf_38 (by decide) ?_
          exact hJ27 _ (by first | (rw [if_pos (by omega)]; done) | (rw [if_neg (by omega)]; done) | omega)
set_option maxHeartbeats 4000000 in
set_option maxRecDepth 100000 in
theorem c_X11_firstFlat1 (l : Launch) (g : GG) (mo az ap ak ax a1 a2 a3 a4 a5 a6 v1 v2 v3 v4 v5 v6 : Nat) (pm ik ty th mn wt bn wh dp dg : Int) (u : Int) (hu : (u < 0 ∨ 3 < u) ∧ -2147483648 ≤ u ∧ u < 2147483648) : qMet l yX11_firstFlat wsX11_firstFlat ({ frames := 3, cells := 0, slots := 0, locals := 63 }) g [.ref mo, .int (iI u)] [(mo, .inr (11, [.ref az, .ref ap, .int (iI pm), .ref ak, .int (iI ik), .ref ax, .int (iI ty), .int (iI th), .ref a1, .ref a2, .int (iI mn), .ref a3, .int (iI wt), .ref a4, .ref a5, .ref a6, .ref v1, .ref v2, .ref v3, .ref v4, .ref v5, .ref v6, .int (iI bn), .int (iI wh), .int (iI dp), .int (iI dg)]))] (fun _ => True) (fun _ => True) (S := Unit) (fun _ => some (.int (iI 0))) (fun _ => [(mo, .inr (11, [.ref az, .ref ap, .int (iI pm), .ref ak, .int (iI ik), .ref ax, .int (iI ty), .int (iI 1), .ref a1, .ref a2, .int (iI mn), .ref a3, .int (iI wt), .ref a4, .ref a5, .ref a6, .ref v1, .ref v2, .ref v3, .ref v4, .ref v5, .ref v6, .int (iI bn), .int (iI wh), .int (iI dp), .int (iI dg)]))]) (fun _ => True) 0 0 := by
  refine q_ofW (cc := cX11_firstFlat) (maxL := 3) (ret := (some .int)) (fun sz h => h.self) (by decide) rfl (Nat.le_of_ble_eq_true rfl) ?_
  intro p e s m args below meth c A ls S0 hr hlocks hnme hK hA hAe hW hD0 hX hl
  have hW : gW g A s.heap s.heap [] [(mo, .inr (11, [.ref az, .ref ap, .int (iI pm), .ref ak, .int (iI ik), .ref ax, .int (iI ty), .int (iI th), .ref a1, .ref a2, .int (iI mn), .ref a3, .int (iI wt), .ref a4, .ref a5, .ref a6, .ref v1, .ref v2, .ref v3, .ref v4, .ref v5, .ref v6, .int (iI bn), .int (iI wh), .int (iI dp), .int (iI dg)]))] := hW
  have hl : lv_has ls 3 [(0, .ref mo), (1, .int (iI u))] := hl
  refine lv_aload_n S0.1 S0.2.1 dX11_firstFlat_0 rfl (lv_at hl 0 rfl) ?_
  refine lv_iload_n S0.1 S0.2.1 dX11_firstFlat_1 rfl (lv_at hl 1 rfl) ?_
  refine q_cV (n := 1) (rest := []) (wr := []) S0 hK hA hW (c_X11_asksAll1 l g mo az ap ak ax a1 a2 a3 a4 a5 a6 v1 v2 v3 v4 v5 v6 pm ik ty th mn wt bn wh dp dg u (hu)) gX11_firstFlat_X11_asksAll rfl rfl rfl (by decide +kernel) ⟨Nat.le_of_ble_eq_true rfl, Nat.le_of_ble_eq_true rfl⟩ [0] [] rfl rfl rfl rfl (by decide) (q_recv hK hW.1 (ci := 11) (q0 := 0) rfl rfl) (fun _ _ => trivial) (trivial) rfl rfl hl.1 (Nat.le_of_ble_eq_true rfl) ⟨Nat.le_of_ble_eq_true rfl, Nat.le_of_ble_eq_true rfl⟩ dX11_firstFlat_2 (fun _ H locs _ hW => ?_)
  have hW : gW g A s.heap H _ [(mo, .inr (11, [.ref az, .ref ap, .int (iI pm), .ref ak, .int (iI ik), .ref ax, .int (iI ty), .int (iI 1), .ref a1, .ref a2, .int (iI mn), .ref a3, .int (iI wt), .ref a4, .ref a5, .ref a6, .ref v1, .ref v2, .ref v3, .ref v4, .ref v5, .ref v6, .int (iI bn), .int (iI wh), .int (iI dp), .int (iI dg)]))] := hW
  refine W.eq (g2 := F0 m 5 ls [.int (iI 0)]) rfl ?_
  refine q_if_ne (tgt := 10) S0 (by omega) dX11_firstFlat_5 (by decide) (fun c5 => ?_) (fun c5 => ?_)
  · skip
    exact absurd c5 (by omega)
  · skip
    refine q_iconst S0 dX11_firstFlat_8 ?_
    exact q_iret S0 hr hlocks () (trivial) (rfl) (hW.sub [0] rfl (rfl)) (Nat.le_of_ble_eq_true rfl) (Nat.le_of_ble_eq_true rfl) dX11_firstFlat_9
set_option maxHeartbeats 4000000 in
set_option maxRecDepth 100000 in
theorem c_X11_firstFlat0 (l : Launch) (g : GG) (mo az ap ak ax a1 a2 a3 a4 a5 a6 v1 v2 v3 v4 v5 v6 : Nat) (pm ik ty th mn wt bn wh dp dg : Int) (Z : Nat → Int) (F : FT) (K : KT) (u : Int) (hG : GF F) (hz : ZR Z F) (hlk : LKG F) (hu : 0 ≤ u ∧ u < 4) : qMet l yX11_firstFlat wsX11_firstFlat ({ frames := 6, cells := 0, slots := 0, locals := 144 }) g [.ref mo, .int (iI u)] [(mo, .inr (11, [.ref az, .ref ap, .int (iI pm), .ref ak, .int (iI ik), .ref ax, .int (iI ty), .int (iI th), .ref a1, .ref a2, .int (iI mn), .ref a3, .int (iI wt), .ref a4, .ref a5, .ref a6, .ref v1, .ref v2, .ref v3, .ref v4, .ref v5, .ref v6, .int (iI bn), .int (iI wh), .int (iI dp), .int (iI dg)])), (az, gI g 325 Z), (a4, gI g 796 (kV K)), (a5, gI g 796 (kH K)), (a6, gI g 796 (kR K)), (v1, gI g 41 (kW K)), (v2, gI g 41 (kS K)), (v3, gI g 41 (kL K)), (v4, gI g 41 (kE K)), (v5, gI g 41 (kX K)), (v6, gI g 41 (kT K))] (fun _ => True) (fun _ => True) (S := KT × Int) (fun u_ => some (.int (iI (ffu (hh (fP F) (fE F) u.toNat) (fP F).toNat 0)))) (fun u_ => [(mo, .inr (11, [.ref az, .ref ap, .int (iI pm), .ref ak, .int (iI ik), .ref ax, .int (iI ty), .int (iI 0), .ref a1, .ref a2, .int (iI mn), .ref a3, .int (iI wt), .ref a4, .ref a5, .ref a6, .ref v1, .ref v2, .ref v3, .ref v4, .ref v5, .ref v6, .int (iI u_.2), .int (iI wh), .int (iI dp), .int (iI dg)])), (az, gI g 325 Z), (a4, gI g 796 (kV u_.1)), (a5, gI g 796 (kH u_.1)), (a6, gI g 796 (kR u_.1)), (v1, gI g 41 (kW u_.1)), (v2, gI g 41 (kS u_.1)), (v3, gI g 41 (kL u_.1)), (v4, gI g 41 (kE u_.1)), (v5, gI g 41 (kX u_.1)), (v6, gI g 41 (kT u_.1))]) (fun u_ => TB F (u + 1) (kV u_.1) (kH u_.1) (kR u_.1)) 0 0 := by
  refine q_ofW (cc := cX11_firstFlat) (maxL := 3) (ret := (some .int)) (fun sz h => h.self) (by decide) rfl (Nat.le_of_ble_eq_true rfl) ?_
  intro p e s m args below meth c A ls S0 hr hlocks hnme hK hA hAe hW hD0 hX hl
  have hW : gW g A s.heap s.heap [] [(mo, .inr (11, [.ref az, .ref ap, .int (iI pm), .ref ak, .int (iI ik), .ref ax, .int (iI ty), .int (iI th), .ref a1, .ref a2, .int (iI mn), .ref a3, .int (iI wt), .ref a4, .ref a5, .ref a6, .ref v1, .ref v2, .ref v3, .ref v4, .ref v5, .ref v6, .int (iI bn), .int (iI wh), .int (iI dp), .int (iI dg)])), (az, gI g 325 Z), (a4, gI g 796 (kV K)), (a5, gI g 796 (kH K)), (a6, gI g 796 (kR K)), (v1, gI g 41 (kW K)), (v2, gI g 41 (kS K)), (v3, gI g 41 (kL K)), (v4, gI g 41 (kE K)), (v5, gI g 41 (kX K)), (v6, gI g 41 (kT K))] := hW
  have hl : lv_has ls 3 [(0, .ref mo), (1, .int (iI u))] := hl
  have hinX11 : ∀ w ∈ wsX110, w ∈ wsX11_firstFlat := fun w h => List.mem_cons_of_mem _ (List.mem_append_right _ h)
  have hpr := GF_p hG
  refine lv_aload_n S0.1 S0.2.1 dX11_firstFlat_0 rfl (lv_at hl 0 rfl) ?_
  refine lv_iload_n S0.1 S0.2.1 dX11_firstFlat_1 rfl (lv_at hl 1 rfl) ?_
  refine q_cV (n := 1) (rest := []) (wr := []) S0 hK hA hW (c_X11_asksAll0 l g mo az ap ak ax a1 a2 a3 a4 a5 a6 v1 v2 v3 v4 v5 v6 pm ik ty th mn wt bn wh dp dg Z F K u (hG) (hz) (hlk) (hu)) gX11_firstFlat_X11_asksAll rfl rfl rfl (by decide +kernel) ⟨Nat.le_of_ble_eq_true rfl, Nat.le_of_ble_eq_true rfl⟩ [0, 1, 2, 3, 4, 5, 6, 7, 8, 9, 10] [] rfl rfl rfl rfl (by decide) (q_recv hK hW.1 (ci := 11) (q0 := 0) rfl rfl) (fun _ _ => trivial) (trivial) rfl rfl hl.1 (Nat.le_of_ble_eq_true rfl) ⟨Nat.le_of_ble_eq_true rfl, Nat.le_of_ble_eq_true rfl⟩ dX11_firstFlat_2 ?_
  rintro ⟨Ka, ba⟩ H locs hp hW
  try dsimp only at hp
  have hW : gW g A s.heap H _ [(mo, .inr (11, [.ref az, .ref ap, .int (iI pm), .ref ak, .int (iI ik), .ref ax, .int (iI ty), .int (iI 0), .ref a1, .ref a2, .int (iI mn), .ref a3, .int (iI wt), .ref a4, .ref a5, .ref a6, .ref v1, .ref v2, .ref v3, .ref v4, .ref v5, .ref v6, .int (iI ba), .int (iI wh), .int (iI dp), .int (iI dg)])), (az, gI g 325 Z), (a4, gI g 796 (kV Ka)), (a5, gI g 796 (kH Ka)), (a6, gI g 796 (kR Ka)), (v1, gI g 41 (kW Ka)), (v2, gI g 41 (kS Ka)), (v3, gI g 41 (kL Ka)), (v4, gI g 41 (kE Ka)), (v5, gI g 41 (kX Ka)), (v6, gI g 41 (kT Ka))] := hW
  refine W.eq (g2 := F0 m 5 ls [.int (iI 1)]) rfl ?_
  have hTB := hp
  refine q_if_ne (tgt := 10) S0 (by omega) dX11_firstFlat_5 (by decide) (fun c5 => ?_) (fun c5 => ?_)
  · skip
    refine q_iconst S0 dX11_firstFlat_10 ?_
    refine lv_istore_n (lv' := [(2, .int (iI 0)), (0, .ref mo), (1, .int (iI u))]) S0.1 S0.2.1 dX11_firstFlat_11 rfl hl (by decide) rfl (fun ls hl => ?_)
    refine q_loop (α := Int) (fun (i : Int) => 0 ≤ i ∧ i ≤ fP F ∧ ffu (hh (fP F) (fE F) u.toNat) (fP F - i).toNat i = ffu (hh (fP F) (fE F) u.toNat) (fP F).toNat 0) (fun (i : Int) => (fP F - i).toNat) (fun (i : Int) => [(mo, .inr (11, [.ref az, .ref ap, .int (iI pm), .ref ak, .int (iI ik), .ref ax, .int (iI ty), .int (iI 0), .ref a1, .ref a2, .int (iI mn), .ref a3, .int (iI wt), .ref a4, .ref a5, .ref a6, .ref v1, .ref v2, .ref v3, .ref v4, .ref v5, .ref v6, .int (iI ba), .int (iI wh), .int (iI dp), .int (iI dg)])), (az, gI g 325 Z), (a4, gI g 796 (kV Ka)), (a5, gI g 796 (kH Ka)), (a6, gI g 796 (kR Ka)), (v1, gI g 41 (kW Ka)), (v2, gI g 41 (kS Ka)), (v3, gI g 41 (kL Ka)), (v4, gI g 41 (kE Ka)), (v5, gI g 41 (kX Ka)), (v6, gI g 41 (kT Ka))]) (fun (i : Int) => [(2, .int (iI i)), (0, .ref mo), (1, .int (iI u))]) ?_ 0 (by exact ⟨by omega, by omega, by rw [show fP F - 0 = fP F by omega]⟩) hW (lv_sub hl [0, 1, 2] rfl)
    rintro i hinv IHl H locs ls hW hl
    try dsimp only at hinv
    have hW : gW g A s.heap H _ [(mo, .inr (11, [.ref az, .ref ap, .int (iI pm), .ref ak, .int (iI ik), .ref ax, .int (iI ty), .int (iI 0), .ref a1, .ref a2, .int (iI mn), .ref a3, .int (iI wt), .ref a4, .ref a5, .ref a6, .ref v1, .ref v2, .ref v3, .ref v4, .ref v5, .ref v6, .int (iI ba), .int (iI wh), .int (iI dp), .int (iI dg)])), (az, gI g 325 Z), (a4, gI g 796 (kV Ka)), (a5, gI g 796 (kH Ka)), (a6, gI g 796 (kR Ka)), (v1, gI g 41 (kW Ka)), (v2, gI g 41 (kS Ka)), (v3, gI g 41 (kL Ka)), (v4, gI g 41 (kE Ka)), (v5, gI g 41 (kX Ka)), (v6, gI g 41 (kT Ka))] := hW
    have hl : lv_has ls 3 [(2, .int (iI i)), (0, .ref mo), (1, .int (iI u))] := hl
    obtain ⟨hi1, hi2, heq⟩ := hinv
    refine lv_iload_n S0.1 S0.2.1 dX11_firstFlat_12 rfl (lv_at hl 0 rfl) ?_
    refine lv_aload_n S0.1 S0.2.1 dX11_firstFlat_13 rfl (lv_at hl 1 rfl) ?_
    refine q_get (C := RX11) (T := TX11) (N := 26) S0 hK hW.1 hinX11 0 rfl rfl 0 (by decide) (List.mem_of_getElem? (i := 1) rfl) rfl rfl dX11_firstFlat_14 ?_
    refine q_iconst S0 dX11_firstFlat_17 ?_
    refine q_iald S0 hK hW.1 1 rfl (by omega) dX11_firstFlat_18 ?_
    refine W.eq (g2 := F0 m 19 ls [.int (iI (Z 0)), .int (iI i)]) rfl ?_
    refine q_topI (b := fP F) (hz.1) ?_
    refine q_icmp_ge (tgt := 37) S0 (by omega) dX11_firstFlat_19 (by decide) (fun c19 => ?_) (fun c19 => ?_)
    · skip
      refine lv_iload_n S0.1 S0.2.1 dX11_firstFlat_37 rfl (lv_at hl 0 rfl) ?_
      refine lv_aload_n S0.1 S0.2.1 dX11_firstFlat_38 rfl (lv_at hl 1 rfl) ?_
      refine q_get (C := RX11) (T := TX11) (N := 26) S0 hK hW.1 hinX11 0 rfl rfl 0 (by decide) (List.mem_of_getElem? (i := 1) rfl) rfl rfl dX11_firstFlat_39 ?_
      refine q_iconst S0 dX11_firstFlat_42 ?_
      refine q_iald S0 hK hW.1 1 rfl (by omega) dX11_firstFlat_43 ?_
      refine W.eq (g2 := F0 m 44 ls [.int (iI (Z 0)), .int (iI i)]) rfl ?_
      refine q_topI (b := fP F) (hz.1) ?_
      refine q_icmp_ge (tgt := 51) S0 (by omega) dX11_firstFlat_44 (by decide) (fun c44 => ?_) (fun c44 => ?_)
      · skip
        refine q_iconst S0 dX11_firstFlat_51 ?_
        exact q_iret S0 hr hlocks (Ka, ba) (hTB) (by first | (exfalso; omega) | (rw [← heq, show (fP F - i).toNat = 0 by omega]; rfl) | (refine congrArg (fun z => some (Value.int (iI z))) (?_ : _ = _); rw [← heq, show (fP F - i).toNat = (fP F - (i + 1)).toNat + 1 by omega]; exact ffu_hit c28)) (hW.sub [0, 1, 2, 3, 4, 5, 6, 7, 8, 9, 10] rfl (rfl)) (Nat.le_of_ble_eq_true rfl) (Nat.le_of_ble_eq_true rfl) dX11_firstFlat_52
      · skip
        refine lv_iload_n S0.1 S0.2.1 dX11_firstFlat_47 rfl (lv_at hl 0 rfl) ?_
        refine lv_goto (tgt := 52) S0.1 S0.2.1 dX11_firstFlat_48 (by decide) ?_
        exact q_iret S0 hr hlocks (Ka, ba) (hTB) (by first | (exfalso; omega) | (rw [← heq, show (fP F - i).toNat = 0 by omega]; rfl) | (refine congrArg (fun z => some (Value.int (iI z))) (?_ : _ = _); rw [← heq, show (fP F - i).toNat = (fP F - (i + 1)).toNat + 1 by omega]; exact ffu_hit c28)) (hW.sub [0, 1, 2, 3, 4, 5, 6, 7, 8, 9, 10] rfl (rfl)) (Nat.le_of_ble_eq_true rfl) (Nat.le_of_ble_eq_true rfl) dX11_firstFlat_52
    · skip
      refine lv_aload_n S0.1 S0.2.1 dX11_firstFlat_22 rfl (lv_at hl 1 rfl) ?_
      refine lv_iload_n S0.1 S0.2.1 dX11_firstFlat_23 rfl (lv_at hl 2 rfl) ?_
      refine lv_iload_n S0.1 S0.2.1 dX11_firstFlat_24 rfl (lv_at hl 0 rfl) ?_
      refine q_pV (n := 2) (rest := []) S0 hK (c_X11_isFlat l g mo az ap ak ax a1 a2 a3 a4 a5 a6 v1 v2 v3 v4 v5 v6 pm ik ty 0 mn wt ba wh dp dg Z F Ka u i (hG) (hz) (hu) (by omega) (hTB)) (subP hW.1 [0, 2, 4] rfl) (trivial) gX11_firstFlat_X11_isFlat rfl rfl rfl (by decide +kernel) ⟨Nat.le_of_ble_eq_true rfl, Nat.le_of_ble_eq_true rfl⟩ (q_recv hK hW.1 (ci := 11) (q0 := 0) rfl rfl) rfl rfl hl.1 (Nat.le_of_ble_eq_true rfl) ⟨Nat.le_of_ble_eq_true rfl, Nat.le_of_ble_eq_true rfl⟩ dX11_firstFlat_25 ?_
      refine W.eq (g2 := F0 m 28 ls [.int (iI (if hh (fP F) (fE F) u.toNat i = 0 then (1 : Int) else 0))]) rfl ?_
      refine q_if_neP (tgt := 37) S0 dX11_firstFlat_28 (by decide) (fun c28 => ?_) (fun c28 => ?_)
      · skip
        refine lv_iload_n S0.1 S0.2.1 dX11_firstFlat_37 rfl (lv_at hl 0 rfl) ?_
        refine lv_aload_n S0.1 S0.2.1 dX11_firstFlat_38 rfl (lv_at hl 1 rfl) ?_
        refine q_get (C := RX11) (T := TX11) (N := 26) S0 hK hW.1 hinX11 0 rfl rfl 0 (by decide) (List.mem_of_getElem? (i := 1) rfl) rfl rfl dX11_firstFlat_39 ?_
        refine q_iconst S0 dX11_firstFlat_42 ?_
        refine q_iald S0 hK hW.1 1 rfl (by omega) dX11_firstFlat_43 ?_
        refine W.eq (g2 := F0 m 44 ls [.int (iI (Z 0)), .int (iI i)]) rfl ?_
        refine q_topI (b := fP F) (hz.1) ?_
        refine q_icmp_ge (tgt := 51) S0 (by omega) dX11_firstFlat_44 (by decide) (fun c44 => ?_) (fun c44 => ?_)
        · skip
          refine q_iconst S0 dX11_firstFlat_51 ?_
          exact q_iret S0 hr hlocks (Ka, ba) (hTB) (by first | (exfalso; omega) | (rw [← heq, show (fP F - i).toNat = 0 by omega]; rfl) | (refine congrArg (fun z => some (Value.int (iI z))) (?_ : _ = _); rw [← heq, show (fP F - i).toNat = (fP F - (i + 1)).toNat + 1 by omega]; exact ffu_hit c28)) (hW.sub [0, 1, 2, 3, 4, 5, 6, 7, 8, 9, 10] rfl (rfl)) (Nat.le_of_ble_eq_true rfl) (Nat.le_of_ble_eq_true rfl) dX11_firstFlat_52
        · skip
          refine lv_iload_n S0.1 S0.2.1 dX11_firstFlat_47 rfl (lv_at hl 0 rfl) ?_
          refine lv_goto (tgt := 52) S0.1 S0.2.1 dX11_firstFlat_48 (by decide) ?_
          exact q_iret S0 hr hlocks (Ka, ba) (hTB) (by first | (exfalso; omega) | (rw [← heq, show (fP F - i).toNat = 0 by omega]; rfl) | (refine congrArg (fun z => some (Value.int (iI z))) (?_ : _ = _); rw [← heq, show (fP F - i).toNat = (fP F - (i + 1)).toNat + 1 by omega]; exact ffu_hit c28)) (hW.sub [0, 1, 2, 3, 4, 5, 6, 7, 8, 9, 10] rfl (rfl)) (Nat.le_of_ble_eq_true rfl) (Nat.le_of_ble_eq_true rfl) dX11_firstFlat_52
      · skip
        refine q_iinc (lv' := [(2, .int (iI (i + 1))), (0, .ref mo), (1, .int (iI u))]) S0 dX11_firstFlat_31 hl (k := 0) rfl (by decide) rfl (fun ls hl => ?_)
        refine lv_goto (tgt := 12) S0.1 S0.2.1 dX11_firstFlat_34 (by decide) ?_
        exact IHl (i + 1) H locs ls (by refine ⟨by omega, by omega, ?_⟩; rw [← heq, show (fP F - i).toNat = (fP F - (i + 1)).toNat + 1 by omega]; symm; exact ffu_miss c28) (by (try dsimp only); omega) hW (lv_sub hl [0, 1, 2] rfl)
  · skip
    exact absurd c5 (by omega)
set_option maxHeartbeats 4000000 in
set_option maxRecDepth 100000 in
theorem c_X11_modulus (l : Launch) (g : GG) (mo az ap ak ax a1 a2 a3 a4 a5 a6 v1 v2 v3 v4 v5 v6 : Nat) (pm ik ty th mn wt bn wh dp dg : Int) (Z : Nat → Int) (F : FT) (hG : GF F) (hz : ZR Z F) : qMet l yX11_modulus wsX11_modulus ({ frames := 1, cells := 0, slots := 0, locals := 21 }) g [.ref mo] [(mo, .inr (11, [.ref az, .ref ap, .int (iI pm), .ref ak, .int (iI ik), .ref ax, .int (iI ty), .int (iI th), .ref a1, .ref a2, .int (iI mn), .ref a3, .int (iI wt), .ref a4, .ref a5, .ref a6, .ref v1, .ref v2, .ref v3, .ref v4, .ref v5, .ref v6, .int (iI bn), .int (iI wh), .int (iI dp), .int (iI dg)])), (az, gI g 325 Z)] (fun _ => True) (fun _ => True) (S := Unit) (fun _ => some (.int (iI (fP F)))) (fun _ => [(mo, .inr (11, [.ref az, .ref ap, .int (iI pm), .ref ak, .int (iI ik), .ref ax, .int (iI ty), .int (iI 0), .ref a1, .ref a2, .int (iI mn), .ref a3, .int (iI wt), .ref a4, .ref a5, .ref a6, .ref v1, .ref v2, .ref v3, .ref v4, .ref v5, .ref v6, .int (iI bn), .int (iI wh), .int (iI dp), .int (iI dg)])), (az, gI g 325 Z)]) (fun _ => True) 0 0 := by
  refine q_ofW (cc := cX11_modulus) (maxL := 1) (ret := (some .int)) (fun sz h => h.self) (by decide) rfl (Nat.le_of_ble_eq_true rfl) ?_
  intro p e s m args below meth c A ls S0 hr hlocks hnme hK hA hAe hW hD0 hX hl
  have hW : gW g A s.heap s.heap [] [(mo, .inr (11, [.ref az, .ref ap, .int (iI pm), .ref ak, .int (iI ik), .ref ax, .int (iI ty), .int (iI th), .ref a1, .ref a2, .int (iI mn), .ref a3, .int (iI wt), .ref a4, .ref a5, .ref a6, .ref v1, .ref v2, .ref v3, .ref v4, .ref v5, .ref v6, .int (iI bn), .int (iI wh), .int (iI dp), .int (iI dg)])), (az, gI g 325 Z)] := hW
  have hl : lv_has ls 1 [(0, .ref mo)] := hl
  have hinX11 : ∀ w ∈ wsX110, w ∈ wsX11_modulus := fun w h => List.mem_cons_of_mem _ (List.mem_append_right _ h)
  have hpr := GF_p hG
  refine lv_aload_n S0.1 S0.2.1 dX11_modulus_0 rfl (lv_at hl 0 rfl) ?_
  refine lv_aload_n S0.1 S0.2.1 dX11_modulus_1 rfl (lv_at hl 0 rfl) ?_
  refine q_get (C := RX11) (T := TX11) (N := 26) S0 hK hW.1 hinX11 0 rfl rfl 0 (by decide) (List.mem_of_getElem? (i := 1) rfl) rfl rfl dX11_modulus_2 ?_
  refine q_iconst S0 dX11_modulus_5 ?_
  refine q_iald S0 hK hW.1 1 rfl (by omega) dX11_modulus_6 ?_
  refine W.eq (g2 := F0 m 7 ls [.int (iI (Z 0)), .ref mo]) rfl ?_
  refine q_topI (b := fP F) (hz.1) ?_
  refine q_cV (n := 1) (rest := []) (wr := [(az, gI g 325 Z)]) S0 hK hA hW (c_X11_says l g mo az ap ak ax a1 a2 a3 a4 a5 a6 v1 v2 v3 v4 v5 v6 pm ik ty th mn wt bn wh dp dg (fP F)) gX11_modulus_X11_says rfl rfl rfl (by decide +kernel) ⟨Nat.le_of_ble_eq_true rfl, Nat.le_of_ble_eq_true rfl⟩ [0] [1] rfl rfl rfl rfl (by decide) (q_recv hK hW.1 (ci := 11) (q0 := 0) rfl rfl) (fun _ _ => trivial) (trivial) rfl rfl hl.1 (Nat.le_of_ble_eq_true rfl) ⟨Nat.le_of_ble_eq_true rfl, Nat.le_of_ble_eq_true rfl⟩ dX11_modulus_7 (fun _ H locs _ hW => ?_)
  have hW : gW g A s.heap H _ [(az, gI g 325 Z), (mo, .inr (11, [.ref az, .ref ap, .int (iI pm), .ref ak, .int (iI ik), .ref ax, .int (iI ty), .int (iI 0), .ref a1, .ref a2, .int (iI mn), .ref a3, .int (iI wt), .ref a4, .ref a5, .ref a6, .ref v1, .ref v2, .ref v3, .ref v4, .ref v5, .ref v6, .int (iI bn), .int (iI wh), .int (iI dp), .int (iI dg)]))] := hW
  refine W.eq (g2 := F0 m 10 ls [.int (iI (fP F))]) rfl ?_
  exact q_iret S0 hr hlocks () (trivial) (rfl) (hW.sub [1, 0] rfl (rfl)) (Nat.le_of_ble_eq_true rfl) (Nat.le_of_ble_eq_true rfl) dX11_modulus_10
set_option maxHeartbeats 4000000 in
set_option maxRecDepth 100000 in
theorem c_X11_nodesOf1 (l : Launch) (g : GG) (mo az ap ak ax a1 a2 a3 a4 a5 a6 v1 v2 v3 v4 v5 v6 : Nat) (pm ik ty th mn wt bn wh dp dg : Int) (u : Int) (hu : (u < 0 ∨ 3 < u) ∧ -2147483648 ≤ u ∧ u < 2147483648) : qMet l yX11_nodesOf wsX11_nodesOf ({ frames := 2, cells := 0, slots := 0, locals := 42 }) g [.ref mo, .int (iI u)] [(mo, .inr (11, [.ref az, .ref ap, .int (iI pm), .ref ak, .int (iI ik), .ref ax, .int (iI ty), .int (iI th), .ref a1, .ref a2, .int (iI mn), .ref a3, .int (iI wt), .ref a4, .ref a5, .ref a6, .ref v1, .ref v2, .ref v3, .ref v4, .ref v5, .ref v6, .int (iI bn), .int (iI wh), .int (iI dp), .int (iI dg)]))] (fun _ => True) (fun _ => True) (S := Unit) (fun _ => some (.int (iI 0))) (fun _ => [(mo, .inr (11, [.ref az, .ref ap, .int (iI pm), .ref ak, .int (iI ik), .ref ax, .int (iI ty), .int (iI 1), .ref a1, .ref a2, .int (iI mn), .ref a3, .int (iI wt), .ref a4, .ref a5, .ref a6, .ref v1, .ref v2, .ref v3, .ref v4, .ref v5, .ref v6, .int (iI bn), .int (iI wh), .int (iI dp), .int (iI dg)]))]) (fun _ => True) 0 0 := by
  refine q_ofW (cc := cX11_nodesOf) (maxL := 2) (ret := (some .int)) (fun sz h => h.self) (by decide) rfl (Nat.le_of_ble_eq_true rfl) ?_
  intro p e s m args below meth c A ls S0 hr hlocks hnme hK hA hAe hW hD0 hX hl
  have hW : gW g A s.heap s.heap [] [(mo, .inr (11, [.ref az, .ref ap, .int (iI pm), .ref ak, .int (iI ik), .ref ax, .int (iI ty), .int (iI th), .ref a1, .ref a2, .int (iI mn), .ref a3, .int (iI wt), .ref a4, .ref a5, .ref a6, .ref v1, .ref v2, .ref v3, .ref v4, .ref v5, .ref v6, .int (iI bn), .int (iI wh), .int (iI dp), .int (iI dg)]))] := hW
  have hl : lv_has ls 2 [(0, .ref mo), (1, .int (iI u))] := hl
  refine lv_aload_n S0.1 S0.2.1 dX11_nodesOf_0 rfl (lv_at hl 0 rfl) ?_
  refine lv_iload_n S0.1 S0.2.1 dX11_nodesOf_1 rfl (lv_at hl 1 rfl) ?_
  refine q_pS (n := 1) (rest := [.ref mo]) S0 hK (c_X11_isFunction l g u (by omega)) (subP hW.1 [] rfl) (trivial) gX11_nodesOf_X11_isFunction rfl rfl rfl (by decide +kernel) ⟨Nat.le_of_ble_eq_true rfl, Nat.le_of_ble_eq_true rfl⟩ rfl rfl hl.1 (Nat.le_of_ble_eq_true rfl) ⟨Nat.le_of_ble_eq_true rfl, Nat.le_of_ble_eq_true rfl⟩ dX11_nodesOf_2 ?_
  refine W.eq (g2 := F0 m 5 ls [.int (iI (if 0 ≤ u ∧ u ≤ 3 then (1 : Int) else 0)), .ref mo]) rfl ?_
  refine q_cV (n := 1) (rest := []) (wr := []) S0 hK hA hW (c_X11_asksN l g mo az ap ak ax a1 a2 a3 a4 a5 a6 v1 v2 v3 v4 v5 v6 pm ik ty th mn wt bn wh dp dg (0 ≤ u ∧ u ≤ 3) (by omega)) gX11_nodesOf_X11_asks rfl rfl rfl (by decide +kernel) ⟨Nat.le_of_ble_eq_true rfl, Nat.le_of_ble_eq_true rfl⟩ [0] [] rfl rfl rfl rfl (by decide) (q_recv hK hW.1 (ci := 11) (q0 := 0) rfl rfl) (fun _ _ => trivial) (trivial) rfl rfl hl.1 (Nat.le_of_ble_eq_true rfl) ⟨Nat.le_of_ble_eq_true rfl, Nat.le_of_ble_eq_true rfl⟩ dX11_nodesOf_5 (fun _ H locs _ hW => ?_)
  have hW : gW g A s.heap H _ [(mo, .inr (11, [.ref az, .ref ap, .int (iI pm), .ref ak, .int (iI ik), .ref ax, .int (iI ty), .int (iI 1), .ref a1, .ref a2, .int (iI mn), .ref a3, .int (iI wt), .ref a4, .ref a5, .ref a6, .ref v1, .ref v2, .ref v3, .ref v4, .ref v5, .ref v6, .int (iI bn), .int (iI wh), .int (iI dp), .int (iI dg)]))] := hW
  refine W.eq (g2 := F0 m 8 ls [.int (iI 0)]) rfl ?_
  refine q_if_eq (tgt := 19) S0 (by omega) dX11_nodesOf_8 (by decide) (fun c8 => ?_) (fun c8 => ?_)
  · skip
    refine q_iconst S0 dX11_nodesOf_19 ?_
    exact q_iret S0 hr hlocks () (trivial) (rfl) (hW.sub [0] rfl (rfl)) (Nat.le_of_ble_eq_true rfl) (Nat.le_of_ble_eq_true rfl) dX11_nodesOf_20
  · skip
    exact absurd c8 (by omega)
set_option maxHeartbeats 4000000 in
set_option maxRecDepth 100000 in
theorem c_X11_nodesOf0 (l : Launch) (g : GG) (mo az ap ak ax a1 a2 a3 a4 a5 a6 v1 v2 v3 v4 v5 v6 : Nat) (pm ik ty th mn wt bn wh dp dg : Int) (Z : Nat → Int) (F : FT) (u : Int) (hG : GF F) (hz : ZR Z F) (hu : 0 ≤ u ∧ u < 4) : qMet l yX11_nodesOf wsX11_nodesOf ({ frames := 2, cells := 0, slots := 0, locals := 42 }) g [.ref mo, .int (iI u)] [(mo, .inr (11, [.ref az, .ref ap, .int (iI pm), .ref ak, .int (iI ik), .ref ax, .int (iI ty), .int (iI th), .ref a1, .ref a2, .int (iI mn), .ref a3, .int (iI wt), .ref a4, .ref a5, .ref a6, .ref v1, .ref v2, .ref v3, .ref v4, .ref v5, .ref v6, .int (iI bn), .int (iI wh), .int (iI dp), .int (iI dg)])), (az, gI g 325 Z)] (fun _ => True) (fun _ => True) (S := Unit) (fun _ => some (.int (iI (((eN (fE F u.toNat) : Nat) : Int))))) (fun _ => [(mo, .inr (11, [.ref az, .ref ap, .int (iI pm), .ref ak, .int (iI ik), .ref ax, .int (iI ty), .int (iI 0), .ref a1, .ref a2, .int (iI mn), .ref a3, .int (iI wt), .ref a4, .ref a5, .ref a6, .ref v1, .ref v2, .ref v3, .ref v4, .ref v5, .ref v6, .int (iI bn), .int (iI wh), .int (iI dp), .int (iI dg)])), (az, gI g 325 Z)]) (fun _ => True) 0 0 := by
  refine q_ofW (cc := cX11_nodesOf) (maxL := 2) (ret := (some .int)) (fun sz h => h.self) (by decide) rfl (Nat.le_of_ble_eq_true rfl) ?_
  intro p e s m args below meth c A ls S0 hr hlocks hnme hK hA hAe hW hD0 hX hl
  have hW : gW g A s.heap s.heap [] [(mo, .inr (11, [.ref az, .ref ap, .int (iI pm), .ref ak, .int (iI ik), .ref ax, .int (iI ty), .int (iI th), .ref a1, .ref a2, .int (iI mn), .ref a3, .int (iI wt), .ref a4, .ref a5, .ref a6, .ref v1, .ref v2, .ref v3, .ref v4, .ref v5, .ref v6, .int (iI bn), .int (iI wh), .int (iI dp), .int (iI dg)])), (az, gI g 325 Z)] := hW
  have hl : lv_has ls 2 [(0, .ref mo), (1, .int (iI u))] := hl
  refine lv_aload_n S0.1 S0.2.1 dX11_nodesOf_0 rfl (lv_at hl 0 rfl) ?_
  refine lv_iload_n S0.1 S0.2.1 dX11_nodesOf_1 rfl (lv_at hl 1 rfl) ?_
  refine q_pS (n := 1) (rest := [.ref mo]) S0 hK (c_X11_isFunction l g u (by omega)) (subP hW.1 [] rfl) (trivial) gX11_nodesOf_X11_isFunction rfl rfl rfl (by decide +kernel) ⟨Nat.le_of_ble_eq_true rfl, Nat.le_of_ble_eq_true rfl⟩ rfl rfl hl.1 (Nat.le_of_ble_eq_true rfl) ⟨Nat.le_of_ble_eq_true rfl, Nat.le_of_ble_eq_true rfl⟩ dX11_nodesOf_2 ?_
  refine W.eq (g2 := F0 m 5 ls [.int (iI (if 0 ≤ u ∧ u ≤ 3 then (1 : Int) else 0)), .ref mo]) rfl ?_
  refine q_cV (n := 1) (rest := []) (wr := [(az, gI g 325 Z)]) S0 hK hA hW (c_X11_asksP l g mo az ap ak ax a1 a2 a3 a4 a5 a6 v1 v2 v3 v4 v5 v6 pm ik ty th mn wt bn wh dp dg (0 ≤ u ∧ u ≤ 3) (by omega)) gX11_nodesOf_X11_asks rfl rfl rfl (by decide +kernel) ⟨Nat.le_of_ble_eq_true rfl, Nat.le_of_ble_eq_true rfl⟩ [0] [1] rfl rfl rfl rfl (by decide) (q_recv hK hW.1 (ci := 11) (q0 := 0) rfl rfl) (fun _ _ => trivial) (trivial) rfl rfl hl.1 (Nat.le_of_ble_eq_true rfl) ⟨Nat.le_of_ble_eq_true rfl, Nat.le_of_ble_eq_true rfl⟩ dX11_nodesOf_5 (fun _ H locs _ hW => ?_)
  have hW : gW g A s.heap H _ [(az, gI g 325 Z), (mo, .inr (11, [.ref az, .ref ap, .int (iI pm), .ref ak, .int (iI ik), .ref ax, .int (iI ty), .int (iI 0), .ref a1, .ref a2, .int (iI mn), .ref a3, .int (iI wt), .ref a4, .ref a5, .ref a6, .ref v1, .ref v2, .ref v3, .ref v4, .ref v5, .ref v6, .int (iI bn), .int (iI wh), .int (iI dp), .int (iI dg)]))] := hW
  refine W.eq (g2 := F0 m 8 ls [.int (iI 1)]) rfl ?_
  refine q_if_eq (tgt := 19) S0 (by omega) dX11_nodesOf_8 (by decide) (fun c8 => ?_) (fun c8 => ?_)
  · skip
    exact absurd c8 (by omega)
  · skip
    refine lv_aload_n S0.1 S0.2.1 dX11_nodesOf_11 rfl (lv_at hl 0 rfl) ?_
    refine lv_iload_n S0.1 S0.2.1 dX11_nodesOf_12 rfl (lv_at hl 1 rfl) ?_
    refine q_pV (n := 1) (rest := []) S0 hK (c_X11_size l g mo az ap ak ax a1 a2 a3 a4 a5 a6 v1 v2 v3 v4 v5 v6 pm ik ty 0 mn wt bn wh dp dg Z u (hu)) (subP hW.1 [1, 0] rfl) (trivial) gX11_nodesOf_X11_size rfl rfl rfl (by decide +kernel) ⟨Nat.le_of_ble_eq_true rfl, Nat.le_of_ble_eq_true rfl⟩ (q_recv hK hW.1 (ci := 11) (q0 := 1) rfl rfl) rfl rfl hl.1 (Nat.le_of_ble_eq_true rfl) ⟨Nat.le_of_ble_eq_true rfl, Nat.le_of_ble_eq_true rfl⟩ dX11_nodesOf_13 ?_
    refine W.eq (g2 := F0 m 16 ls [.int (iI (Z (1 + 81 * u).toNat))]) rfl ?_
    refine q_topI (b := ((eN (fE F u.toNat) : Nat) : Int)) ((hz.2 u hu).1) ?_
    refine lv_goto (tgt := 20) S0.1 S0.2.1 dX11_nodesOf_16 (by decide) ?_
    exact q_iret S0 hr hlocks () (trivial) (rfl) (hW.sub [1, 0] rfl (rfl)) (Nat.le_of_ble_eq_true rfl) (Nat.le_of_ble_eq_true rfl) dX11_nodesOf_20
set_option maxHeartbeats 4000000 in
set_option maxRecDepth 100000 in
theorem c_X11_unlikeNodesOf1 (l : Launch) (g : GG) (mo az ap ak ax a1 a2 a3 a4 a5 a6 v1 v2 v3 v4 v5 v6 : Nat) (pm ik ty th mn wt bn wh dp dg : Int) (u : Int) (hu : (u < 0 ∨ 3 < u) ∧ -2147483648 ≤ u ∧ u < 2147483648) : qMet l yX11_unlikeNodesOf wsX11_unlikeNodesOf ({ frames := 2, cells := 0, slots := 0, locals := 42 }) g [.ref mo, .int (iI u)] [(mo, .inr (11, [.ref az, .ref ap, .int (iI pm), .ref ak, .int (iI ik), .ref ax, .int (iI ty), .int (iI th), .ref a1, .ref a2, .int (iI mn), .ref a3, .int (iI wt), .ref a4, .ref a5, .ref a6, .ref v1, .ref v2, .ref v3, .ref v4, .ref v5, .ref v6, .int (iI bn), .int (iI wh), .int (iI dp), .int (iI dg)]))] (fun _ => True) (fun _ => True) (S := Unit) (fun _ => some (.int (iI 0))) (fun _ => [(mo, .inr (11, [.ref az, .ref ap, .int (iI pm), .ref ak, .int (iI ik), .ref ax, .int (iI ty), .int (iI 1), .ref a1, .ref a2, .int (iI mn), .ref a3, .int (iI wt), .ref a4, .ref a5, .ref a6, .ref v1, .ref v2, .ref v3, .ref v4, .ref v5, .ref v6, .int (iI bn), .int (iI wh), .int (iI dp), .int (iI dg)]))]) (fun _ => True) 0 0 := by
  refine q_ofW (cc := cX11_unlikeNodesOf) (maxL := 2) (ret := (some .int)) (fun sz h => h.self) (by decide) rfl (Nat.le_of_ble_eq_true rfl) ?_
  intro p e s m args below meth c A ls S0 hr hlocks hnme hK hA hAe hW hD0 hX hl
  have hW : gW g A s.heap s.heap [] [(mo, .inr (11, [.ref az, .ref ap, .int (iI pm), .ref ak, .int (iI ik), .ref ax, .int (iI ty), .int (iI th), .ref a1, .ref a2, .int (iI mn), .ref a3, .int (iI wt), .ref a4, .ref a5, .ref a6, .ref v1, .ref v2, .ref v3, .ref v4, .ref v5, .ref v6, .int (iI bn), .int (iI wh), .int (iI dp), .int (iI dg)]))] := hW
  have hl : lv_has ls 2 [(0, .ref mo), (1, .int (iI u))] := hl
  refine lv_aload_n S0.1 S0.2.1 dX11_unlikeNodesOf_0 rfl (lv_at hl 0 rfl) ?_
  refine lv_iload_n S0.1 S0.2.1 dX11_unlikeNodesOf_1 rfl (lv_at hl 1 rfl) ?_
  refine q_pS (n := 1) (rest := [.ref mo]) S0 hK (c_X11_isFunction l g u (by omega)) (subP hW.1 [] rfl) (trivial) gX11_unlikeNodesOf_X11_isFunction rfl rfl rfl (by decide +kernel) ⟨Nat.le_of_ble_eq_true rfl, Nat.le_of_ble_eq_true rfl⟩ rfl rfl hl.1 (Nat.le_of_ble_eq_true rfl) ⟨Nat.le_of_ble_eq_true rfl, Nat.le_of_ble_eq_true rfl⟩ dX11_unlikeNodesOf_2 ?_
  refine W.eq (g2 := F0 m 5 ls [.int (iI (if 0 ≤ u ∧ u ≤ 3 then (1 : Int) else 0)), .ref mo]) rfl ?_
  refine q_cV (n := 1) (rest := []) (wr := []) S0 hK hA hW (c_X11_asksN l g mo az ap ak ax a1 a2 a3 a4 a5 a6 v1 v2 v3 v4 v5 v6 pm ik ty th mn wt bn wh dp dg (0 ≤ u ∧ u ≤ 3) (by omega)) gX11_unlikeNodesOf_X11_asks rfl rfl rfl (by decide +kernel) ⟨Nat.le_of_ble_eq_true rfl, Nat.le_of_ble_eq_true rfl⟩ [0] [] rfl rfl rfl rfl (by decide) (q_recv hK hW.1 (ci := 11) (q0 := 0) rfl rfl) (fun _ _ => trivial) (trivial) rfl rfl hl.1 (Nat.le_of_ble_eq_true rfl) ⟨Nat.le_of_ble_eq_true rfl, Nat.le_of_ble_eq_true rfl⟩ dX11_unlikeNodesOf_5 (fun _ H locs _ hW => ?_)
  have hW : gW g A s.heap H _ [(mo, .inr (11, [.ref az, .ref ap, .int (iI pm), .ref ak, .int (iI ik), .ref ax, .int (iI ty), .int (iI 1), .ref a1, .ref a2, .int (iI mn), .ref a3, .int (iI wt), .ref a4, .ref a5, .ref a6, .ref v1, .ref v2, .ref v3, .ref v4, .ref v5, .ref v6, .int (iI bn), .int (iI wh), .int (iI dp), .int (iI dg)]))] := hW
  refine W.eq (g2 := F0 m 8 ls [.int (iI 0)]) rfl ?_
  refine q_if_eq (tgt := 19) S0 (by omega) dX11_unlikeNodesOf_8 (by decide) (fun c8 => ?_) (fun c8 => ?_)
  · skip
    refine q_iconst S0 dX11_unlikeNodesOf_19 ?_
    exact q_iret S0 hr hlocks () (trivial) (rfl) (hW.sub [0] rfl (rfl)) (Nat.le_of_ble_eq_true rfl) (Nat.le_of_ble_eq_true rfl) dX11_unlikeNodesOf_20
  · skip
    exact absurd c8 (by omega)
set_option maxHeartbeats 4000000 in
set_option maxRecDepth 100000 in
theorem c_X11_unlikeNodesOf0 (l : Launch) (g : GG) (mo az ap ak ax a1 a2 a3 a4 a5 a6 v1 v2 v3 v4 v5 v6 : Nat) (pm ik ty th mn wt bn wh dp dg : Int) (Z : Nat → Int) (F : FT) (L V T Sh0 : Nat → Int) (u : Int) (hG : GF F) (hz : ZR Z F) (hlk : LKG F) (hu : 0 ≤ u ∧ u < 4) : qMet l yX11_unlikeNodesOf wsX11_unlikeNodesOf ({ frames := 3, cells := 0, slots := 0, locals := 73 }) g [.ref mo, .int (iI u)] [(mo, .inr (11, [.ref az, .ref ap, .int (iI pm), .ref ak, .int (iI ik), .ref ax, .int (iI ty), .int (iI th), .ref a1, .ref a2, .int (iI mn), .ref a3, .int (iI wt), .ref a4, .ref a5, .ref a6, .ref v1, .ref v2, .ref v3, .ref v4, .ref v5, .ref v6, .int (iI bn), .int (iI wh), .int (iI dp), .int (iI dg)])), (az, gI g 325 Z), (v3, gI g 41 L), (v4, gI g 41 V), (v6, gI g 41 T), (v5, gI g 41 Sh0)] (fun _ => True) (fun _ => True) (S := (Nat → Int) × (Nat → Int) × (Nat → Int) × (Nat → Int)) (fun u_ => some (.int (iI (nus (fE F u.toNat) (eN (fE F u.toNat)))))) (fun u_ => [(mo, .inr (11, [.ref az, .ref ap, .int (iI pm), .ref ak, .int (iI ik), .ref ax, .int (iI ty), .int (iI 0), .ref a1, .ref a2, .int (iI mn), .ref a3, .int (iI wt), .ref a4, .ref a5, .ref a6, .ref v1, .ref v2, .ref v3, .ref v4, .ref v5, .ref v6, .int (iI bn), .int (iI wh), .int (iI dp), .int (iI dg)])), (az, gI g 325 Z), (v3, gI g 41 u_.1), (v4, gI g 41 u_.2.1), (v6, gI g 41 u_.2.2.1), (v5, gI g 41 u_.2.2.2)]) (fun _ => True) 0 0 := by
  refine q_ofW (cc := cX11_unlikeNodesOf) (maxL := 2) (ret := (some .int)) (fun sz h => h.self) (by decide) rfl (Nat.le_of_ble_eq_true rfl) ?_
  intro p e s m args below meth c A ls S0 hr hlocks hnme hK hA hAe hW hD0 hX hl
  have hW : gW g A s.heap s.heap [] [(mo, .inr (11, [.ref az, .ref ap, .int (iI pm), .ref ak, .int (iI ik), .ref ax, .int (iI ty), .int (iI th), .ref a1, .ref a2, .int (iI mn), .ref a3, .int (iI wt), .ref a4, .ref a5, .ref a6, .ref v1, .ref v2, .ref v3, .ref v4, .ref v5, .ref v6, .int (iI bn), .int (iI wh), .int (iI dp), .int (iI dg)])), (az, gI g 325 Z), (v3, gI g 41 L), (v4, gI g 41 V), (v6, gI g 41 T), (v5, gI g 41 Sh0)] := hW
  have hl : lv_has ls 2 [(0, .ref mo), (1, .int (iI u))] := hl
  refine lv_aload_n S0.1 S0.2.1 dX11_unlikeNodesOf_0 rfl (lv_at hl 0 rfl) ?_
  refine lv_iload_n S0.1 S0.2.1 dX11_unlikeNodesOf_1 rfl (lv_at hl 1 rfl) ?_
  refine q_pS (n := 1) (rest := [.ref mo]) S0 hK (c_X11_isFunction l g u (by omega)) (subP hW.1 [] rfl) (trivial) gX11_unlikeNodesOf_X11_isFunction rfl rfl rfl (by decide +kernel) ⟨Nat.le_of_ble_eq_true rfl, Nat.le_of_ble_eq_true rfl⟩ rfl rfl hl.1 (Nat.le_of_ble_eq_true rfl) ⟨Nat.le_of_ble_eq_true rfl, Nat.le_of_ble_eq_true rfl⟩ dX11_unlikeNodesOf_2 ?_
  refine W.eq (g2 := F0 m 5 ls [.int (iI (if 0 ≤ u ∧ u ≤ 3 then (1 : Int) else 0)), .ref mo]) rfl ?_
  refine q_cV (n := 1) (rest := []) (wr := [(az, gI g 325 Z), (v3, gI g 41 L), (v4, gI g 41 V), (v6, gI g 41 T), (v5, gI g 41 Sh0)]) S0 hK hA hW (c_X11_asksP l g mo az ap ak ax a1 a2 a3 a4 a5 a6 v1 v2 v3 v4 v5 v6 pm ik ty th mn wt bn wh dp dg (0 ≤ u ∧ u ≤ 3) (by omega)) gX11_unlikeNodesOf_X11_asks rfl rfl rfl (by decide +kernel) ⟨Nat.le_of_ble_eq_true rfl, Nat.le_of_ble_eq_true rfl⟩ [0] [1, 2, 3, 4, 5] rfl rfl rfl rfl (by decide) (q_recv hK hW.1 (ci := 11) (q0 := 0) rfl rfl) (fun _ _ => trivial) (trivial) rfl rfl hl.1 (Nat.le_of_ble_eq_true rfl) ⟨Nat.le_of_ble_eq_true rfl, Nat.le_of_ble_eq_true rfl⟩ dX11_unlikeNodesOf_5 (fun _ H locs _ hW => ?_)
  have hW : gW g A s.heap H _ [(az, gI g 325 Z), (v3, gI g 41 L), (v4, gI g 41 V), (v6, gI g 41 T), (v5, gI g 41 Sh0), (mo, .inr (11, [.ref az, .ref ap, .int (iI pm), .ref ak, .int (iI ik), .ref ax, .int (iI ty), .int (iI 0), .ref a1, .ref a2, .int (iI mn), .ref a3, .int (iI wt), .ref a4, .ref a5, .ref a6, .ref v1, .ref v2, .ref v3, .ref v4, .ref v5, .ref v6, .int (iI bn), .int (iI wh), .int (iI dp), .int (iI dg)]))] := hW
  refine W.eq (g2 := F0 m 8 ls [.int (iI 1)]) rfl ?_
  refine q_if_eq (tgt := 19) S0 (by omega) dX11_unlikeNodesOf_8 (by decide) (fun c8 => ?_) (fun c8 => ?_)
  · skip
    exact absurd c8 (by omega)
  · skip
    refine lv_aload_n S0.1 S0.2.1 dX11_unlikeNodesOf_11 rfl (lv_at hl 0 rfl) ?_
    refine lv_iload_n S0.1 S0.2.1 dX11_unlikeNodesOf_12 rfl (lv_at hl 1 rfl) ?_
    refine q_cV (n := 1) (rest := []) (wr := []) S0 hK hA hW (c_X11_unlike l g mo az ap ak ax a1 a2 a3 a4 a5 a6 v1 v2 v3 v4 v5 v6 pm ik ty 0 mn wt bn wh dp dg Z F L V T Sh0 u (hG) (hz) (hlk) (hu)) gX11_unlikeNodesOf_X11_unlike rfl rfl rfl (by decide +kernel) ⟨Nat.le_of_ble_eq_true rfl, Nat.le_of_ble_eq_true rfl⟩ [5, 0, 1, 2, 3, 4] [] rfl rfl rfl rfl (by decide) (q_recv hK hW.1 (ci := 11) (q0 := 5) rfl rfl) (fun _ _ => trivial) (trivial) rfl rfl hl.1 (Nat.le_of_ble_eq_true rfl) ⟨Nat.le_of_ble_eq_true rfl, Nat.le_of_ble_eq_true rfl⟩ dX11_unlikeNodesOf_13 ?_
    rintro ⟨L1, V1, T1, H1⟩ H locs hp hW
    try dsimp only at hp
    have hW : gW g A s.heap H _ [(mo, .inr (11, [.ref az, .ref ap, .int (iI pm), .ref ak, .int (iI ik), .ref ax, .int (iI ty), .int (iI 0), .ref a1, .ref a2, .int (iI mn), .ref a3, .int (iI wt), .ref a4, .ref a5, .ref a6, .ref v1, .ref v2, .ref v3, .ref v4, .ref v5, .ref v6, .int (iI bn), .int (iI wh), .int (iI dp), .int (iI dg)])), (az, gI g 325 Z), (v3, gI g 41 L1), (v4, gI g 41 V1), (v6, gI g 41 T1), (v5, gI g 41 H1)] := hW
    refine W.eq (g2 := F0 m 16 ls [.int (iI (nus (fE F u.toNat) (eN (fE F u.toNat))))]) rfl ?_
    refine lv_goto (tgt := 20) S0.1 S0.2.1 dX11_unlikeNodesOf_16 (by decide) ?_
    exact q_iret S0 hr hlocks (L1, V1, T1, H1) (trivial) (rfl) (hW.sub [0, 1, 2, 3, 4, 5] rfl (rfl)) (Nat.le_of_ble_eq_true rfl) (Nat.le_of_ble_eq_true rfl) dX11_unlikeNodesOf_20
set_option maxHeartbeats 4000000 in
set_option maxRecDepth 100000 in
theorem c_X11_depthOf1 (l : Launch) (g : GG) (mo az ap ak ax a1 a2 a3 a4 a5 a6 v1 v2 v3 v4 v5 v6 : Nat) (pm ik ty th mn wt bn wh dp dg : Int) (u : Int) (hu : (u < 0 ∨ 3 < u) ∧ -2147483648 ≤ u ∧ u < 2147483648) : qMet l yX11_depthOf wsX11_depthOf ({ frames := 2, cells := 0, slots := 0, locals := 42 }) g [.ref mo, .int (iI u)] [(mo, .inr (11, [.ref az, .ref ap, .int (iI pm), .ref ak, .int (iI ik), .ref ax, .int (iI ty), .int (iI th), .ref a1, .ref a2, .int (iI mn), .ref a3, .int (iI wt), .ref a4, .ref a5, .ref a6, .ref v1, .ref v2, .ref v3, .ref v4, .ref v5, .ref v6, .int (iI bn), .int (iI wh), .int (iI dp), .int (iI dg)]))] (fun _ => True) (fun _ => True) (S := Unit) (fun _ => some (.int (iI 0))) (fun _ => [(mo, .inr (11, [.ref az, .ref ap, .int (iI pm), .ref ak, .int (iI ik), .ref ax, .int (iI ty), .int (iI 1), .ref a1, .ref a2, .int (iI mn), .ref a3, .int (iI wt), .ref a4, .ref a5, .ref a6, .ref v1, .ref v2, .ref v3, .ref v4, .ref v5, .ref v6, .int (iI bn), .int (iI wh), .int (iI dp), .int (iI dg)]))]) (fun _ => True) 0 0 := by
  refine q_ofW (cc := cX11_depthOf) (maxL := 2) (ret := (some .int)) (fun sz h => h.self) (by decide) rfl (Nat.le_of_ble_eq_true rfl) ?_
  intro p e s m args below meth c A ls S0 hr hlocks hnme hK hA hAe hW hD0 hX hl
  have hW : gW g A s.heap s.heap [] [(mo, .inr (11, [.ref az, .ref ap, .int (iI pm), .ref ak, .int (iI ik), .ref ax, .int (iI ty), .int (iI th), .ref a1, .ref a2, .int (iI mn), .ref a3, .int (iI wt), .ref a4, .ref a5, .ref a6, .ref v1, .ref v2, .ref v3, .ref v4, .ref v5, .ref v6, .int (iI bn), .int (iI wh), .int (iI dp), .int (iI dg)]))] := hW
  have hl : lv_has ls 2 [(0, .ref mo), (1, .int (iI u))] := hl
  refine lv_aload_n S0.1 S0.2.1 dX11_depthOf_0 rfl (lv_at hl 0 rfl) ?_
  refine lv_iload_n S0.1 S0.2.1 dX11_depthOf_1 rfl (lv_at hl 1 rfl) ?_
  refine q_pS (n := 1) (rest := [.ref mo]) S0 hK (c_X11_isFunction l g u (by omega)) (subP hW.1 [] rfl) (trivial) gX11_depthOf_X11_isFunction rfl rfl rfl (by decide +kernel) ⟨Nat.le_of_ble_eq_true rfl, Nat.le_of_ble_eq_true rfl⟩ rfl rfl hl.1 (Nat.le_of_ble_eq_true rfl) ⟨Nat.le_of_ble_eq_true rfl, Nat.le_of_ble_eq_true rfl⟩ dX11_depthOf_2 ?_
  refine W.eq (g2 := F0 m 5 ls [.int (iI (if 0 ≤ u ∧ u ≤ 3 then (1 : Int) else 0)), .ref mo]) rfl ?_
  refine q_cV (n := 1) (rest := []) (wr := []) S0 hK hA hW (c_X11_asksN l g mo az ap ak ax a1 a2 a3 a4 a5 a6 v1 v2 v3 v4 v5 v6 pm ik ty th mn wt bn wh dp dg (0 ≤ u ∧ u ≤ 3) (by omega)) gX11_depthOf_X11_asks rfl rfl rfl (by decide +kernel) ⟨Nat.le_of_ble_eq_true rfl, Nat.le_of_ble_eq_true rfl⟩ [0] [] rfl rfl rfl rfl (by decide) (q_recv hK hW.1 (ci := 11) (q0 := 0) rfl rfl) (fun _ _ => trivial) (trivial) rfl rfl hl.1 (Nat.le_of_ble_eq_true rfl) ⟨Nat.le_of_ble_eq_true rfl, Nat.le_of_ble_eq_true rfl⟩ dX11_depthOf_5 (fun _ H locs _ hW => ?_)
  have hW : gW g A s.heap H _ [(mo, .inr (11, [.ref az, .ref ap, .int (iI pm), .ref ak, .int (iI ik), .ref ax, .int (iI ty), .int (iI 1), .ref a1, .ref a2, .int (iI mn), .ref a3, .int (iI wt), .ref a4, .ref a5, .ref a6, .ref v1, .ref v2, .ref v3, .ref v4, .ref v5, .ref v6, .int (iI bn), .int (iI wh), .int (iI dp), .int (iI dg)]))] := hW
  refine W.eq (g2 := F0 m 8 ls [.int (iI 0)]) rfl ?_
  refine q_if_eq (tgt := 19) S0 (by omega) dX11_depthOf_8 (by decide) (fun c8 => ?_) (fun c8 => ?_)
  · skip
    refine q_iconst S0 dX11_depthOf_19 ?_
    exact q_iret S0 hr hlocks () (trivial) (rfl) (hW.sub [0] rfl (rfl)) (Nat.le_of_ble_eq_true rfl) (Nat.le_of_ble_eq_true rfl) dX11_depthOf_20
  · skip
    exact absurd c8 (by omega)
set_option maxHeartbeats 4000000 in
set_option maxRecDepth 100000 in
theorem c_X11_depthOf0 (l : Launch) (g : GG) (mo az ap ak ax a1 a2 a3 a4 a5 a6 v1 v2 v3 v4 v5 v6 : Nat) (pm ik ty th mn wt bn wh dp dg : Int) (Z : Nat → Int) (F : FT) (L V T Sh0 : Nat → Int) (u : Int) (hG : GF F) (hz : ZR Z F) (hlk : LKG F) (hu : 0 ≤ u ∧ u < 4) : qMet l yX11_depthOf wsX11_depthOf ({ frames := 3, cells := 0, slots := 0, locals := 73 }) g [.ref mo, .int (iI u)] [(mo, .inr (11, [.ref az, .ref ap, .int (iI pm), .ref ak, .int (iI ik), .ref ax, .int (iI ty), .int (iI th), .ref a1, .ref a2, .int (iI mn), .ref a3, .int (iI wt), .ref a4, .ref a5, .ref a6, .ref v1, .ref v2, .ref v3, .ref v4, .ref v5, .ref v6, .int (iI bn), .int (iI wh), .int (iI dp), .int (iI dg)])), (az, gI g 325 Z), (v3, gI g 41 L), (v4, gI g 41 V), (v6, gI g 41 T), (v5, gI g 41 Sh0)] (fun _ => True) (fun _ => True) (S := (Nat → Int) × (Nat → Int) × (Nat → Int) × (Nat → Int)) (fun u_ => some (.int (iI (mxs (fE F u.toNat) (eN (fE F u.toNat)))))) (fun u_ => [(mo, .inr (11, [.ref az, .ref ap, .int (iI pm), .ref ak, .int (iI ik), .ref ax, .int (iI ty), .int (iI 0), .ref a1, .ref a2, .int (iI mn), .ref a3, .int (iI wt), .ref a4, .ref a5, .ref a6, .ref v1, .ref v2, .ref v3, .ref v4, .ref v5, .ref v6, .int (iI bn), .int (iI wh), .int (iI dp), .int (iI dg)])), (az, gI g 325 Z), (v3, gI g 41 u_.1), (v4, gI g 41 u_.2.1), (v6, gI g 41 u_.2.2.1), (v5, gI g 41 u_.2.2.2)]) (fun _ => True) 0 0 := by
  refine q_ofW (cc := cX11_depthOf) (maxL := 2) (ret := (some .int)) (fun sz h => h.self) (by decide) rfl (Nat.le_of_ble_eq_true rfl) ?_
  intro p e s m args below meth c A ls S0 hr hlocks hnme hK hA hAe hW hD0 hX hl
  have hW : gW g A s.heap s.heap [] [(mo, .inr (11, [.ref az, .ref ap, .int (iI pm), .ref ak, .int (iI ik), .ref ax, .int (iI ty), .int (iI th), .ref a1, .ref a2, .int (iI mn), .ref a3, .int (iI wt), .ref a4, .ref a5, .ref a6, .ref v1, .ref v2, .ref v3, .ref v4, .ref v5, .ref v6, .int (iI bn), .int (iI wh), .int (iI dp), .int (iI dg)])), (az, gI g 325 Z), (v3, gI g 41 L), (v4, gI g 41 V), (v6, gI g 41 T), (v5, gI g 41 Sh0)] := hW
  have hl : lv_has ls 2 [(0, .ref mo), (1, .int (iI u))] := hl
  refine lv_aload_n S0.1 S0.2.1 dX11_depthOf_0 rfl (lv_at hl 0 rfl) ?_
  refine lv_iload_n S0.1 S0.2.1 dX11_depthOf_1 rfl (lv_at hl 1 rfl) ?_
  refine q_pS (n := 1) (rest := [.ref mo]) S0 hK (c_X11_isFunction l g u (by omega)) (subP hW.1 [] rfl) (trivial) gX11_depthOf_X11_isFunction rfl rfl rfl (by decide +kernel) ⟨Nat.le_of_ble_eq_true rfl, Nat.le_of_ble_eq_true rfl⟩ rfl rfl hl.1 (Nat.le_of_ble_eq_true rfl) ⟨Nat.le_of_ble_eq_true rfl, Nat.le_of_ble_eq_true rfl⟩ dX11_depthOf_2 ?_
  refine W.eq (g2 := F0 m 5 ls [.int (iI (if 0 ≤ u ∧ u ≤ 3 then (1 : Int) else 0)), .ref mo]) rfl ?_
  refine q_cV (n := 1) (rest := []) (wr := [(az, gI g 325 Z), (v3, gI g 41 L), (v4, gI g 41 V), (v6, gI g 41 T), (v5, gI g 41 Sh0)]) S0 hK hA hW (c_X11_asksP l g mo az ap ak ax a1 a2 a3 a4 a5 a6 v1 v2 v3 v4 v5 v6 pm ik ty th mn wt bn wh dp dg (0 ≤ u ∧ u ≤ 3) (by omega)) gX11_depthOf_X11_asks rfl rfl rfl (by decide +kernel) ⟨Nat.le_of_ble_eq_true rfl, Nat.le_of_ble_eq_true rfl⟩ [0] [1, 2, 3, 4, 5] rfl rfl rfl rfl (by decide) (q_recv hK hW.1 (ci := 11) (q0 := 0) rfl rfl) (fun _ _ => trivial) (trivial) rfl rfl hl.1 (Nat.le_of_ble_eq_true rfl) ⟨Nat.le_of_ble_eq_true rfl, Nat.le_of_ble_eq_true rfl⟩ dX11_depthOf_5 (fun _ H locs _ hW => ?_)
  have hW : gW g A s.heap H _ [(az, gI g 325 Z), (v3, gI g 41 L), (v4, gI g 41 V), (v6, gI g 41 T), (v5, gI g 41 Sh0), (mo, .inr (11, [.ref az, .ref ap, .int (iI pm), .ref ak, .int (iI ik), .ref ax, .int (iI ty), .int (iI 0), .ref a1, .ref a2, .int (iI mn), .ref a3, .int (iI wt), .ref a4, .ref a5, .ref a6, .ref v1, .ref v2, .ref v3, .ref v4, .ref v5, .ref v6, .int (iI bn), .int (iI wh), .int (iI dp), .int (iI dg)]))] := hW
  refine W.eq (g2 := F0 m 8 ls [.int (iI 1)]) rfl ?_
  refine q_if_eq (tgt := 19) S0 (by omega) dX11_depthOf_8 (by decide) (fun c8 => ?_) (fun c8 => ?_)
  · skip
    exact absurd c8 (by omega)
  · skip
    refine lv_aload_n S0.1 S0.2.1 dX11_depthOf_11 rfl (lv_at hl 0 rfl) ?_
    refine lv_iload_n S0.1 S0.2.1 dX11_depthOf_12 rfl (lv_at hl 1 rfl) ?_
    refine q_cV (n := 1) (rest := []) (wr := []) S0 hK hA hW (c_X11_deep l g mo az ap ak ax a1 a2 a3 a4 a5 a6 v1 v2 v3 v4 v5 v6 pm ik ty 0 mn wt bn wh dp dg Z F L V T Sh0 u (hG) (hz) (hlk) (hu)) gX11_depthOf_X11_deep rfl rfl rfl (by decide +kernel) ⟨Nat.le_of_ble_eq_true rfl, Nat.le_of_ble_eq_true rfl⟩ [5, 0, 1, 2, 3, 4] [] rfl rfl rfl rfl (by decide) (q_recv hK hW.1 (ci := 11) (q0 := 5) rfl rfl) (fun _ _ => trivial) (trivial) rfl rfl hl.1 (Nat.le_of_ble_eq_true rfl) ⟨Nat.le_of_ble_eq_true rfl, Nat.le_of_ble_eq_true rfl⟩ dX11_depthOf_13 ?_
    rintro ⟨L1, V1, T1, H1⟩ H locs hp hW
    try dsimp only at hp
    have hW : gW g A s.heap H _ [(mo, .inr (11, [.ref az, .ref ap, .int (iI pm), .ref ak, .int (iI ik), .ref ax, .int (iI ty), .int (iI 0), .ref a1, .ref a2, .int (iI mn), .ref a3, .int (iI wt), .ref a4, .ref a5, .ref a6, .ref v1, .ref v2, .ref v3, .ref v4, .ref v5, .ref v6, .int (iI bn), .int (iI wh), .int (iI dp), .int (iI dg)])), (az, gI g 325 Z), (v3, gI g 41 L1), (v4, gI g 41 V1), (v6, gI g 41 T1), (v5, gI g 41 H1)] := hW
    refine W.eq (g2 := F0 m 16 ls [.int (iI (mxs (fE F u.toNat) (eN (fE F u.toNat))))]) rfl ?_
    refine lv_goto (tgt := 20) S0.1 S0.2.1 dX11_depthOf_16 (by decide) ?_
    exact q_iret S0 hr hlocks (L1, V1, T1, H1) (trivial) (rfl) (hW.sub [0, 1, 2, 3, 4, 5] rfl (rfl)) (Nat.le_of_ble_eq_true rfl) (Nat.le_of_ble_eq_true rfl) dX11_depthOf_20
