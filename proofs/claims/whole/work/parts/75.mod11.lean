set_option maxHeartbeats 4000000 in
set_option maxRecDepth 100000 in
theorem c_X11_knows (l : Launch) (g : GG) (mo az ap ak ax a1 a2 a3 a4 a5 a6 v1 v2 v3 v4 v5 v6 : Nat) (pm ik ty th mn wt bn wh dp dg : Int) (Z : Nat → Int) (F : FT) (K : KT) (u : Int) (hG : GF F) (hz : ZR Z F) (hlk : LKG F) (hu : 0 ≤ u ∧ u < 4) : qMet l yX11_knows wsX11_knows ({ frames := 4, cells := 0, slots := 0, locals := 99 }) g [.ref mo, .int (iI u)] [(mo, .inr (11, [.ref az, .ref ap, .int (iI pm), .ref ak, .int (iI ik), .ref ax, .int (iI ty), .int (iI th), .ref a1, .ref a2, .int (iI mn), .ref a3, .int (iI wt), .ref a4, .ref a5, .ref a6, .ref v1, .ref v2, .ref v3, .ref v4, .ref v5, .ref v6, .int (iI bn), .int (iI wh), .int (iI dp), .int (iI dg)])), (az, gI g 325 Z), (a4, gI g 796 (kV K)), (a5, gI g 796 (kH K)), (a6, gI g 796 (kR K)), (v1, gI g 41 (kW K)), (v2, gI g 41 (kS K)), (v3, gI g 41 (kL K)), (v4, gI g 41 (kE K)), (v5, gI g 41 (kX K)), (v6, gI g 41 (kT K))] (fun _ => True) (fun _ => True) (S := KT × Int) (fun _ => none) (fun u_ => [(mo, .inr (11, [.ref az, .ref ap, .int (iI pm), .ref ak, .int (iI ik), .ref ax, .int (iI ty), .int (iI th), .ref a1, .ref a2, .int (iI mn), .ref a3, .int (iI wt), .ref a4, .ref a5, .ref a6, .ref v1, .ref v2, .ref v3, .ref v4, .ref v5, .ref v6, .int (iI u_.2), .int (iI wh), .int (iI dp), .int (iI dg)])), (az, gI g 325 Z), (a4, gI g 796 (kV u_.1)), (a5, gI g 796 (kH u_.1)), (a6, gI g 796 (kR u_.1)), (v1, gI g 41 (kW u_.1)), (v2, gI g 41 (kS u_.1)), (v3, gI g 41 (kL u_.1)), (v4, gI g 41 (kE u_.1)), (v5, gI g 41 (kX u_.1)), (v6, gI g 41 (kT u_.1))]) (fun u_ => TB F (u + 1) (kV u_.1) (kH u_.1) (kR u_.1)) 0 0 := by
  refine q_ofW (cc := cX11_knows) (maxL := 5) (ret := none) (fun sz h => h.self) (by decide) rfl (Nat.le_of_ble_eq_true rfl) ?_
  intro p e s m args below meth c A ls S0 hr hlocks hnme hK hA hAe hW hD0 hX hl
  have hW : gW g A s.heap s.heap [] [(mo, .inr (11, [.ref az, .ref ap, .int (iI pm), .ref ak, .int (iI ik), .ref ax, .int (iI ty), .int (iI th), .ref a1, .ref a2, .int (iI mn), .ref a3, .int (iI wt), .ref a4, .ref a5, .ref a6, .ref v1, .ref v2, .ref v3, .ref v4, .ref v5, .ref v6, .int (iI bn), .int (iI wh), .int (iI dp), .int (iI dg)])), (az, gI g 325 Z), (a4, gI g 796 (kV K)), (a5, gI g 796 (kH K)), (a6, gI g 796 (kR K)), (v1, gI g 41 (kW K)), (v2, gI g 41 (kS K)), (v3, gI g 41 (kL K)), (v4, gI g 41 (kE K)), (v5, gI g 41 (kX K)), (v6, gI g 41 (kT K))] := hW
  have hl : lv_has ls 5 [(0, .ref mo), (1, .int (iI u))] := hl
  have hinX11 : ∀ w ∈ wsX110, w ∈ wsX11_knows := fun w h => List.mem_cons_of_mem _ (List.mem_append_right _ h)
  have hpr := GF_p hG
  refine q_iconst S0 dX11_knows_0 ?_
  refine lv_istore_n (lv' := [(2, .int (iI 0)), (0, .ref mo), (1, .int (iI u))]) S0.1 S0.2.1 dX11_knows_1 rfl hl (by decide) rfl (fun ls hl => ?_)
  refine q_loop (α := Int × Int × KT) (fun (z_ : Int × Int × KT) => match z_ with | (j9, b1, K1) => (0 ≤ j9 ∧ j9 ≤ u + 1) ∧ TB F j9 (kV K1) (kH K1) (kR K1)) (fun (z_ : Int × Int × KT) => match z_ with | (j9, b1, K1) => (u + 1 - j9).toNat) (fun (z_ : Int × Int × KT) => match z_ with | (j9, b1, K1) => [(mo, .inr (11, [.ref az, .ref ap, .int (iI pm), .ref ak, .int (iI ik), .ref ax, .int (iI ty), .int (iI th), .ref a1, .ref a2, .int (iI mn), .ref a3, .int (iI wt), .ref a4, .ref a5, .ref a6, .ref v1, .ref v2, .ref v3, .ref v4, .ref v5, .ref v6, .int (iI b1), .int (iI wh), .int (iI dp), .int (iI dg)])), (az, gI g 325 Z), (a4, gI g 796 (kV K1)), (a5, gI g 796 (kH K1)), (a6, gI g 796 (kR K1)), (v1, gI g 41 (kW K1)), (v2, gI g 41 (kS K1)), (v3, gI g 41 (kL K1)), (v4, gI g 41 (kE K1)), (v5, gI g 41 (kX K1)), (v6, gI g 41 (kT K1))]) (fun (z_ : Int × Int × KT) => match z_ with | (j9, b1, K1) => [(2, .int (iI j9)), (0, .ref mo), (1, .int (iI u))]) ?_ (0, bn, K) (by exact ⟨by omega, fun i y a b => absurd b (by omega)⟩) hW (lv_sub hl [0, 1, 2] rfl)
  rintro ⟨j9, b1, K1⟩ hinv IHl H locs ls hW hl
  try dsimp only at hinv
  have hW : gW g A s.heap H _ [(mo, .inr (11, [.ref az, .ref ap, .int (iI pm), .ref ak, .int (iI ik), .ref ax, .int (iI ty), .int (iI th), .ref a1, .ref a2, .int (iI mn), .ref a3, .int (iI wt), .ref a4, .ref a5, .ref a6, .ref v1, .ref v2, .ref v3, .ref v4, .ref v5, .ref v6, .int (iI b1), .int (iI wh), .int (iI dp), .int (iI dg)])), (az, gI g 325 Z), (a4, gI g 796 (kV K1)), (a5, gI g 796 (kH K1)), (a6, gI g 796 (kR K1)), (v1, gI g 41 (kW K1)), (v2, gI g 41 (kS K1)), (v3, gI g 41 (kL K1)), (v4, gI g 41 (kE K1)), (v5, gI g 41 (kX K1)), (v6, gI g 41 (kT K1))] := hW
  have hl : lv_has ls 5 [(2, .int (iI j9)), (0, .ref mo), (1, .int (iI u))] := hl
  obtain ⟨hj9, hTB⟩ := hinv
  refine lv_iload_n S0.1 S0.2.1 dX11_knows_2 rfl (lv_at hl 0 rfl) ?_
  refine lv_iload_n S0.1 S0.2.1 dX11_knows_3 rfl (lv_at hl 2 rfl) ?_
  refine q_icmp_gt (tgt := 139) S0 (by omega) dX11_knows_4 (by decide) (fun c4 => ?_) (fun c4 => ?_)
  · skip
    exact q_vret S0 hr hlocks (K1, b1) (by rw [show u + 1 = j9 by omega]; exact hTB) rfl (hW.sub [0, 1, 2, 3, 4, 5, 6, 7, 8, 9, 10] rfl (rfl)) (Nat.le_of_ble_eq_true rfl) (Nat.le_of_ble_eq_true rfl) dX11_knows_139
  · skip
    refine q_iconst S0 dX11_knows_7 ?_
    refine lv_istore_n (lv' := [(3, .int (iI 0)), (2, .int (iI j9)), (0, .ref mo), (1, .int (iI u))]) S0.1 S0.2.1 dX11_knows_8 rfl hl (by decide) rfl (fun ls hl => ?_)
    refine q_loop (α := Int × Int × KT) (fun (z_ : Int × Int × KT) => match z_ with | (x9, b2, K2) => (0 ≤ x9 ∧ x9 ≤ fP F) ∧ TBx F j9 x9 (kV K2) (kH K2) (kR K2)) (fun (z_ : Int × Int × KT) => match z_ with | (x9, b2, K2) => (fP F - x9).toNat) (fun (z_ : Int × Int × KT) => match z_ with | (x9, b2, K2) => [(mo, .inr (11, [.ref az, .ref ap, .int (iI pm), .ref ak, .int (iI ik), .ref ax, .int (iI ty), .int (iI th), .ref a1, .ref a2, .int (iI mn), .ref a3, .int (iI wt), .ref a4, .ref a5, .ref a6, .ref v1, .ref v2, .ref v3, .ref v4, .ref v5, .ref v6, .int (iI b2), .int (iI wh), .int (iI dp), .int (iI dg)])), (az, gI g 325 Z), (a4, gI g 796 (kV K2)), (a5, gI g 796 (kH K2)), (a6, gI g 796 (kR K2)), (v1, gI g 41 (kW K2)), (v2, gI g 41 (kS K2)), (v3, gI g 41 (kL K2)), (v4, gI g 41 (kE K2)), (v5, gI g 41 (kX K2)), (v6, gI g 41 (kT K2))]) (fun (z_ : Int × Int × KT) => match z_ with | (x9, b2, K2) => [(3, .int (iI x9)), (2, .int (iI j9)), (0, .ref mo), (1, .int (iI u))]) ?_ (0, b1, K1) (by exact ⟨by omega, TBx_0 hTB⟩) hW (lv_sub hl [0, 1, 2, 3] rfl)
    rintro ⟨x9, b2, K2⟩ hinv IHl9 H locs ls hW hl
    try dsimp only at hinv
    have hW : gW g A s.heap H _ [(mo, .inr (11, [.ref az, .ref ap, .int (iI pm), .ref ak, .int (iI ik), .ref ax, .int (iI ty), .int (iI th), .ref a1, .ref a2, .int (iI mn), .ref a3, .int (iI wt), .ref a4, .ref a5, .ref a6, .ref v1, .ref v2, .ref v3, .ref v4, .ref v5, .ref v6, .int (iI b2), .int (iI wh), .int (iI dp), .int (iI dg)])), (az, gI g 325 Z), (a4, gI g 796 (kV K2)), (a5, gI g 796 (kH K2)), (a6, gI g 796 (kR K2)), (v1, gI g 41 (kW K2)), (v2, gI g 41 (kS K2)), (v3, gI g 41 (kL K2)), (v4, gI g 41 (kE K2)), (v5, gI g 41 (kX K2)), (v6, gI g 41 (kT K2))] := hW
    have hl : lv_has ls 5 [(3, .int (iI x9)), (2, .int (iI j9)), (0, .ref mo), (1, .int (iI u))] := hl
    obtain ⟨hx9, hTX⟩ := hinv
    refine lv_iload_n S0.1 S0.2.1 dX11_knows_9 rfl (lv_at hl 0 rfl) ?_
    refine lv_aload_n S0.1 S0.2.1 dX11_knows_10 rfl (lv_at hl 2 rfl) ?_
    refine q_get (C := RX11) (T := TX11) (N := 26) S0 hK hW.1 hinX11 0 rfl rfl 0 (by decide) (List.mem_of_getElem? (i := 1) rfl) rfl rfl dX11_knows_11 ?_
    refine q_iconst S0 dX11_knows_14 ?_
    refine q_iald S0 hK hW.1 1 rfl (by omega) dX11_knows_15 ?_
    refine W.eq (g2 := F0 m 16 ls [.int (iI (Z 0)), .int (iI x9)]) rfl ?_
    refine q_topI (b := fP F) (hz.1) ?_
    refine q_icmp_ge (tgt := 133) S0 (by omega) dX11_knows_16 (by decide) (fun c16 => ?_) (fun c16 => ?_)
    · skip
      refine q_iinc (lv' := [(2, .int (iI (j9 + 1))), (3, .int (iI x9)), (0, .ref mo), (1, .int (iI u))]) S0 dX11_knows_133 hl (k := 1) rfl (by decide) rfl (fun ls hl => ?_)
      refine lv_goto (tgt := 2) S0.1 S0.2.1 dX11_knows_136 (by decide) ?_
      exact IHl (j9 + 1, b2, K2) H locs ls (by exact ⟨by omega, TBx_end (by rw [show x9 = fP F by omega] at hTX; exact hTX)⟩) (by dsimp only; omega) hW (lv_sub hl [0, 2, 3] rfl)
    · skip
      refine lv_aload_n S0.1 S0.2.1 dX11_knows_19 rfl (lv_at hl 2 rfl) ?_
      refine lv_iload_n S0.1 S0.2.1 dX11_knows_20 rfl (lv_at hl 1 rfl) ?_
      refine lv_iload_n S0.1 S0.2.1 dX11_knows_21 rfl (lv_at hl 0 rfl) ?_
      refine lv_aload_n S0.1 S0.2.1 dX11_knows_22 rfl (lv_at hl 2 rfl) ?_
      refine q_iconst S0 dX11_knows_23 ?_
      refine q_pV (n := 1) (rest := [.int (iI x9), .int (iI j9), .ref mo]) S0 hK (c_X11_p l g mo az ap ak ax a1 a2 a3 a4 a5 a6 v1 v2 v3 v4 v5 v6 pm ik ty th mn wt b2 wh dp dg Z (fP F) 1 (hpr) (hz.1) (by omega)) (subP hW.1 [0, 1] rfl) (trivial) gX11_knows_X11_p rfl rfl rfl (by decide +kernel) ⟨Nat.le_of_ble_eq_true rfl, Nat.le_of_ble_eq_true rfl⟩ (q_recv hK hW.1 (ci := 11) (q0 := 0) rfl rfl) rfl rfl hl.1 (Nat.le_of_ble_eq_true rfl) ⟨Nat.le_of_ble_eq_true rfl, Nat.le_of_ble_eq_true rfl⟩ dX11_knows_24 ?_
      refine W.eq (g2 := F0 m 27 ls [.int (iI (1 % (fP F))), .int (iI x9), .int (iI j9), .ref mo]) rfl ?_
      refine q_topI (b := 1) (Int.emod_eq_of_lt (by omega) (by omega)) ?_
      refine q_cV (n := 3) (rest := []) (wr := [(a6, gI g 796 (kR K2)), (v5, gI g 41 (kX K2))]) S0 hK hA hW (c_X11_feeds l g mo az ap ak ax a1 a2 a3 a4 a5 a6 v1 v2 v3 v4 v5 v6 pm ik ty th mn wt b2 wh dp dg Z F (kV K2) (kH K2) (kR K2) (kW K2) (kS K2) (kL K2) (kE K2) (kT K2) j9 x9 1 (hG) (hz) (hlk) (by omega) (by omega) (by omega) (hTX.1)) gX11_knows_X11_feeds rfl rfl rfl (by decide +kernel) ⟨Nat.le_of_ble_eq_true rfl, Nat.le_of_ble_eq_true rfl⟩ [0, 1, 2, 3, 5, 6, 7, 8, 10] [4, 9] rfl rfl rfl rfl (by decide) (q_recv hK hW.1 (ci := 11) (q0 := 0) rfl rfl) (fun _ _ => trivial) (trivial) rfl rfl hl.1 (Nat.le_of_ble_eq_true rfl) ⟨Nat.le_of_ble_eq_true rfl, Nat.le_of_ble_eq_true rfl⟩ dX11_knows_27 ?_
      rintro ⟨W3, S3, L3, V3, T3, b3⟩ H locs hp hW
      try dsimp only at hp
      have hW : gW g A s.heap H _ [(a6, gI g 796 (kR K2)), (v5, gI g 41 (kX K2)), (mo, .inr (11, [.ref az, .ref ap, .int (iI pm), .ref ak, .int (iI ik), .ref ax, .int (iI ty), .int (iI th), .ref a1, .ref a2, .int (iI mn), .ref a3, .int (iI wt), .ref a4, .ref a5, .ref a6, .ref v1, .ref v2, .ref v3, .ref v4, .ref v5, .ref v6, .int (iI b3), .int (iI wh), .int (iI dp), .int (iI dg)])), (az, gI g 325 Z), (a4, gI g 796 (kV K2)), (a5, gI g 796 (kH K2)), (v1, gI g 41 W3), (v2, gI g 41 S3), (v3, gI g 41 L3), (v4, gI g 41 V3), (v6, gI g 41 T3)] := hW
      refine W.eq (g2 := F0 m 30 ls []) rfl ?_
      have hFI := hp.1
      have hLV := hp.2
      have hb3 := hFI.1
      have hj4 : 0 ≤ j9 ∧ j9 < 4 := by omega
      have hnj := (hG.2 j9.toNat (by omega)).1
      have hbi := hh_bad_iff hG (f := j9.toNat) (x := x9) (by omega) (by omega)
      have hv0 : b3 = 0 → W3 (((eN (fE F j9.toNat) : Nat) : Int) - 1).toNat = vv (fP F) (fE F) j9.toNat x9 := fun q => by
        have z := VI_end hG hj4 rfl (hFI.2.1 q).1
        rw [RQ_V hj4.1] at z
        exact z.symm
      have hs0 : b3 = 0 → S3 (((eN (fE F j9.toNat) : Nat) : Int) - 1).toNat = hh (fP F) (fE F) j9.toNat x9 := fun q => by
        have z := SI_end hG hj4 rfl (hFI.2.1 q).1 (hFI.2.1 q).2
        rw [RQ_S hj4.1] at z
        rw [hh_eq (by omega) (hG.2 j9.toNat (by omega))]
        exact z.symm
      have hv1 : b3 = 1 → vv (fP F) (fE F) j9.toNat x9 = -1 := hFI.2.2.1
      refine lv_aload_n S0.1 S0.2.1 dX11_knows_30 rfl (lv_at hl 2 rfl) ?_
      refine lv_iload_n S0.1 S0.2.1 dX11_knows_31 rfl (lv_at hl 1 rfl) ?_
      refine q_pV (n := 1) (rest := []) S0 hK (c_X11_size l g mo az ap ak ax a1 a2 a3 a4 a5 a6 v1 v2 v3 v4 v5 v6 pm ik ty th mn wt b3 wh dp dg Z j9 (by omega)) (subP hW.1 [2, 3] rfl) (trivial) gX11_knows_X11_size rfl rfl rfl (by decide +kernel) ⟨Nat.le_of_ble_eq_true rfl, Nat.le_of_ble_eq_true rfl⟩ (q_recv hK hW.1 (ci := 11) (q0 := 2) rfl rfl) rfl rfl hl.1 (Nat.le_of_ble_eq_true rfl) ⟨Nat.le_of_ble_eq_true rfl, Nat.le_of_ble_eq_true rfl⟩ dX11_knows_32 ?_
      refine W.eq (g2 := F0 m 35 ls [.int (iI (Z (1 + 81 * j9).toNat))]) rfl ?_
      refine q_topI (b := ((eN (fE F j9.toNat) : Nat) : Int)) ((hz.2 j9 (by omega)).1) ?_
      refine q_iconst S0 dX11_knows_35 ?_
      refine q_isub S0 dX11_knows_36 ?_
      refine lv_istore (lv' := [(4, .int (iI ((((eN (fE F j9.toNat) : Nat) : Int)) - 1))), (3, .int (iI x9)), (2, .int (iI j9)), (0, .ref mo), (1, .int (iI u))]) S0.1 S0.2.1 dX11_knows_37 hl (by decide) rfl (fun ls hl => ?_)
      refine lv_aload_n S0.1 S0.2.1 dX11_knows_39 rfl (lv_at hl 3 rfl) ?_
      refine q_get (C := RX11) (T := TX11) (N := 26) S0 hK hW.1 hinX11 2 rfl rfl 13 (by decide) (List.mem_of_getElem? (i := 2) rfl) rfl rfl dX11_knows_40 ?_
      refine q_sipush S0 (by decide) dX11_knows_43 ?_
      refine lv_iload_n S0.1 S0.2.1 dX11_knows_46 rfl (lv_at hl 2 rfl) ?_
      refine q_imul S0 dX11_knows_47 ?_
      refine lv_iload_n S0.1 S0.2.1 dX11_knows_48 rfl (lv_at hl 1 rfl) ?_
      refine q_iadd S0 dX11_knows_49 ?_
      refine q_cut (α := Int) (fun v9 => F0 m 68 ls (.int (iI v9) :: [.int (iI ((199 * j9) + x9)), .ref a4])) (fun v9 => v9 = vv (fP F) (fE F) j9.toNat x9) (fun v9 hv9 => ?_) (fun hJ50 => ?_)
      · skip
        refine q_iast S0 hK hW 4 rfl (by omega) dX11_knows_68 (fun H locs hW => ?_)
        rw [show ((199 * j9) + x9).toNat = (199 * j9 + x9).toNat from rfl] at hW
        have hW : gW g A s.heap H _ [(a6, gI g 796 (kR K2)), (v5, gI g 41 (kX K2)), (mo, .inr (11, [.ref az, .ref ap, .int (iI pm), .ref ak, .int (iI ik), .ref ax, .int (iI ty), .int (iI th), .ref a1, .ref a2, .int (iI mn), .ref a3, .int (iI wt), .ref a4, .ref a5, .ref a6, .ref v1, .ref v2, .ref v3, .ref v4, .ref v5, .ref v6, .int (iI b3), .int (iI wh), .int (iI dp), .int (iI dg)])), (az, gI g 325 Z), (a4, gI g 796 (up (kV K2) ((199 * j9 + x9).toNat) v9)), (a5, gI g 796 (kH K2)), (v1, gI g 41 W3), (v2, gI g 41 S3), (v3, gI g 41 L3), (v4, gI g 41 V3), (v6, gI g 41 T3)] := hW
        subst hv9
        refine lv_aload_n S0.1 S0.2.1 dX11_knows_69 rfl (lv_at hl 3 rfl) ?_
        refine q_get (C := RX11) (T := TX11) (N := 26) S0 hK hW.1 hinX11 2 rfl rfl 14 (by decide) (List.mem_of_getElem? (i := 5) rfl) rfl rfl dX11_knows_70 ?_
        refine q_sipush S0 (by decide) dX11_knows_73 ?_
        refine lv_iload_n S0.1 S0.2.1 dX11_knows_76 rfl (lv_at hl 2 rfl) ?_
        refine q_imul S0 dX11_knows_77 ?_
        refine lv_iload_n S0.1 S0.2.1 dX11_knows_78 rfl (lv_at hl 1 rfl) ?_
        refine q_iadd S0 dX11_knows_79 ?_
        refine q_cut (α := Int) (fun t9 => F0 m 98 ls (.int (iI t9) :: [.int (iI ((199 * j9) + x9)), .ref a5])) (fun t9 => t9 = hh (fP F) (fE F) j9.toNat x9) (fun t9 ht9 => ?_) (fun hJ80 => ?_)
        · skip
          refine q_iast S0 hK hW 5 rfl (by omega) dX11_knows_98 (fun H locs hW => ?_)
          rw [show ((199 * j9) + x9).toNat = (199 * j9 + x9).toNat from rfl] at hW
          have hW : gW g A s.heap H _ [(a6, gI g 796 (kR K2)), (v5, gI g 41 (kX K2)), (mo, .inr (11, [.ref az, .ref ap, .int (iI pm), .ref ak, .int (iI ik), .ref ax, .int (iI ty), .int (iI th), .ref a1, .ref a2, .int (iI mn), .ref a3, .int (iI wt), .ref a4, .ref a5, .ref a6, .ref v1, .ref v2, .ref v3, .ref v4, .ref v5, .ref v6, .int (iI b3), .int (iI wh), .int (iI dp), .int (iI dg)])), (az, gI g 325 Z), (a4, gI g 796 (up (kV K2) ((199 * j9 + x9).toNat) (vv (fP F) (fE F) j9.toNat x9))), (a5, gI g 796 (up (kH K2) ((199 * j9 + x9).toNat) t9)), (v1, gI g 41 W3), (v2, gI g 41 S3), (v3, gI g 41 L3), (v4, gI g 41 V3), (v6, gI g 41 T3)] := hW
          subst ht9
          refine lv_aload_n S0.1 S0.2.1 dX11_knows_99 rfl (lv_at hl 3 rfl) ?_
          refine q_get (C := RX11) (T := TX11) (N := 26) S0 hK hW.1 hinX11 2 rfl rfl 15 (by decide) (List.mem_of_getElem? (i := 7) rfl) rfl rfl dX11_knows_100 ?_
          refine q_sipush S0 (by decide) dX11_knows_103 ?_
          refine lv_iload_n S0.1 S0.2.1 dX11_knows_106 rfl (lv_at hl 2 rfl) ?_
          refine q_imul S0 dX11_knows_107 ?_
          refine lv_iload_n S0.1 S0.2.1 dX11_knows_108 rfl (lv_at hl 1 rfl) ?_
          refine q_iadd S0 dX11_knows_109 ?_
          refine lv_aload_n S0.1 S0.2.1 dX11_knows_110 rfl (lv_at hl 3 rfl) ?_
          refine q_get (C := RX11) (T := TX11) (N := 26) S0 hK hW.1 hinX11 2 rfl rfl 22 (by decide) (List.mem_of_getElem? (i := 3) rfl) rfl rfl dX11_knows_111 ?_
          refine q_if_eq (tgt := 121) S0 (by omega) dX11_knows_114 (by decide) (fun c114 => ?_) (fun c114 => ?_)
          · skip
            refine lv_aload_n S0.1 S0.2.1 dX11_knows_121 rfl (lv_at hl 3 rfl) ?_
            refine lv_iload_n S0.1 S0.2.1 dX11_knows_122 rfl (lv_at hl 2 rfl) ?_
            refine q_cV (n := 1) (rest := [.int (iI ((199 * j9) + x9)), .ref a6]) (wr := [(a4, gI g 796 (up (kV K2) ((199 * j9 + x9).toNat) (vv (fP F) (fE F) j9.toNat x9))), (a5, gI g 796 (up (kH K2) ((199 * j9 + x9).toNat) (hh (fP F) (fE F) j9.toNat x9))), (v2, gI g 41 S3), (v6, gI g 41 T3)]) S0 hK hA hW (c_X11_slopeOf l g mo az ap ak ax a1 a2 a3 a4 a5 a6 v1 v2 v3 v4 v5 v6 pm ik ty th mn wt b3 wh dp dg Z F (kR K2) W3 L3 V3 (kX K2) j9 x9 (hG) (hz) (hj4) (by omega) (hLV) (fun i y a b c d => (hTX.1 i y a b c d).2.2) (VI_RQ (hFI.2.1 (by omega)).1) (fun j hj => (hFI.2.2.2 j hj).1)) gX11_knows_X11_slopeOf rfl rfl rfl (by decide +kernel) ⟨Nat.le_of_ble_eq_true rfl, Nat.le_of_ble_eq_true rfl⟩ [2, 3, 0, 6, 8, 9, 1] [4, 5, 7, 10] rfl rfl rfl rfl (by decide) (q_recv hK hW.1 (ci := 11) (q0 := 2) rfl rfl) (fun _ _ => trivial) (trivial) rfl rfl hl.1 (Nat.le_of_ble_eq_true rfl) ⟨Nat.le_of_ble_eq_true rfl, Nat.le_of_ble_eq_true rfl⟩ dX11_knows_123 ?_
            rintro X3 H locs _ hW
            have hW : gW g A s.heap H _ [(a4, gI g 796 (up (kV K2) ((199 * j9 + x9).toNat) (vv (fP F) (fE F) j9.toNat x9))), (a5, gI g 796 (up (kH K2) ((199 * j9 + x9).toNat) (hh (fP F) (fE F) j9.toNat x9))), (v2, gI g 41 S3), (v6, gI g 41 T3), (mo, .inr (11, [.ref az, .ref ap, .int (iI pm), .ref ak, .int (iI ik), .ref ax, .int (iI ty), .int (iI th), .ref a1, .ref a2, .int (iI mn), .ref a3, .int (iI wt), .ref a4, .ref a5, .ref a6, .ref v1, .ref v2, .ref v3, .ref v4, .ref v5, .ref v6, .int (iI b3), .int (iI wh), .int (iI dp), .int (iI dg)])), (az, gI g 325 Z), (a6, gI g 796 (kR K2)), (v1, gI g 41 W3), (v3, gI g 41 L3), (v4, gI g 41 V3), (v5, gI g 41 X3)] := hW
            refine W.eq (g2 := F0 m 126 ls [.int (iI (hh (fP F) (fE F) j9.toNat x9)), .int (iI ((199 * j9) + x9)), .ref a6]) rfl ?_
            refine q_iast S0 hK hW 6 rfl (by omega) dX11_knows_126 (fun H locs hW => ?_)
            rw [show ((199 * j9) + x9).toNat = (199 * j9 + x9).toNat from rfl] at hW
            have hW : gW g A s.heap H _ [(a4, gI g 796 (up (kV K2) ((199 * j9 + x9).toNat) (vv (fP F) (fE F) j9.toNat x9))), (a5, gI g 796 (up (kH K2) ((199 * j9 + x9).toNat) (hh (fP F) (fE F) j9.toNat x9))), (v2, gI g 41 S3), (v6, gI g 41 T3), (mo, .inr (11, [.ref az, .ref ap, .int (iI pm), .ref ak, .int (iI ik), .ref ax, .int (iI ty), .int (iI th), .ref a1, .ref a2, .int (iI mn), .ref a3, .int (iI wt), .ref a4, .ref a5, .ref a6, .ref v1, .ref v2, .ref v3, .ref v4, .ref v5, .ref v6, .int (iI b3), .int (iI wh), .int (iI dp), .int (iI dg)])), (az, gI g 325 Z), (a6, gI g 796 (up (kR K2) ((199 * j9 + x9).toNat) (hh (fP F) (fE F) j9.toNat x9))), (v1, gI g 41 W3), (v3, gI g 41 L3), (v4, gI g 41 V3), (v5, gI g 41 X3)] := hW
            refine q_iinc (lv' := [(3, .int (iI (x9 + 1))), (4, .int (iI ((((eN (fE F j9.toNat) : Nat) : Int)) - 1))), (2, .int (iI j9)), (0, .ref mo), (1, .int (iI u))]) S0 dX11_knows_127 hl (k := 1) rfl (by decide) rfl (fun ls hl => ?_)
            refine lv_goto (tgt := 9) S0.1 S0.2.1 dX11_knows_130 (by decide) ?_
            exact IHl9 (x9 + 1, b3, (mkK (up (kV K2) ((199 * j9 + x9).toNat) (vv (fP F) (fE F) j9.toNat x9)) (up (kH K2) ((199 * j9 + x9).toNat) (hh (fP F) (fE F) j9.toNat x9)) (up (kR K2) ((199 * j9 + x9).toNat) (hh (fP F) (fE F) j9.toNat x9)) W3 S3 L3 V3 X3 T3)) H locs ls (by exact ⟨by omega, TBx_nx hG hj9.1 (by omega) hTX rfl rfl rfl⟩) (by dsimp only; omega) (hW.sub [4, 5, 0, 1, 6, 7, 2, 8, 9, 10, 3] rfl rfl) (lv_sub hl [0, 2, 3, 4] rfl)
          · skip
            refine q_iconst S0 dX11_knows_117 ?_
            refine q_topI (b := hh (fP F) (fE F) j9.toNat x9) ((hbi.mpr (hv1 (by omega))).symm) ?_
            refine lv_goto (tgt := 126) S0.1 S0.2.1 dX11_knows_118 (by decide) ?_
            refine q_iast S0 hK hW 0 rfl (by omega) dX11_knows_126 (fun H locs hW => ?_)
            rw [show ((199 * j9) + x9).toNat = (199 * j9 + x9).toNat from rfl] at hW
            have hW : gW g A s.heap H _ [(a6, gI g 796 (up (kR K2) ((199 * j9 + x9).toNat) (hh (fP F) (fE F) j9.toNat x9))), (v5, gI g 41 (kX K2)), (mo, .inr (11, [.ref az, .ref ap, .int (iI pm), .ref ak, .int (iI ik), .ref ax, .int (iI ty), .int (iI th), .ref a1, .ref a2, .int (iI mn), .ref a3, .int (iI wt), .ref a4, .ref a5, .ref a6, .ref v1, .ref v2, .ref v3, .ref v4, .ref v5, .ref v6, .int (iI b3), .int (iI wh), .int (iI dp), .int (iI dg)])), (az, gI g 325 Z), (a4, gI g 796 (up (kV K2) ((199 * j9 + x9).toNat) (vv (fP F) (fE F) j9.toNat x9))), (a5, gI g 796 (up (kH K2) ((199 * j9 + x9).toNat) (hh (fP F) (fE F) j9.toNat x9))), (v1, gI g 41 W3), (v2, gI g 41 S3), (v3, gI g 41 L3), (v4, gI g 41 V3), (v6, gI g 41 T3)] := hW
            refine q_iinc (lv' := [(3, .int (iI (x9 + 1))), (4, .int (iI ((((eN (fE F j9.toNat) : Nat) : Int)) - 1))), (2, .int (iI j9)), (0, .ref mo), (1, .int (iI u))]) S0 dX11_knows_127 hl (k := 1) rfl (by decide) rfl (fun ls hl => ?_)
            refine lv_goto (tgt := 9) S0.1 S0.2.1 dX11_knows_130 (by decide) ?_
            exact IHl9 (x9 + 1, b3, (mkK (up (kV K2) ((199 * j9 + x9).toNat) (vv (fP F) (fE F) j9.toNat x9)) (up (kH K2) ((199 * j9 + x9).toNat) (hh (fP F) (fE F) j9.toNat x9)) (up (kR K2) ((199 * j9 + x9).toNat) (hh (fP F) (fE F) j9.toNat x9)) W3 S3 L3 V3 (kX K2) T3)) H locs ls (by exact ⟨by omega, TBx_nx hG hj9.1 (by omega) hTX rfl rfl rfl⟩) (by dsimp only; omega) (hW.sub [2, 3, 4, 5, 0, 6, 7, 8, 9, 1, 10] rfl rfl) (lv_sub hl [0, 2, 3, 4] rfl)
        · skip
          refine lv_aload_n S0.1 S0.2.1 dX11_knows_80 rfl (lv_at hl 3 rfl) ?_
          refine q_get (C := RX11) (T := TX11) (N := 26) S0 hK hW.1 hinX11 2 rfl rfl 22 (by decide) (List.mem_of_getElem? (i := 3) rfl) rfl rfl dX11_knows_81 ?_
          refine q_if_eq (tgt := 91) S0 (by omega) dX11_knows_84 (by decide) (fun c84 => ?_) (fun c84 => ?_)
          · skip
            refine lv_aload_n S0.1 S0.2.1 dX11_knows_91 rfl (lv_at hl 3 rfl) ?_
            refine q_get (C := RX11) (T := TX11) (N := 26) S0 hK hW.1 hinX11 2 rfl rfl 17 (by decide) (List.mem_of_getElem? (i := 6) rfl) rfl rfl dX11_knows_92 ?_
            refine lv_iload S0.1 S0.2.1 dX11_knows_95 (lv_at hl 0 rfl) ?_
            refine q_iald S0 hK hW.1 7 rfl (by omega) dX11_knows_97 ?_
            exact hJ80 _ (by first | exact (hbi.mpr (hv1 (by omega))).symm | exact hs0 (by omega))
          · skip
            refine q_iconst S0 dX11_knows_87 ?_
            refine lv_goto (tgt := 98) S0.1 S0.2.1 dX11_knows_88 (by decide) ?_
            exact hJ80 _ (by first | exact (hbi.mpr (hv1 (by omega))).symm | exact hs0 (by omega))
      · skip
        refine lv_aload_n S0.1 S0.2.1 dX11_knows_50 rfl (lv_at hl 3 rfl) ?_
        refine q_get (C := RX11) (T := TX11) (N := 26) S0 hK hW.1 hinX11 2 rfl rfl 22 (by decide) (List.mem_of_getElem? (i := 3) rfl) rfl rfl dX11_knows_51 ?_
        refine q_if_eq (tgt := 61) S0 (by omega) dX11_knows_54 (by decide) (fun c54 => ?_) (fun c54 => ?_)
        · skip
          refine lv_aload_n S0.1 S0.2.1 dX11_knows_61 rfl (lv_at hl 3 rfl) ?_
          refine q_get (C := RX11) (T := TX11) (N := 26) S0 hK hW.1 hinX11 2 rfl rfl 16 (by decide) (List.mem_of_getElem? (i := 4) rfl) rfl rfl dX11_knows_62 ?_
          refine lv_iload S0.1 S0.2.1 dX11_knows_65 (lv_at hl 0 rfl) ?_
          refine q_iald S0 hK hW.1 6 rfl (by omega) dX11_knows_67 ?_
          exact hJ50 _ (by first | exact (hv1 (by omega)).symm | exact hv0 (by omega))
        · skip
          refine q_iconst S0 dX11_knows_57 ?_
          refine lv_goto (tgt := 68) S0.1 S0.2.1 dX11_knows_58 (by decide) ?_
          exact hJ50 _ (by first | exact (hv1 (by omega)).symm | exact hv0 (by omega))
