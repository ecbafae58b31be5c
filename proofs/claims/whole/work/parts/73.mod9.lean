set_option maxHeartbeats 4000000 in
set_option maxRecDepth 100000 in
theorem c_X11_shares (l : Launch) (g : GG) (mo az ap ak ax a1 a2 a3 a4 a5 a6 v1 v2 v3 v4 v5 v6 : Nat) (pm ik ty th mn wt bn wh dp dg : Int) (Z : Nat → Int) (F : FT) (RU Wv L V Sh0 : Nat → Int) (u k : Int) (hG : GF F) (hz : ZR Z F) (hu : 0 ≤ u ∧ u < 4) (hk : 0 ≤ k ∧ k < eN (fE F u.toNat)) (hLk : L k.toNat = eL (fE F u.toNat) k.toNat) (hVk : V k.toNat = eV (fE F u.toNat) k.toNat) (hRU : ∀ j x : Int, 0 ≤ j → j < u → 0 ≤ x → x < fP F → RU (199 * j + x).toNat = hh (fP F) (fE F) j.toNat x) (hw : ∀ j : Nat, (j : Int) < k → 0 ≤ Wv j ∧ Wv j < fP F) (har : 0 ≤ Sh0 k.toNat ∧ Sh0 k.toNat < fP F) (hzL : 0 ≤ eL (fE F u.toNat) k.toNat → Sh0 (eL (fE F u.toNat) k.toNat).toNat = 0) (hzV : 0 ≤ eV (fE F u.toNat) k.toNat → Sh0 (eV (fE F u.toNat) k.toNat).toNat = 0) (hdi : eK (fE F u.toNat) k.toNat = 47 → ¬ gv Wv (eV (fE F u.toNat) k.toNat) = 0) (hca : eK (fE F u.toNat) k.toNat = 99 → ¬ vv (fP F) (fE F) (eU (fE F u.toNat) k.toNat).toNat (gv Wv (eL (fE F u.toNat) k.toNat)) = -1) : qMet l yX11_shares wsX11_shares ({ frames := 2, cells := 0, slots := 0, locals := 46 }) g [.ref mo, .int (iI u), .int (iI k)] [(mo, .inr (11, [.ref az, .ref ap, .int (iI pm), .ref ak, .int (iI ik), .ref ax, .int (iI ty), .int (iI th), .ref a1, .ref a2, .int (iI mn), .ref a3, .int (iI wt), .ref a4, .ref a5, .ref a6, .ref v1, .ref v2, .ref v3, .ref v4, .ref v5, .ref v6, .int (iI bn), .int (iI wh), .int (iI dp), .int (iI dg)])), (az, gI g 325 Z), (a6, gI g 796 RU), (v1, gI g 41 Wv), (v3, gI g 41 L), (v4, gI g 41 V), (v5, gI g 41 Sh0)] (fun _ => True) (fun _ => True) (S := (Nat → Int)) (fun _ => none) (fun u_ => [(mo, .inr (11, [.ref az, .ref ap, .int (iI pm), .ref ak, .int (iI ik), .ref ax, .int (iI ty), .int (iI th), .ref a1, .ref a2, .int (iI mn), .ref a3, .int (iI wt), .ref a4, .ref a5, .ref a6, .ref v1, .ref v2, .ref v3, .ref v4, .ref v5, .ref v6, .int (iI bn), .int (iI wh), .int (iI dp), .int (iI dg)])), (az, gI g 325 Z), (a6, gI g 796 RU), (v1, gI g 41 Wv), (v3, gI g 41 L), (v4, gI g 41 V), (v5, gI g 41 u_)]) (fun u_ => shP F u Wv Sh0 u_ k.toNat) 0 0 := by
  refine q_ofW (cc := cX11_shares) (maxL := 9) (ret := none) (fun sz h => h.self) (by decide) rfl (Nat.le_of_ble_eq_true rfl) ?_
  intro p e s m args below meth c A ls S0 hr hlocks hnme hK hA hAe hW hD0 hX hl
  have hW : gW g A s.heap s.heap [] [(mo, .inr (11, [.ref az, .ref ap, .int (iI pm), .ref ak, .int (iI ik), .ref ax, .int (iI ty), .int (iI th), .ref a1, .ref a2, .int (iI mn), .ref a3, .int (iI wt), .ref a4, .ref a5, .ref a6, .ref v1, .ref v2, .ref v3, .ref v4, .ref v5, .ref v6, .int (iI bn), .int (iI wh), .int (iI dp), .int (iI dg)])), (az, gI g 325 Z), (a6, gI g 796 RU), (v1, gI g 41 Wv), (v3, gI g 41 L), (v4, gI g 41 V), (v5, gI g 41 Sh0)] := hW
  have hl : lv_has ls 9 [(0, .ref mo), (1, .int (iI u)), (2, .int (iI k))] := hl
  have hinX11 : ∀ w ∈ wsX110, w ∈ wsX11_shares := fun w h => List.mem_cons_of_mem _ (List.mem_append_right _ h)
  have hpr := GF_p hG
  have hE9 := (hG.2 u.toNat (by omega)).2.1 k.toNat (by omega)
  have hn40 := (hG.2 u.toNat (by omega)).1
  have hL9 := WFK_L hE9
  have hV9 := WFK_V hE9
  have hU9 := WFK_U hE9 (by omega)
  have hK9 := WFK_K hE9
  refine lv_aload_n S0.1 S0.2.1 dX11_shares_0 rfl (lv_at hl 0 rfl) ?_
  refine lv_iload_n S0.1 S0.2.1 dX11_shares_1 rfl (lv_at hl 1 rfl) ?_
  refine lv_iload_n S0.1 S0.2.1 dX11_shares_2 rfl (lv_at hl 2 rfl) ?_
  refine q_pV (n := 2) (rest := []) S0 hK (c_X11_kind l g mo az ap ak ax a1 a2 a3 a4 a5 a6 v1 v2 v3 v4 v5 v6 pm ik ty th mn wt bn wh dp dg Z u k (hu) (by omega)) (subP hW.1 [0, 1] rfl) (trivial) gX11_shares_X11_kind rfl rfl rfl (by decide +kernel) ⟨Nat.le_of_ble_eq_true rfl, Nat.le_of_ble_eq_true rfl⟩ (q_recv hK hW.1 (ci := 11) (q0 := 0) rfl rfl) rfl rfl hl.1 (Nat.le_of_ble_eq_true rfl) ⟨Nat.le_of_ble_eq_true rfl, Nat.le_of_ble_eq_true rfl⟩ dX11_shares_3 ?_
  refine W.eq (g2 := F0 m 6 ls [.int (iI (Z (2 + 81 * u + 2 * k).toNat))]) rfl ?_
  refine q_nm (fun kd hkd => ?_)
  rw [((hz.2 u hu).2 (k) (by omega)).1] at hkd
  refine lv_istore_n (lv' := [(3, .int (iI kd)), (0, .ref mo), (1, .int (iI u)), (2, .int (iI k))]) S0.1 S0.2.1 dX11_shares_6 rfl hl (by decide) rfl (fun ls hl => ?_)
  refine lv_aload_n S0.1 S0.2.1 dX11_shares_7 rfl (lv_at hl 1 rfl) ?_
  refine lv_iload_n S0.1 S0.2.1 dX11_shares_8 rfl (lv_at hl 2 rfl) ?_
  refine lv_iload_n S0.1 S0.2.1 dX11_shares_9 rfl (lv_at hl 3 rfl) ?_
  refine q_pV (n := 2) (rest := []) S0 hK (c_X11_number l g mo az ap ak ax a1 a2 a3 a4 a5 a6 v1 v2 v3 v4 v5 v6 pm ik ty th mn wt bn wh dp dg Z u k (hu) (by omega)) (subP hW.1 [0, 1] rfl) (trivial) gX11_shares_X11_number rfl rfl rfl (by decide +kernel) ⟨Nat.le_of_ble_eq_true rfl, Nat.le_of_ble_eq_true rfl⟩ (q_recv hK hW.1 (ci := 11) (q0 := 0) rfl rfl) rfl rfl hl.1 (Nat.le_of_ble_eq_true rfl) ⟨Nat.le_of_ble_eq_true rfl, Nat.le_of_ble_eq_true rfl⟩ dX11_shares_10 ?_
  refine W.eq (g2 := F0 m 13 ls [.int (iI (Z (3 + 81 * u + 2 * k).toNat))]) rfl ?_
  refine q_nm (fun nu hnu => ?_)
  rw [((hz.2 u hu).2 (k) (by omega)).2] at hnu
  refine lv_istore (lv' := [(4, .int (iI nu)), (3, .int (iI kd)), (0, .ref mo), (1, .int (iI u)), (2, .int (iI k))]) S0.1 S0.2.1 dX11_shares_13 hl (by decide) rfl (fun ls hl => ?_)
  have hkk := kc_cases hK9
  rw [← hkd] at hkk
  rw [← hnu] at hU9 hca
  have rgu := gv_rng (w := Wv) (p := fP F) (i := eL (fE F u.toNat) k.toNat) (k := k.toNat) (by omega) (fun j hj => hw j (by omega)) (by omega) hL9
  have rgw := gv_rng (w := Wv) (p := fP F) (i := eV (fE F u.toNat) k.toNat) (k := k.toNat) (by omega) (fun j hj => hw j (by omega)) (by omega) hV9
  refine lv_aload_n S0.1 S0.2.1 dX11_shares_15 rfl (lv_at hl 2 rfl) ?_
  refine q_get (C := RX11) (T := TX11) (N := 26) S0 hK hW.1 hinX11 0 rfl rfl 20 (by decide) (List.mem_of_getElem? (i := 1) rfl) rfl rfl dX11_shares_16 ?_
  refine lv_iload_n S0.1 S0.2.1 dX11_shares_19 rfl (lv_at hl 4 rfl) ?_
  refine q_iald S0 hK hW.1 6 rfl (by omega) dX11_shares_20 ?_
  refine q_nm (fun a9 ha9 => ?_)
  rw [← ha9] at har
  refine lv_istore (lv' := [(5, .int (iI a9)), (4, .int (iI nu)), (3, .int (iI kd)), (0, .ref mo), (1, .int (iI u)), (2, .int (iI k))]) S0.1 S0.2.1 dX11_shares_21 hl (by decide) rfl (fun ls hl => ?_)
  refine lv_aload_n S0.1 S0.2.1 dX11_shares_23 rfl (lv_at hl 3 rfl) ?_
  refine q_get (C := RX11) (T := TX11) (N := 26) S0 hK hW.1 hinX11 0 rfl rfl 18 (by decide) (List.mem_of_getElem? (i := 2) rfl) rfl rfl dX11_shares_24 ?_
  refine lv_iload_n S0.1 S0.2.1 dX11_shares_27 rfl (lv_at hl 5 rfl) ?_
  refine q_iald S0 hK hW.1 4 rfl (by omega) dX11_shares_28 ?_
  refine q_topI (b := eL (fE F u.toNat) k.toNat) (hLk) ?_
  refine q_nm (fun l9 hl9 => ?_)
  refine lv_istore (lv' := [(6, .int (iI l9)), (5, .int (iI a9)), (4, .int (iI nu)), (3, .int (iI kd)), (0, .ref mo), (1, .int (iI u)), (2, .int (iI k))]) S0.1 S0.2.1 dX11_shares_29 hl (by decide) rfl (fun ls hl => ?_)
  refine lv_aload_n S0.1 S0.2.1 dX11_shares_31 rfl (lv_at hl 4 rfl) ?_
  refine q_get (C := RX11) (T := TX11) (N := 26) S0 hK hW.1 hinX11 0 rfl rfl 19 (by decide) (List.mem_of_getElem? (i := 3) rfl) rfl rfl dX11_shares_32 ?_
  refine lv_iload_n S0.1 S0.2.1 dX11_shares_35 rfl (lv_at hl 6 rfl) ?_
  refine q_iald S0 hK hW.1 5 rfl (by omega) dX11_shares_36 ?_
  refine q_topI (b := eV (fE F u.toNat) k.toNat) (hVk) ?_
  refine q_nm (fun r9 hr9 => ?_)
  have hLV9 : (3 ≤ kd ∧ kd ≤ 6 → 0 ≤ l9 ∧ l9 < k ∧ 0 ≤ r9 ∧ r9 < k ∧ ¬ l9 = r9) ∧ (kd = 2 ∨ kd = 7 ∨ kd = 8 → 0 ≤ l9 ∧ l9 < k) := by unfold WFK at hE9; omega
  refine lv_istore (lv' := [(7, .int (iI r9)), (6, .int (iI l9)), (5, .int (iI a9)), (4, .int (iI nu)), (3, .int (iI kd)), (0, .ref mo), (1, .int (iI u)), (2, .int (iI k))]) S0.1 S0.2.1 dX11_shares_37 hl (by decide) rfl (fun ls hl => ?_)
  refine lv_iload_n S0.1 S0.2.1 dX11_shares_39 rfl (lv_at hl 4 rfl) ?_
  refine q_iconst S0 dX11_shares_40 ?_
  refine q_icmp_ne (tgt := 68) S0 (by omega) dX11_shares_41 (by decide) (fun c41 => ?_) (fun c41 => ?_)
  · skip
    refine lv_iload_n S0.1 S0.2.1 dX11_shares_68 rfl (lv_at hl 4 rfl) ?_
    refine q_iconst S0 dX11_shares_69 ?_
    refine q_icmp_eq (tgt := 78) S0 (by omega) dX11_shares_70 (by decide) (fun c70 => ?_) (fun c70 => ?_)
    · skip
      refine lv_aload_n S0.1 S0.2.1 dX11_shares_78 rfl (lv_at hl 5 rfl) ?_
      refine q_get (C := RX11) (T := TX11) (N := 26) S0 hK hW.1 hinX11 0 rfl rfl 20 (by decide) (List.mem_of_getElem? (i := 1) rfl) rfl rfl dX11_shares_79 ?_
      refine lv_iload S0.1 S0.2.1 dX11_shares_82 (lv_at hl 1 rfl) ?_
      refine lv_aload_n S0.1 S0.2.1 dX11_shares_84 rfl (lv_at hl 5 rfl) ?_
      refine lv_aload_n S0.1 S0.2.1 dX11_shares_85 rfl (lv_at hl 5 rfl) ?_
      refine q_get (C := RX11) (T := TX11) (N := 26) S0 hK hW.1 hinX11 0 rfl rfl 20 (by decide) (List.mem_of_getElem? (i := 1) rfl) rfl rfl dX11_shares_86 ?_
      refine lv_iload S0.1 S0.2.1 dX11_shares_89 (lv_at hl 1 rfl) ?_
      refine q_iald S0 hK hW.1 6 rfl (by omega) dX11_shares_91 ?_
      refine q_topI (b := 0) (by rw [hl9]; exact hzL (by omega)) ?_
      refine lv_iload S0.1 S0.2.1 dX11_shares_92 (lv_at hl 2 rfl) ?_
      refine q_iadd S0 dX11_shares_94 ?_
      refine q_pV (n := 1) (rest := [.int (iI l9), .ref v5]) S0 hK (c_X11_p l g mo az ap ak ax a1 a2 a3 a4 a5 a6 v1 v2 v3 v4 v5 v6 pm ik ty th mn wt bn wh dp dg Z (fP F) (0 + a9) (hpr) (hz.1) (by omega)) (subP hW.1 [0, 1] rfl) (trivial) gX11_shares_X11_p rfl rfl rfl (by decide +kernel) ⟨Nat.le_of_ble_eq_true rfl, Nat.le_of_ble_eq_true rfl⟩ (q_recv hK hW.1 (ci := 11) (q0 := 0) rfl rfl) rfl rfl hl.1 (Nat.le_of_ble_eq_true rfl) ⟨Nat.le_of_ble_eq_true rfl, Nat.le_of_ble_eq_true rfl⟩ dX11_shares_95 ?_
      refine W.eq (g2 := F0 m 98 ls [.int (iI ((0 + a9) % (fP F))), .int (iI l9), .ref v5]) rfl ?_
      refine q_iast S0 hK hW 6 rfl (by omega) dX11_shares_98 (fun H locs hW => ?_)
      have hW : gW g A s.heap H _ [(mo, .inr (11, [.ref az, .ref ap, .int (iI pm), .ref ak, .int (iI ik), .ref ax, .int (iI ty), .int (iI th), .ref a1, .ref a2, .int (iI mn), .ref a3, .int (iI wt), .ref a4, .ref a5, .ref a6, .ref v1, .ref v2, .ref v3, .ref v4, .ref v5, .ref v6, .int (iI bn), .int (iI wh), .int (iI dp), .int (iI dg)])), (az, gI g 325 Z), (a6, gI g 796 RU), (v1, gI g 41 Wv), (v3, gI g 41 L), (v4, gI g 41 V), (v5, gI g 41 (up Sh0 ((l9).toNat) ((0 + a9) % (fP F))))] := hW
      refine lv_aload_n S0.1 S0.2.1 dX11_shares_99 rfl (lv_at hl 5 rfl) ?_
      refine q_get (C := RX11) (T := TX11) (N := 26) S0 hK hW.1 hinX11 0 rfl rfl 20 (by decide) (List.mem_of_getElem? (i := 1) rfl) rfl rfl dX11_shares_100 ?_
      refine lv_iload S0.1 S0.2.1 dX11_shares_103 (lv_at hl 0 rfl) ?_
      refine lv_aload_n S0.1 S0.2.1 dX11_shares_105 rfl (lv_at hl 5 rfl) ?_
      refine lv_aload_n S0.1 S0.2.1 dX11_shares_106 rfl (lv_at hl 5 rfl) ?_
      refine q_get (C := RX11) (T := TX11) (N := 26) S0 hK hW.1 hinX11 0 rfl rfl 20 (by decide) (List.mem_of_getElem? (i := 1) rfl) rfl rfl dX11_shares_107 ?_
      refine lv_iload S0.1 S0.2.1 dX11_shares_110 (lv_at hl 0 rfl) ?_
      refine q_iald S0 hK hW.1 6 rfl (by omega) dX11_shares_112 ?_
      refine q_topI (b := 0) (by rw [up_n (by omega), hr9]; exact hzV (by omega)) ?_
      refine q_cut (α := Int) (fun m9 => F0 m 126 ls (.int (iI m9) :: [.int (iI 0), .ref mo, .int (iI r9), .ref v5])) (fun m9 => m9 = if kd = 3 then a9 else -a9) (fun m9 hm9 => ?_) (fun hJ113 => ?_)
      · skip
        refine q_iadd S0 dX11_shares_126 ?_
        have hmr : -200 < m9 ∧ m9 < 200 := by rw [hm9]; split <;> omega
        refine q_pV (n := 1) (rest := [.int (iI r9), .ref v5]) S0 hK (c_X11_p l g mo az ap ak ax a1 a2 a3 a4 a5 a6 v1 v2 v3 v4 v5 v6 pm ik ty th mn wt bn wh dp dg Z (fP F) (0 + m9) (hpr) (hz.1) (by omega)) (subP hW.1 [0, 1] rfl) (trivial) gX11_shares_X11_p rfl rfl rfl (by decide +kernel) ⟨Nat.le_of_ble_eq_true rfl, Nat.le_of_ble_eq_true rfl⟩ (q_recv hK hW.1 (ci := 11) (q0 := 0) rfl rfl) rfl rfl hl.1 (Nat.le_of_ble_eq_true rfl) ⟨Nat.le_of_ble_eq_true rfl, Nat.le_of_ble_eq_true rfl⟩ dX11_shares_127 ?_
        refine W.eq (g2 := F0 m 130 ls [.int (iI ((0 + m9) % (fP F))), .int (iI r9), .ref v5]) rfl ?_
        refine q_iast S0 hK hW 6 rfl (by omega) dX11_shares_130 (fun H locs hW => ?_)
        have hW : gW g A s.heap H _ [(mo, .inr (11, [.ref az, .ref ap, .int (iI pm), .ref ak, .int (iI ik), .ref ax, .int (iI ty), .int (iI th), .ref a1, .ref a2, .int (iI mn), .ref a3, .int (iI wt), .ref a4, .ref a5, .ref a6, .ref v1, .ref v2, .ref v3, .ref v4, .ref v5, .ref v6, .int (iI bn), .int (iI wh), .int (iI dp), .int (iI dg)])), (az, gI g 325 Z), (a6, gI g 796 RU), (v1, gI g 41 Wv), (v3, gI g 41 L), (v4, gI g 41 V), (v5, gI g 41 (up (up Sh0 ((l9).toNat) ((0 + a9) % (fP F))) ((r9).toNat) ((0 + m9) % (fP F))))] := hW
        refine lv_goto (tgt := 394) S0.1 S0.2.1 dX11_shares_131 (by decide) ?_
        have hel : (0 + a9) % (fP F) = Sh0 k.toNat * lsh F u.toNat Wv k.toNat % fP F := by first | (exfalso; omega) | (rw [← ha9]; unfold lsh; (repeat (first | rw [if_pos (by omega)] | rw [if_neg (by omega)])); exact sh_neg) | (rw [← ha9]; unfold lsh; (repeat (first | rw [if_pos (by omega)] | rw [if_neg (by omega)])); rw [Int.zero_add, Int.mul_one]; done) | (rw [← ha9, hgw]; unfold lsh; (repeat (first | rw [if_pos (by omega)] | rw [if_neg (by omega)])); rw [Int.zero_add]; done) | (rw [← ha9]; unfold lsh; (repeat (first | rw [if_pos (by omega)] | rw [if_neg (by omega)])); rw [← hgw, inv_half hG.1 (by omega), Int.zero_add]; done) | (rw [← ha9]; unfold lsh; (repeat (first | rw [if_pos (by omega)] | rw [if_neg (by omega)])); rw [← hgu, ← hnu, Int.zero_add, Int.mul_comm]; done)| (rw [← ha9]; unfold lsh; (repeat (first | rw [if_pos (by omega)] | rw [if_neg (by omega)])); rw [← hgu, ← hnu, Int.zero_add]; done)
        have her : (0 + m9) % (fP F) = Sh0 k.toNat * rsh F u.toNat Wv k.toNat % fP F := by first | (exfalso; omega) | (rw [← ha9, hm9, if_pos (by omega)]; unfold rsh; (repeat (first | rw [if_pos (by omega)] | rw [if_neg (by omega)])); rw [Int.zero_add, Int.mul_one]; done) | (rw [← ha9, hm9, if_neg (by omega)]; unfold rsh; (repeat (first | rw [if_pos (by omega)] | rw [if_neg (by omega)])); rw [Int.zero_add, ← Int.zero_sub]; exact sh_neg) | (rw [← ha9, hgu]; unfold rsh; (repeat (first | rw [if_pos (by omega)] | rw [if_neg (by omega)])); rw [Int.zero_add]; done) | (rw [← ha9]; unfold rsh; (repeat (first | rw [if_pos (by omega)] | rw [if_neg (by omega)])); rw [← hgw, ← hgu, inv_sq hG.1 (by omega)]; exact sh_div)
        have hsp : shP F u Wv Sh0 (up (up Sh0 ((l9).toNat) ((0 + a9) % (fP F))) ((r9).toNat) ((0 + m9) % (fP F))) k.toNat := by unfold shP; rw [hl9, hr9]; exact shl2 (by omega) (by omega) hel her
        exact q_vret S0 hr hlocks (up (up Sh0 ((l9).toNat) ((0 + a9) % (fP F))) ((r9).toNat) ((0 + m9) % (fP F))) (hsp) rfl (hW.sub [0, 1, 2, 3, 4, 5, 6] rfl (rfl)) (Nat.le_of_ble_eq_true rfl) (Nat.le_of_ble_eq_true rfl) dX11_shares_394
      · skip
        refine lv_iload_n S0.1 S0.2.1 dX11_shares_113 rfl (lv_at hl 4 rfl) ?_
        refine q_iconst S0 dX11_shares_114 ?_
        refine q_icmp_ne (tgt := 123) S0 (by omega) dX11_shares_115 (by decide) (fun c115 => ?_) (fun c115 => ?_)
        · skip
          refine lv_iload S0.1 S0.2.1 dX11_shares_123 (lv_at hl 2 rfl) ?_
          refine q_ineg S0 dX11_shares_125 ?_
          exact hJ113 _ (by first | (rw [if_pos (by omega)]; done) | (rw [if_neg (by omega)]; done) | omega)
        · skip
          refine lv_iload S0.1 S0.2.1 dX11_shares_118 (lv_at hl 2 rfl) ?_
          refine lv_goto (tgt := 126) S0.1 S0.2.1 dX11_shares_120 (by decide) ?_
          exact hJ113 _ (by first | (rw [if_pos (by omega)]; done) | (rw [if_neg (by omega)]; done) | omega)
    · skip
      refine lv_iload_n S0.1 S0.2.1 dX11_shares_73 rfl (lv_at hl 4 rfl) ?_
      refine q_iconst S0 dX11_shares_74 ?_
      refine q_icmp_ne (tgt := 134) S0 (by omega) dX11_shares_75 (by decide) (fun c75 => ?_) (fun c75 => ?_)
      · skip
        refine lv_iload_n S0.1 S0.2.1 dX11_shares_134 rfl (lv_at hl 4 rfl) ?_
        refine q_iconst S0 dX11_shares_135 ?_
        refine q_icmp_ne (tgt := 200) S0 (by omega) dX11_shares_136 (by decide) (fun c136 => ?_) (fun c136 => ?_)
        · skip
          refine lv_iload_n S0.1 S0.2.1 dX11_shares_200 rfl (lv_at hl 4 rfl) ?_
          refine q_bipush S0 (by decide) dX11_shares_201 ?_
          refine q_icmp_ne (tgt := 289) S0 (by omega) dX11_shares_203 (by decide) (fun c203 => ?_) (fun c203 => ?_)
          · skip
            refine lv_iload_n S0.1 S0.2.1 dX11_shares_289 rfl (lv_at hl 4 rfl) ?_
            refine q_bipush S0 (by decide) dX11_shares_290 ?_
            refine q_icmp_ne (tgt := 347) S0 (by omega) dX11_shares_292 (by decide) (fun c292 => ?_) (fun c292 => ?_)
            · skip
              refine lv_iload_n S0.1 S0.2.1 dX11_shares_347 rfl (lv_at hl 4 rfl) ?_
              refine q_bipush S0 (by decide) dX11_shares_348 ?_
              refine q_icmp_ne (tgt := 394) S0 (by omega) dX11_shares_350 (by decide) (fun c350 => ?_) (fun c350 => ?_)
              · skip
                have hsp : shP F u Wv Sh0 Sh0 k.toNat := by first | exact shl0 (by unfold WFK at hE9; omega) (by unfold WFK at hE9; omega) | exact shl3 (l := eL (fE F u.toNat) k.toNat) (by omega) (by unfold WFK at hE9; omega) (hzL (by omega)) (by rw [show lsh F u.toNat Wv k.toNat = 0 from by unfold lsh; (repeat (first | rw [if_pos (by omega)] | rw [if_neg (by omega)])); rw [← hnu, show nu = 0 by omega, Int.zero_mul, Int.zero_emod], Int.mul_zero, Int.zero_emod])
                exact q_vret S0 hr hlocks Sh0 (hsp) rfl (hW.sub [0, 1, 2, 3, 4, 5, 6] rfl (rfl)) (Nat.le_of_ble_eq_true rfl) (Nat.le_of_ble_eq_true rfl) dX11_shares_394
              · skip
                refine lv_aload_n S0.1 S0.2.1 dX11_shares_353 rfl (lv_at hl 5 rfl) ?_
                refine q_get (C := RX11) (T := TX11) (N := 26) S0 hK hW.1 hinX11 0 rfl rfl 20 (by decide) (List.mem_of_getElem? (i := 1) rfl) rfl rfl dX11_shares_354 ?_
                refine lv_iload S0.1 S0.2.1 dX11_shares_357 (lv_at hl 1 rfl) ?_
                refine lv_aload_n S0.1 S0.2.1 dX11_shares_359 rfl (lv_at hl 5 rfl) ?_
                refine lv_aload_n S0.1 S0.2.1 dX11_shares_360 rfl (lv_at hl 5 rfl) ?_
                refine q_get (C := RX11) (T := TX11) (N := 26) S0 hK hW.1 hinX11 0 rfl rfl 20 (by decide) (List.mem_of_getElem? (i := 1) rfl) rfl rfl dX11_shares_361 ?_
                refine lv_iload S0.1 S0.2.1 dX11_shares_364 (lv_at hl 1 rfl) ?_
                refine q_iald S0 hK hW.1 6 rfl (by omega) dX11_shares_366 ?_
                refine q_topI (b := 0) (by rw [hl9]; exact hzL (by omega)) ?_
                refine lv_iload S0.1 S0.2.1 dX11_shares_367 (lv_at hl 2 rfl) ?_
                refine lv_aload_n S0.1 S0.2.1 dX11_shares_369 rfl (lv_at hl 5 rfl) ?_
                refine q_get (C := RX11) (T := TX11) (N := 26) S0 hK hW.1 hinX11 0 rfl rfl 15 (by decide) (List.mem_of_getElem? (i := 5) rfl) rfl rfl dX11_shares_370 ?_
                refine q_sipush S0 (by decide) dX11_shares_373 ?_
                refine lv_iload S0.1 S0.2.1 dX11_shares_376 (lv_at hl 3 rfl) ?_
                refine q_imul S0 dX11_shares_378 ?_
                refine lv_aload_n S0.1 S0.2.1 dX11_shares_379 rfl (lv_at hl 5 rfl) ?_
                refine q_get (C := RX11) (T := TX11) (N := 26) S0 hK hW.1 hinX11 0 rfl rfl 16 (by decide) (List.mem_of_getElem? (i := 4) rfl) rfl rfl dX11_shares_380 ?_
                refine lv_iload S0.1 S0.2.1 dX11_shares_383 (lv_at hl 1 rfl) ?_
                refine q_iald S0 hK hW.1 3 rfl (by omega) dX11_shares_385 ?_
                refine q_topI (b := gv Wv (eL (fE F u.toNat) k.toNat)) (by rw [gv_of (by omega), ← hl9]) ?_
                refine q_nm (fun gu hgu => ?_)
                rw [← hgu] at rgu
                refine q_iadd S0 dX11_shares_386 ?_
                refine q_iald S0 hK hW.1 2 rfl (by omega) dX11_shares_387 ?_
                refine q_topI (b := hh (fP F) (fE F) nu.toNat gu) (hRU nu gu (by omega) (by omega) rgu.1 rgu.2) ?_
                have hca9 := hca (by omega)
                rw [← hgu] at hca9
                have hhr := GF_hh hG (f := nu.toNat) (x := gu) (by omega)
                have hbi := hh_bad_iff hG (f := nu.toNat) (x := gu) (by omega) rgu
                have hhr2 : 0 ≤ hh (fP F) (fE F) nu.toNat gu ∧ hh (fP F) (fE F) nu.toNat gu < fP F := by rcases hhr with q | q; exact absurd (hbi.mp q) hca9; exact q
                have hm1 := mul_rng (a := a9) (b := hh (fP F) (fE F) nu.toNat gu) (n := 200) (k := 200) (by omega) (by omega)
                refine q_imul S0 dX11_shares_388 ?_
                refine q_iadd S0 dX11_shares_389 ?_
                refine q_pV (n := 1) (rest := [.int (iI l9), .ref v5]) S0 hK (c_X11_p l g mo az ap ak ax a1 a2 a3 a4 a5 a6 v1 v2 v3 v4 v5 v6 pm ik ty th mn wt bn wh dp dg Z (fP F) (0 + (a9 * (hh (fP F) (fE F) nu.toNat gu))) (hpr) (hz.1) (by omega)) (subP hW.1 [0, 1] rfl) (trivial) gX11_shares_X11_p rfl rfl rfl (by decide +kernel) ⟨Nat.le_of_ble_eq_true rfl, Nat.le_of_ble_eq_true rfl⟩ (q_recv hK hW.1 (ci := 11) (q0 := 0) rfl rfl) rfl rfl hl.1 (Nat.le_of_ble_eq_true rfl) ⟨Nat.le_of_ble_eq_true rfl, Nat.le_of_ble_eq_true rfl⟩ dX11_shares_390 ?_
                refine W.eq (g2 := F0 m 393 ls [.int (iI ((0 + (a9 * (hh (fP F) (fE F) nu.toNat gu))) % (fP F))), .int (iI l9), .ref v5]) rfl ?_
                refine q_iast S0 hK hW 6 rfl (by omega) dX11_shares_393 (fun H locs hW => ?_)
                have hW : gW g A s.heap H _ [(mo, .inr (11, [.ref az, .ref ap, .int (iI pm), .ref ak, .int (iI ik), .ref ax, .int (iI ty), .int (iI th), .ref a1, .ref a2, .int (iI mn), .ref a3, .int (iI wt), .ref a4, .ref a5, .ref a6, .ref v1, .ref v2, .ref v3, .ref v4, .ref v5, .ref v6, .int (iI bn), .int (iI wh), .int (iI dp), .int (iI dg)])), (az, gI g 325 Z), (a6, gI g 796 RU), (v1, gI g 41 Wv), (v3, gI g 41 L), (v4, gI g 41 V), (v5, gI g 41 (up Sh0 ((l9).toNat) ((0 + (a9 * (hh (fP F) (fE F) nu.toNat gu))) % (fP F))))] := hW
                have hel : (0 + (a9 * (hh (fP F) (fE F) nu.toNat gu))) % (fP F) = Sh0 k.toNat * lsh F u.toNat Wv k.toNat % fP F := by first | (exfalso; omega) | (rw [← ha9]; unfold lsh; (repeat (first | rw [if_pos (by omega)] | rw [if_neg (by omega)])); exact sh_neg) | (rw [← ha9]; unfold lsh; (repeat (first | rw [if_pos (by omega)] | rw [if_neg (by omega)])); rw [Int.zero_add, Int.mul_one]; done) | (rw [← ha9, hgw]; unfold lsh; (repeat (first | rw [if_pos (by omega)] | rw [if_neg (by omega)])); rw [Int.zero_add]; done) | (rw [← ha9]; unfold lsh; (repeat (first | rw [if_pos (by omega)] | rw [if_neg (by omega)])); rw [← hgw, inv_half hG.1 (by omega), Int.zero_add]; done) | (rw [← ha9]; unfold lsh; (repeat (first | rw [if_pos (by omega)] | rw [if_neg (by omega)])); rw [← hgu, ← hnu, Int.zero_add, Int.mul_comm]; done)| (rw [← ha9]; unfold lsh; (repeat (first | rw [if_pos (by omega)] | rw [if_neg (by omega)])); rw [← hgu, ← hnu, Int.zero_add]; done)
                have hsp : shP F u Wv Sh0 (up Sh0 ((l9).toNat) ((0 + (a9 * (hh (fP F) (fE F) nu.toNat gu))) % (fP F))) k.toNat := by unfold shP; rw [hl9]; exact shl1 (by omega) (by unfold WFK at hE9; omega) hel
                exact q_vret S0 hr hlocks (up Sh0 ((l9).toNat) ((0 + (a9 * (hh (fP F) (fE F) nu.toNat gu))) % (fP F))) (hsp) rfl (hW.sub [0, 1, 2, 3, 4, 5, 6] rfl (rfl)) (Nat.le_of_ble_eq_true rfl) (Nat.le_of_ble_eq_true rfl) dX11_shares_394
            · skip
              refine lv_iload S0.1 S0.2.1 dX11_shares_295 (lv_at hl 3 rfl) ?_
              refine q_if_le (tgt := 347) S0 (by omega) dX11_shares_297 (by decide) (fun c297 => ?_) (fun c297 => ?_)
              · skip
                refine lv_iload_n S0.1 S0.2.1 dX11_shares_347 rfl (lv_at hl 4 rfl) ?_
                refine q_bipush S0 (by decide) dX11_shares_348 ?_
                refine q_icmp_ne (tgt := 394) S0 (by omega) dX11_shares_350 (by decide) (fun c350 => ?_) (fun c350 => ?_)
                · skip
                  have hsp : shP F u Wv Sh0 Sh0 k.toNat := by first | exact shl0 (by unfold WFK at hE9; omega) (by unfold WFK at hE9; omega) | exact shl3 (l := eL (fE F u.toNat) k.toNat) (by omega) (by unfold WFK at hE9; omega) (hzL (by omega)) (by rw [show lsh F u.toNat Wv k.toNat = 0 from by unfold lsh; (repeat (first | rw [if_pos (by omega)] | rw [if_neg (by omega)])); rw [← hnu, show nu = 0 by omega, Int.zero_mul, Int.zero_emod], Int.mul_zero, Int.zero_emod])
                  exact q_vret S0 hr hlocks Sh0 (hsp) rfl (hW.sub [0, 1, 2, 3, 4, 5, 6] rfl (rfl)) (Nat.le_of_ble_eq_true rfl) (Nat.le_of_ble_eq_true rfl) dX11_shares_394
                · skip
                  refine lv_aload_n S0.1 S0.2.1 dX11_shares_353 rfl (lv_at hl 5 rfl) ?_
                  refine q_get (C := RX11) (T := TX11) (N := 26) S0 hK hW.1 hinX11 0 rfl rfl 20 (by decide) (List.mem_of_getElem? (i := 1) rfl) rfl rfl dX11_shares_354 ?_
                  refine lv_iload S0.1 S0.2.1 dX11_shares_357 (lv_at hl 1 rfl) ?_
                  refine lv_aload_n S0.1 S0.2.1 dX11_shares_359 rfl (lv_at hl 5 rfl) ?_
                  refine lv_aload_n S0.1 S0.2.1 dX11_shares_360 rfl (lv_at hl 5 rfl) ?_
                  refine q_get (C := RX11) (T := TX11) (N := 26) S0 hK hW.1 hinX11 0 rfl rfl 20 (by decide) (List.mem_of_getElem? (i := 1) rfl) rfl rfl dX11_shares_361 ?_
                  refine lv_iload S0.1 S0.2.1 dX11_shares_364 (lv_at hl 1 rfl) ?_
                  refine q_iald S0 hK hW.1 6 rfl (by omega) dX11_shares_366 ?_
                  refine q_topI (b := 0) (by rw [hl9]; exact hzL (by omega)) ?_
                  refine lv_iload S0.1 S0.2.1 dX11_shares_367 (lv_at hl 2 rfl) ?_
                  refine lv_aload_n S0.1 S0.2.1 dX11_shares_369 rfl (lv_at hl 5 rfl) ?_
                  refine q_get (C := RX11) (T := TX11) (N := 26) S0 hK hW.1 hinX11 0 rfl rfl 15 (by decide) (List.mem_of_getElem? (i := 5) rfl) rfl rfl dX11_shares_370 ?_
                  refine q_sipush S0 (by decide) dX11_shares_373 ?_
                  refine lv_iload S0.1 S0.2.1 dX11_shares_376 (lv_at hl 3 rfl) ?_
                  refine q_imul S0 dX11_shares_378 ?_
                  refine lv_aload_n S0.1 S0.2.1 dX11_shares_379 rfl (lv_at hl 5 rfl) ?_
                  refine q_get (C := RX11) (T := TX11) (N := 26) S0 hK hW.1 hinX11 0 rfl rfl 16 (by decide) (List.mem_of_getElem? (i := 4) rfl) rfl rfl dX11_shares_380 ?_
                  refine lv_iload S0.1 S0.2.1 dX11_shares_383 (lv_at hl 1 rfl) ?_
                  refine q_iald S0 hK hW.1 3 rfl (by omega) dX11_shares_385 ?_
                  refine q_topI (b := gv Wv (eL (fE F u.toNat) k.toNat)) (by rw [gv_of (by omega), ← hl9]) ?_
                  refine q_nm (fun gu hgu => ?_)
                  rw [← hgu] at rgu
                  refine q_iadd S0 dX11_shares_386 ?_
                  refine q_iald S0 hK hW.1 2 rfl (by omega) dX11_shares_387 ?_
                  refine q_topI (b := hh (fP F) (fE F) nu.toNat gu) (hRU nu gu (by omega) (by omega) rgu.1 rgu.2) ?_
                  have hca9 := hca (by omega)
                  rw [← hgu] at hca9
                  have hhr := GF_hh hG (f := nu.toNat) (x := gu) (by omega)
                  have hbi := hh_bad_iff hG (f := nu.toNat) (x := gu) (by omega) rgu
                  have hhr2 : 0 ≤ hh (fP F) (fE F) nu.toNat gu ∧ hh (fP F) (fE F) nu.toNat gu < fP F := by rcases hhr with q | q; exact absurd (hbi.mp q) hca9; exact q
                  have hm1 := mul_rng (a := a9) (b := hh (fP F) (fE F) nu.toNat gu) (n := 200) (k := 200) (by omega) (by omega)
                  refine q_imul S0 dX11_shares_388 ?_
                  refine q_iadd S0 dX11_shares_389 ?_
                  refine q_pV (n := 1) (rest := [.int (iI l9), .ref v5]) S0 hK (c_X11_p l g mo az ap ak ax a1 a2 a3 a4 a5 a6 v1 v2 v3 v4 v5 v6 pm ik ty th mn wt bn wh dp dg Z (fP F) (0 + (a9 * (hh (fP F) (fE F) nu.toNat gu))) (hpr) (hz.1) (by omega)) (subP hW.1 [0, 1] rfl) (trivial) gX11_shares_X11_p rfl rfl rfl (by decide +kernel) ⟨Nat.le_of_ble_eq_true rfl, Nat.le_of_ble_eq_true rfl⟩ (q_recv hK hW.1 (ci := 11) (q0 := 0) rfl rfl) rfl rfl hl.1 (Nat.le_of_ble_eq_true rfl) ⟨Nat.le_of_ble_eq_true rfl, Nat.le_of_ble_eq_true rfl⟩ dX11_shares_390 ?_
                  refine W.eq (g2 := F0 m 393 ls [.int (iI ((0 + (a9 * (hh (fP F) (fE F) nu.toNat gu))) % (fP F))), .int (iI l9), .ref v5]) rfl ?_
                  refine q_iast S0 hK hW 6 rfl (by omega) dX11_shares_393 (fun H locs hW => ?_)
                  have hW : gW g A s.heap H _ [(mo, .inr (11, [.ref az, .ref ap, .int (iI pm), .ref ak, .int (iI ik), .ref ax, .int (iI ty), .int (iI th), .ref a1, .ref a2, .int (iI mn), .ref a3, .int (iI wt), .ref a4, .ref a5, .ref a6, .ref v1, .ref v2, .ref v3, .ref v4, .ref v5, .ref v6, .int (iI bn), .int (iI wh), .int (iI dp), .int (iI dg)])), (az, gI g 325 Z), (a6, gI g 796 RU), (v1, gI g 41 Wv), (v3, gI g 41 L), (v4, gI g 41 V), (v5, gI g 41 (up Sh0 ((l9).toNat) ((0 + (a9 * (hh (fP F) (fE F) nu.toNat gu))) % (fP F))))] := hW
                  have hel : (0 + (a9 * (hh (fP F) (fE F) nu.toNat gu))) % (fP F) = Sh0 k.toNat * lsh F u.toNat Wv k.toNat % fP F := by first | (exfalso; omega) | (rw [← ha9]; unfold lsh; (repeat (first | rw [if_pos (by omega)] | rw [if_neg (by omega)])); exact sh_neg) | (rw [← ha9]; unfold lsh; (repeat (first | rw [if_pos (by omega)] | rw [if_neg (by omega)])); rw [Int.zero_add, Int.mul_one]; done) | (rw [← ha9, hgw]; unfold lsh; (repeat (first | rw [if_pos (by omega)] | rw [if_neg (by omega)])); rw [Int.zero_add]; done) | (rw [← ha9]; unfold lsh; (repeat (first | rw [if_pos (by omega)] | rw [if_neg (by omega)])); rw [← hgw, inv_half hG.1 (by omega), Int.zero_add]; done) | (rw [← ha9]; unfold lsh; (repeat (first | rw [if_pos (by omega)] | rw [if_neg (by omega)])); rw [← hgu, ← hnu, Int.zero_add, Int.mul_comm]; done)| (rw [← ha9]; unfold lsh; (repeat (first | rw [if_pos (by omega)] | rw [if_neg (by omega)])); rw [← hgu, ← hnu, Int.zero_add]; done)
                  have hsp : shP F u Wv Sh0 (up Sh0 ((l9).toNat) ((0 + (a9 * (hh (fP F) (fE F) nu.toNat gu))) % (fP F))) k.toNat := by unfold shP; rw [hl9]; exact shl1 (by omega) (by unfold WFK at hE9; omega) hel
                  exact q_vret S0 hr hlocks (up Sh0 ((l9).toNat) ((0 + (a9 * (hh (fP F) (fE F) nu.toNat gu))) % (fP F))) (hsp) rfl (hW.sub [0, 1, 2, 3, 4, 5, 6] rfl (rfl)) (Nat.le_of_ble_eq_true rfl) (Nat.le_of_ble_eq_true rfl) dX11_shares_394
              · skip
                refine lv_aload_n S0.1 S0.2.1 dX11_shares_300 rfl (lv_at hl 5 rfl) ?_
                refine q_get (C := RX11) (T := TX11) (N := 26) S0 hK hW.1 hinX11 0 rfl rfl 20 (by decide) (List.mem_of_getElem? (i := 1) rfl) rfl rfl dX11_shares_301 ?_
                refine lv_iload S0.1 S0.2.1 dX11_shares_304 (lv_at hl 1 rfl) ?_
                refine lv_aload_n S0.1 S0.2.1 dX11_shares_306 rfl (lv_at hl 5 rfl) ?_
                refine lv_aload_n S0.1 S0.2.1 dX11_shares_307 rfl (lv_at hl 5 rfl) ?_
                refine q_get (C := RX11) (T := TX11) (N := 26) S0 hK hW.1 hinX11 0 rfl rfl 20 (by decide) (List.mem_of_getElem? (i := 1) rfl) rfl rfl dX11_shares_308 ?_
                refine lv_iload S0.1 S0.2.1 dX11_shares_311 (lv_at hl 1 rfl) ?_
                refine q_iald S0 hK hW.1 6 rfl (by omega) dX11_shares_313 ?_
                refine q_topI (b := 0) (by rw [hl9]; exact hzL (by omega)) ?_
                refine lv_aload_n S0.1 S0.2.1 dX11_shares_314 rfl (lv_at hl 5 rfl) ?_
                refine lv_iload S0.1 S0.2.1 dX11_shares_315 (lv_at hl 3 rfl) ?_
                refine lv_aload_n S0.1 S0.2.1 dX11_shares_317 rfl (lv_at hl 5 rfl) ?_
                refine lv_aload_n S0.1 S0.2.1 dX11_shares_318 rfl (lv_at hl 5 rfl) ?_
                refine q_get (C := RX11) (T := TX11) (N := 26) S0 hK hW.1 hinX11 0 rfl rfl 16 (by decide) (List.mem_of_getElem? (i := 4) rfl) rfl rfl dX11_shares_319 ?_
                refine lv_iload S0.1 S0.2.1 dX11_shares_322 (lv_at hl 1 rfl) ?_
                refine q_iald S0 hK hW.1 3 rfl (by omega) dX11_shares_324 ?_
                refine q_topI (b := gv Wv (eL (fE F u.toNat) k.toNat)) (by rw [gv_of (by omega), ← hl9]) ?_
                refine q_nm (fun gu hgu => ?_)
                rw [← hgu] at rgu
                refine lv_iload S0.1 S0.2.1 dX11_shares_325 (lv_at hl 3 rfl) ?_
                refine q_iconst S0 dX11_shares_327 ?_
                refine q_isub S0 dX11_shares_328 ?_
                refine q_pV (n := 2) (rest := [.int (iI nu), .ref mo, .int (iI 0), .ref mo, .int (iI l9), .ref v5]) S0 hK (c_X11_power l g mo az ap ak ax a1 a2 a3 a4 a5 a6 v1 v2 v3 v4 v5 v6 pm ik ty th mn wt bn wh dp dg Z (fP F) gu (nu - 1) (hpr) (hz.1) (by omega) (by omega)) (subP hW.1 [0, 1] rfl) (trivial) gX11_shares_X11_power rfl rfl rfl (by decide +kernel) ⟨Nat.le_of_ble_eq_true rfl, Nat.le_of_ble_eq_true rfl⟩ (q_recv hK hW.1 (ci := 11) (q0 := 0) rfl rfl) rfl rfl hl.1 (Nat.le_of_ble_eq_true rfl) ⟨Nat.le_of_ble_eq_true rfl, Nat.le_of_ble_eq_true rfl⟩ dX11_shares_329 ?_
                refine W.eq (g2 := F0 m 332 ls [.int (iI (gu ^ (nu - 1).toNat % (fP F))), .int (iI nu), .ref mo, .int (iI 0), .ref mo, .int (iI l9), .ref v5]) rfl ?_
                refine q_imul S0 dX11_shares_332 ?_
                have he1 := emod_rng (gu ^ (nu - 1).toNat) (p := fP F) (by omega)
                have hm1 := mul_rng (a := nu) (b := gu ^ (nu - 1).toNat % fP F) (n := 200) (k := 200) (by omega) (by omega)
                refine q_pV (n := 1) (rest := [.int (iI 0), .ref mo, .int (iI l9), .ref v5]) S0 hK (c_X11_p l g mo az ap ak ax a1 a2 a3 a4 a5 a6 v1 v2 v3 v4 v5 v6 pm ik ty th mn wt bn wh dp dg Z (fP F) (nu * (gu ^ (nu - 1).toNat % (fP F))) (hpr) (hz.1) (by omega)) (subP hW.1 [0, 1] rfl) (trivial) gX11_shares_X11_p rfl rfl rfl (by decide +kernel) ⟨Nat.le_of_ble_eq_true rfl, Nat.le_of_ble_eq_true rfl⟩ (q_recv hK hW.1 (ci := 11) (q0 := 0) rfl rfl) rfl rfl hl.1 (Nat.le_of_ble_eq_true rfl) ⟨Nat.le_of_ble_eq_true rfl, Nat.le_of_ble_eq_true rfl⟩ dX11_shares_333 ?_
                refine W.eq (g2 := F0 m 336 ls [.int (iI ((nu * (gu ^ (nu - 1).toNat % (fP F))) % (fP F))), .int (iI 0), .ref mo, .int (iI l9), .ref v5]) rfl ?_
                refine lv_iload S0.1 S0.2.1 dX11_shares_336 (lv_at hl 2 rfl) ?_
                refine q_imul S0 dX11_shares_338 ?_
                refine q_iadd S0 dX11_shares_339 ?_
                have he2 := emod_rng (nu * (gu ^ (nu - 1).toNat % fP F)) (p := fP F) (by omega)
                have hm2 := mul_rng (a := nu * (gu ^ (nu - 1).toNat % fP F) % fP F) (b := a9) (n := 200) (k := 200) (by omega) (by omega)
                refine q_pV (n := 1) (rest := [.int (iI l9), .ref v5]) S0 hK (c_X11_p l g mo az ap ak ax a1 a2 a3 a4 a5 a6 v1 v2 v3 v4 v5 v6 pm ik ty th mn wt bn wh dp dg Z (fP F) (0 + (((nu * (gu ^ (nu - 1).toNat % (fP F))) % (fP F)) * a9)) (hpr) (hz.1) (by omega)) (subP hW.1 [0, 1] rfl) (trivial) gX11_shares_X11_p rfl rfl rfl (by decide +kernel) ⟨Nat.le_of_ble_eq_true rfl, Nat.le_of_ble_eq_true rfl⟩ (q_recv hK hW.1 (ci := 11) (q0 := 0) rfl rfl) rfl rfl hl.1 (Nat.le_of_ble_eq_true rfl) ⟨Nat.le_of_ble_eq_true rfl, Nat.le_of_ble_eq_true rfl⟩ dX11_shares_340 ?_
                refine W.eq (g2 := F0 m 343 ls [.int (iI ((0 + (((nu * (gu ^ (nu - 1).toNat % (fP F))) % (fP F)) * a9)) % (fP F))), .int (iI l9), .ref v5]) rfl ?_
                refine q_iast S0 hK hW 6 rfl (by omega) dX11_shares_343 (fun H locs hW => ?_)
                have hW : gW g A s.heap H _ [(mo, .inr (11, [.ref az, .ref ap, .int (iI pm), .ref ak, .int (iI ik), .ref ax, .int (iI ty), .int (iI th), .ref a1, .ref a2, .int (iI mn), .ref a3, .int (iI wt), .ref a4, .ref a5, .ref a6, .ref v1, .ref v2, .ref v3, .ref v4, .ref v5, .ref v6, .int (iI bn), .int (iI wh), .int (iI dp), .int (iI dg)])), (az, gI g 325 Z), (a6, gI g 796 RU), (v1, gI g 41 Wv), (v3, gI g 41 L), (v4, gI g 41 V), (v5, gI g 41 (up Sh0 ((l9).toNat) ((0 + (((nu * (gu ^ (nu - 1).toNat % (fP F))) % (fP F)) * a9)) % (fP F))))] := hW
                refine lv_goto (tgt := 394) S0.1 S0.2.1 dX11_shares_344 (by decide) ?_
                have hel : (0 + (((nu * (gu ^ (nu - 1).toNat % (fP F))) % (fP F)) * a9)) % (fP F) = Sh0 k.toNat * lsh F u.toNat Wv k.toNat % fP F := by first | (exfalso; omega) | (rw [← ha9]; unfold lsh; (repeat (first | rw [if_pos (by omega)] | rw [if_neg (by omega)])); exact sh_neg) | (rw [← ha9]; unfold lsh; (repeat (first | rw [if_pos (by omega)] | rw [if_neg (by omega)])); rw [Int.zero_add, Int.mul_one]; done) | (rw [← ha9, hgw]; unfold lsh; (repeat (first | rw [if_pos (by omega)] | rw [if_neg (by omega)])); rw [Int.zero_add]; done) | (rw [← ha9]; unfold lsh; (repeat (first | rw [if_pos (by omega)] | rw [if_neg (by omega)])); rw [← hgw, inv_half hG.1 (by omega), Int.zero_add]; done) | (rw [← ha9]; unfold lsh; (repeat (first | rw [if_pos (by omega)] | rw [if_neg (by omega)])); rw [← hgu, ← hnu, Int.zero_add, Int.mul_comm]; done)| (rw [← ha9]; unfold lsh; (repeat (first | rw [if_pos (by omega)] | rw [if_neg (by omega)])); rw [← hgu, ← hnu, Int.zero_add]; done)
                have hsp : shP F u Wv Sh0 (up Sh0 ((l9).toNat) ((0 + (((nu * (gu ^ (nu - 1).toNat % (fP F))) % (fP F)) * a9)) % (fP F))) k.toNat := by unfold shP; rw [hl9]; exact shl1 (by omega) (by unfold WFK at hE9; omega) hel
                exact q_vret S0 hr hlocks (up Sh0 ((l9).toNat) ((0 + (((nu * (gu ^ (nu - 1).toNat % (fP F))) % (fP F)) * a9)) % (fP F))) (hsp) rfl (hW.sub [0, 1, 2, 3, 4, 5, 6] rfl (rfl)) (Nat.le_of_ble_eq_true rfl) (Nat.le_of_ble_eq_true rfl) dX11_shares_394
          · skip
            refine lv_aload_n S0.1 S0.2.1 dX11_shares_206 rfl (lv_at hl 5 rfl) ?_
            refine lv_aload_n S0.1 S0.2.1 dX11_shares_207 rfl (lv_at hl 5 rfl) ?_
            refine q_get (C := RX11) (T := TX11) (N := 26) S0 hK hW.1 hinX11 0 rfl rfl 16 (by decide) (List.mem_of_getElem? (i := 4) rfl) rfl rfl dX11_shares_208 ?_
            refine lv_iload S0.1 S0.2.1 dX11_shares_211 (lv_at hl 0 rfl) ?_
            refine q_iald S0 hK hW.1 3 rfl (by omega) dX11_shares_213 ?_
            refine q_topI (b := gv Wv (eV (fE F u.toNat) k.toNat)) (by rw [gv_of (by omega), ← hr9]) ?_
            refine q_nm (fun gw hgw => ?_)
            rw [← hgw] at rgw
            have hdi9 := hdi (by omega)
            rw [← hgw] at hdi9
            refine q_pV (n := 1) (rest := []) S0 hK (c_X11_inverse l g mo az ap ak ax a1 a2 a3 a4 a5 a6 v1 v2 v3 v4 v5 v6 pm ik ty th mn wt bn wh dp dg Z (fP F) gw (hG.1) (hz.1) (by omega)) (subP hW.1 [0, 1] rfl) (trivial) gX11_shares_X11_inverse rfl rfl rfl (by decide +kernel) ⟨Nat.le_of_ble_eq_true rfl, Nat.le_of_ble_eq_true rfl⟩ (q_recv hK hW.1 (ci := 11) (q0 := 0) rfl rfl) rfl rfl hl.1 (Nat.le_of_ble_eq_true rfl) ⟨Nat.le_of_ble_eq_true rfl, Nat.le_of_ble_eq_true rfl⟩ dX11_shares_214 ?_
            refine W.eq (g2 := F0 m 217 ls [.int (iI (inv' (fP F) gw))]) rfl ?_
            refine lv_istore (lv' := [(8, .int (iI (inv' (fP F) gw))), (7, .int (iI r9)), (6, .int (iI l9)), (5, .int (iI a9)), (4, .int (iI nu)), (3, .int (iI kd)), (0, .ref mo), (1, .int (iI u)), (2, .int (iI k))]) S0.1 S0.2.1 dX11_shares_217 hl (by decide) rfl (fun ls hl => ?_)
            have hiv := inv_pos hG.1 (v := gw) (by omega)
            have hm1 := mul_rng (a := a9) (b := inv' (fP F) gw) (n := 200) (k := 200) (by omega) (by omega)
            have hm3 := mul_rng (a := inv' (fP F) gw) (b := inv' (fP F) gw) (n := 200) (k := 200) (by omega) (by omega)
            refine lv_aload_n S0.1 S0.2.1 dX11_shares_219 rfl (lv_at hl 6 rfl) ?_
            refine q_get (C := RX11) (T := TX11) (N := 26) S0 hK hW.1 hinX11 0 rfl rfl 20 (by decide) (List.mem_of_getElem? (i := 1) rfl) rfl rfl dX11_shares_220 ?_
            refine lv_iload S0.1 S0.2.1 dX11_shares_223 (lv_at hl 2 rfl) ?_
            refine lv_aload_n S0.1 S0.2.1 dX11_shares_225 rfl (lv_at hl 6 rfl) ?_
            refine lv_aload_n S0.1 S0.2.1 dX11_shares_226 rfl (lv_at hl 6 rfl) ?_
            refine q_get (C := RX11) (T := TX11) (N := 26) S0 hK hW.1 hinX11 0 rfl rfl 20 (by decide) (List.mem_of_getElem? (i := 1) rfl) rfl rfl dX11_shares_227 ?_
            refine lv_iload S0.1 S0.2.1 dX11_shares_230 (lv_at hl 2 rfl) ?_
            refine q_iald S0 hK hW.1 6 rfl (by omega) dX11_shares_232 ?_
            refine q_topI (b := 0) (by rw [hl9]; exact hzL (by omega)) ?_
            refine lv_iload S0.1 S0.2.1 dX11_shares_233 (lv_at hl 3 rfl) ?_
            refine lv_iload S0.1 S0.2.1 dX11_shares_235 (lv_at hl 0 rfl) ?_
            refine q_imul S0 dX11_shares_237 ?_
            refine q_iadd S0 dX11_shares_238 ?_
            refine q_pV (n := 1) (rest := [.int (iI l9), .ref v5]) S0 hK (c_X11_p l g mo az ap ak ax a1 a2 a3 a4 a5 a6 v1 v2 v3 v4 v5 v6 pm ik ty th mn wt bn wh dp dg Z (fP F) (0 + (a9 * (inv' (fP F) gw))) (hpr) (hz.1) (by omega)) (subP hW.1 [0, 1] rfl) (trivial) gX11_shares_X11_p rfl rfl rfl (by decide +kernel) ⟨Nat.le_of_ble_eq_true rfl, Nat.le_of_ble_eq_true rfl⟩ (q_recv hK hW.1 (ci := 11) (q0 := 0) rfl rfl) rfl rfl hl.1 (Nat.le_of_ble_eq_true rfl) ⟨Nat.le_of_ble_eq_true rfl, Nat.le_of_ble_eq_true rfl⟩ dX11_shares_239 ?_
            refine W.eq (g2 := F0 m 242 ls [.int (iI ((0 + (a9 * (inv' (fP F) gw))) % (fP F))), .int (iI l9), .ref v5]) rfl ?_
            refine q_iast S0 hK hW 6 rfl (by omega) dX11_shares_242 (fun H locs hW => ?_)
            have hW : gW g A s.heap H _ [(mo, .inr (11, [.ref az, .ref ap, .int (iI pm), .ref ak, .int (iI ik), .ref ax, .int (iI ty), .int (iI th), .ref a1, .ref a2, .int (iI mn), .ref a3, .int (iI wt), .ref a4, .ref a5, .ref a6, .ref v1, .ref v2, .ref v3, .ref v4, .ref v5, .ref v6, .int (iI bn), .int (iI wh), .int (iI dp), .int (iI dg)])), (az, gI g 325 Z), (a6, gI g 796 RU), (v1, gI g 41 Wv), (v3, gI g 41 L), (v4, gI g 41 V), (v5, gI g 41 (up Sh0 ((l9).toNat) ((0 + (a9 * (inv' (fP F) gw))) % (fP F))))] := hW
            refine lv_aload_n S0.1 S0.2.1 dX11_shares_243 rfl (lv_at hl 6 rfl) ?_
            refine q_get (C := RX11) (T := TX11) (N := 26) S0 hK hW.1 hinX11 0 rfl rfl 20 (by decide) (List.mem_of_getElem? (i := 1) rfl) rfl rfl dX11_shares_244 ?_
            refine lv_iload S0.1 S0.2.1 dX11_shares_247 (lv_at hl 1 rfl) ?_
            refine lv_aload_n S0.1 S0.2.1 dX11_shares_249 rfl (lv_at hl 6 rfl) ?_
            refine lv_aload_n S0.1 S0.2.1 dX11_shares_250 rfl (lv_at hl 6 rfl) ?_
            refine q_get (C := RX11) (T := TX11) (N := 26) S0 hK hW.1 hinX11 0 rfl rfl 20 (by decide) (List.mem_of_getElem? (i := 1) rfl) rfl rfl dX11_shares_251 ?_
            refine lv_iload S0.1 S0.2.1 dX11_shares_254 (lv_at hl 1 rfl) ?_
            refine q_iald S0 hK hW.1 6 rfl (by omega) dX11_shares_256 ?_
            refine q_topI (b := 0) (by rw [up_n (by omega), hr9]; exact hzV (by omega)) ?_
            refine lv_aload_n S0.1 S0.2.1 dX11_shares_257 rfl (lv_at hl 6 rfl) ?_
            refine lv_iload S0.1 S0.2.1 dX11_shares_258 (lv_at hl 3 rfl) ?_
            refine lv_aload_n S0.1 S0.2.1 dX11_shares_260 rfl (lv_at hl 6 rfl) ?_
            refine q_get (C := RX11) (T := TX11) (N := 26) S0 hK hW.1 hinX11 0 rfl rfl 16 (by decide) (List.mem_of_getElem? (i := 4) rfl) rfl rfl dX11_shares_261 ?_
            refine lv_iload S0.1 S0.2.1 dX11_shares_264 (lv_at hl 2 rfl) ?_
            refine q_iald S0 hK hW.1 3 rfl (by omega) dX11_shares_266 ?_
            refine q_topI (b := gv Wv (eL (fE F u.toNat) k.toNat)) (by rw [gv_of (by omega), ← hl9]) ?_
            refine q_nm (fun gu hgu => ?_)
            rw [← hgu] at rgu
            refine q_imul S0 dX11_shares_267 ?_
            have hm2 := mul_rng (a := a9) (b := gu) (n := 200) (k := 200) (by omega) (by omega)
            refine q_pV (n := 1) (rest := [.int (iI 0), .ref mo, .int (iI r9), .ref v5]) S0 hK (c_X11_p l g mo az ap ak ax a1 a2 a3 a4 a5 a6 v1 v2 v3 v4 v5 v6 pm ik ty th mn wt bn wh dp dg Z (fP F) (a9 * gu) (hpr) (hz.1) (by omega)) (subP hW.1 [0, 1] rfl) (trivial) gX11_shares_X11_p rfl rfl rfl (by decide +kernel) ⟨Nat.le_of_ble_eq_true rfl, Nat.le_of_ble_eq_true rfl⟩ (q_recv hK hW.1 (ci := 11) (q0 := 0) rfl rfl) rfl rfl hl.1 (Nat.le_of_ble_eq_true rfl) ⟨Nat.le_of_ble_eq_true rfl, Nat.le_of_ble_eq_true rfl⟩ dX11_shares_268 ?_
            refine W.eq (g2 := F0 m 271 ls [.int (iI ((a9 * gu) % (fP F))), .int (iI 0), .ref mo, .int (iI r9), .ref v5]) rfl ?_
            refine lv_aload_n S0.1 S0.2.1 dX11_shares_271 rfl (lv_at hl 6 rfl) ?_
            refine lv_iload S0.1 S0.2.1 dX11_shares_272 (lv_at hl 0 rfl) ?_
            refine lv_iload S0.1 S0.2.1 dX11_shares_274 (lv_at hl 0 rfl) ?_
            refine q_imul S0 dX11_shares_276 ?_
            refine q_pV (n := 1) (rest := [.int (iI ((a9 * gu) % (fP F))), .int (iI 0), .ref mo, .int (iI r9), .ref v5]) S0 hK (c_X11_p l g mo az ap ak ax a1 a2 a3 a4 a5 a6 v1 v2 v3 v4 v5 v6 pm ik ty th mn wt bn wh dp dg Z (fP F) ((inv' (fP F) gw) * (inv' (fP F) gw)) (hpr) (hz.1) (by omega)) (subP hW.1 [0, 1] rfl) (trivial) gX11_shares_X11_p rfl rfl rfl (by decide +kernel) ⟨Nat.le_of_ble_eq_true rfl, Nat.le_of_ble_eq_true rfl⟩ (q_recv hK hW.1 (ci := 11) (q0 := 0) rfl rfl) rfl rfl hl.1 (Nat.le_of_ble_eq_true rfl) ⟨Nat.le_of_ble_eq_true rfl, Nat.le_of_ble_eq_true rfl⟩ dX11_shares_277 ?_
            refine W.eq (g2 := F0 m 280 ls [.int (iI (((inv' (fP F) gw) * (inv' (fP F) gw)) % (fP F))), .int (iI ((a9 * gu) % (fP F))), .int (iI 0), .ref mo, .int (iI r9), .ref v5]) rfl ?_
            refine q_imul S0 dX11_shares_280 ?_
            refine q_isub S0 dX11_shares_281 ?_
            have he1 := emod_rng (a9 * gu) (p := fP F) (by omega)
            have he2 := emod_rng (inv' (fP F) gw * inv' (fP F) gw) (p := fP F) (by omega)
            have hm4 := mul_rng (a := a9 * gu % fP F) (b := inv' (fP F) gw * inv' (fP F) gw % fP F) (n := 200) (k := 200) (by omega) (by omega)
            refine q_pV (n := 1) (rest := [.int (iI r9), .ref v5]) S0 hK (c_X11_p l g mo az ap ak ax a1 a2 a3 a4 a5 a6 v1 v2 v3 v4 v5 v6 pm ik ty th mn wt bn wh dp dg Z (fP F) (0 - (((a9 * gu) % (fP F)) * (((inv' (fP F) gw) * (inv' (fP F) gw)) % (fP F)))) (hpr) (hz.1) (by omega)) (subP hW.1 [0, 1] rfl) (trivial) gX11_shares_X11_p rfl rfl rfl (by decide +kernel) ⟨Nat.le_of_ble_eq_true rfl, Nat.le_of_ble_eq_true rfl⟩ (q_recv hK hW.1 (ci := 11) (q0 := 0) rfl rfl) rfl rfl hl.1 (Nat.le_of_ble_eq_true rfl) ⟨Nat.le_of_ble_eq_true rfl, Nat.le_of_ble_eq_true rfl⟩ dX11_shares_282 ?_
            refine W.eq (g2 := F0 m 285 ls [.int (iI ((0 - (((a9 * gu) % (fP F)) * (((inv' (fP F) gw) * (inv' (fP F) gw)) % (fP F)))) % (fP F))), .int (iI r9), .ref v5]) rfl ?_
            refine q_iast S0 hK hW 6 rfl (by omega) dX11_shares_285 (fun H locs hW => ?_)
            have hW : gW g A s.heap H _ [(mo, .inr (11, [.ref az, .ref ap, .int (iI pm), .ref ak, .int (iI ik), .ref ax, .int (iI ty), .int (iI th), .ref a1, .ref a2, .int (iI mn), .ref a3, .int (iI wt), .ref a4, .ref a5, .ref a6, .ref v1, .ref v2, .ref v3, .ref v4, .ref v5, .ref v6, .int (iI bn), .int (iI wh), .int (iI dp), .int (iI dg)])), (az, gI g 325 Z), (a6, gI g 796 RU), (v1, gI g 41 Wv), (v3, gI g 41 L), (v4, gI g 41 V), (v5, gI g 41 (up (up Sh0 ((l9).toNat) ((0 + (a9 * (inv' (fP F) gw))) % (fP F))) ((r9).toNat) ((0 - (((a9 * gu) % (fP F)) * (((inv' (fP F) gw) * (inv' (fP F) gw)) % (fP F)))) % (fP F))))] := hW
            refine lv_goto (tgt := 394) S0.1 S0.2.1 dX11_shares_286 (by decide) ?_
            have hel : (0 + (a9 * (inv' (fP F) gw))) % (fP F) = Sh0 k.toNat * lsh F u.toNat Wv k.toNat % fP F := by first | (exfalso; omega) | (rw [← ha9]; unfold lsh; (repeat (first | rw [if_pos (by omega)] | rw [if_neg (by omega)])); exact sh_neg) | (rw [← ha9]; unfold lsh; (repeat (first | rw [if_pos (by omega)] | rw [if_neg (by omega)])); rw [Int.zero_add, Int.mul_one]; done) | (rw [← ha9, hgw]; unfold lsh; (repeat (first | rw [if_pos (by omega)] | rw [if_neg (by omega)])); rw [Int.zero_add]; done) | (rw [← ha9]; unfold lsh; (repeat (first | rw [if_pos (by omega)] | rw [if_neg (by omega)])); rw [← hgw, inv_half hG.1 (by omega), Int.zero_add]; done) | (rw [← ha9]; unfold lsh; (repeat (first | rw [if_pos (by omega)] | rw [if_neg (by omega)])); rw [← hgu, ← hnu, Int.zero_add, Int.mul_comm]; done)| (rw [← ha9]; unfold lsh; (repeat (first | rw [if_pos (by omega)] | rw [if_neg (by omega)])); rw [← hgu, ← hnu, Int.zero_add]; done)
            have her : (0 - (((a9 * gu) % (fP F)) * (((inv' (fP F) gw) * (inv' (fP F) gw)) % (fP F)))) % (fP F) = Sh0 k.toNat * rsh F u.toNat Wv k.toNat % fP F := by first | (exfalso; omega) | (rw [← ha9, hm9, if_pos (by omega)]; unfold rsh; (repeat (first | rw [if_pos (by omega)] | rw [if_neg (by omega)])); rw [Int.zero_add, Int.mul_one]; done) | (rw [← ha9, hm9, if_neg (by omega)]; unfold rsh; (repeat (first | rw [if_pos (by omega)] | rw [if_neg (by omega)])); rw [Int.zero_add, ← Int.zero_sub]; exact sh_neg) | (rw [← ha9, hgu]; unfold rsh; (repeat (first | rw [if_pos (by omega)] | rw [if_neg (by omega)])); rw [Int.zero_add]; done) | (rw [← ha9]; unfold rsh; (repeat (first | rw [if_pos (by omega)] | rw [if_neg (by omega)])); rw [← hgw, ← hgu, inv_sq hG.1 (by omega)]; exact sh_div)
            have hsp : shP F u Wv Sh0 (up (up Sh0 ((l9).toNat) ((0 + (a9 * (inv' (fP F) gw))) % (fP F))) ((r9).toNat) ((0 - (((a9 * gu) % (fP F)) * (((inv' (fP F) gw) * (inv' (fP F) gw)) % (fP F)))) % (fP F))) k.toNat := by unfold shP; rw [hl9, hr9]; exact shl2 (by omega) (by omega) hel her
            exact q_vret S0 hr hlocks (up (up Sh0 ((l9).toNat) ((0 + (a9 * (inv' (fP F) gw))) % (fP F))) ((r9).toNat) ((0 - (((a9 * gu) % (fP F)) * (((inv' (fP F) gw) * (inv' (fP F) gw)) % (fP F)))) % (fP F))) (hsp) rfl (hW.sub [0, 1, 2, 3, 4, 5, 6] rfl (rfl)) (Nat.le_of_ble_eq_true rfl) (Nat.le_of_ble_eq_true rfl) dX11_shares_394
        · skip
          refine lv_aload_n S0.1 S0.2.1 dX11_shares_139 rfl (lv_at hl 5 rfl) ?_
          refine q_get (C := RX11) (T := TX11) (N := 26) S0 hK hW.1 hinX11 0 rfl rfl 20 (by decide) (List.mem_of_getElem? (i := 1) rfl) rfl rfl dX11_shares_140 ?_
          refine lv_iload S0.1 S0.2.1 dX11_shares_143 (lv_at hl 1 rfl) ?_
          refine lv_aload_n S0.1 S0.2.1 dX11_shares_145 rfl (lv_at hl 5 rfl) ?_
          refine lv_aload_n S0.1 S0.2.1 dX11_shares_146 rfl (lv_at hl 5 rfl) ?_
          refine q_get (C := RX11) (T := TX11) (N := 26) S0 hK hW.1 hinX11 0 rfl rfl 20 (by decide) (List.mem_of_getElem? (i := 1) rfl) rfl rfl dX11_shares_147 ?_
          refine lv_iload S0.1 S0.2.1 dX11_shares_150 (lv_at hl 1 rfl) ?_
          refine q_iald S0 hK hW.1 6 rfl (by omega) dX11_shares_152 ?_
          refine q_topI (b := 0) (by rw [hl9]; exact hzL (by omega)) ?_
          refine lv_iload S0.1 S0.2.1 dX11_shares_153 (lv_at hl 2 rfl) ?_
          refine lv_aload_n S0.1 S0.2.1 dX11_shares_155 rfl (lv_at hl 5 rfl) ?_
          refine q_get (C := RX11) (T := TX11) (N := 26) S0 hK hW.1 hinX11 0 rfl rfl 16 (by decide) (List.mem_of_getElem? (i := 4) rfl) rfl rfl dX11_shares_156 ?_
          refine lv_iload S0.1 S0.2.1 dX11_shares_159 (lv_at hl 0 rfl) ?_
          refine q_iald S0 hK hW.1 3 rfl (by omega) dX11_shares_161 ?_
          refine q_topI (b := gv Wv (eV (fE F u.toNat) k.toNat)) (by rw [gv_of (by omega), ← hr9]) ?_
          refine q_nm (fun gw hgw => ?_)
          rw [← hgw] at rgw
          refine q_imul S0 dX11_shares_162 ?_
          refine q_iadd S0 dX11_shares_163 ?_
          have hm1 := mul_rng (a := a9) (b := gw) (n := 200) (k := 200) (by omega) (by omega)
          refine q_pV (n := 1) (rest := [.int (iI l9), .ref v5]) S0 hK (c_X11_p l g mo az ap ak ax a1 a2 a3 a4 a5 a6 v1 v2 v3 v4 v5 v6 pm ik ty th mn wt bn wh dp dg Z (fP F) (0 + (a9 * gw)) (hpr) (hz.1) (by omega)) (subP hW.1 [0, 1] rfl) (trivial) gX11_shares_X11_p rfl rfl rfl (by decide +kernel) ⟨Nat.le_of_ble_eq_true rfl, Nat.le_of_ble_eq_true rfl⟩ (q_recv hK hW.1 (ci := 11) (q0 := 0) rfl rfl) rfl rfl hl.1 (Nat.le_of_ble_eq_true rfl) ⟨Nat.le_of_ble_eq_true rfl, Nat.le_of_ble_eq_true rfl⟩ dX11_shares_164 ?_
          refine W.eq (g2 := F0 m 167 ls [.int (iI ((0 + (a9 * gw)) % (fP F))), .int (iI l9), .ref v5]) rfl ?_
          refine q_iast S0 hK hW 6 rfl (by omega) dX11_shares_167 (fun H locs hW => ?_)
          have hW : gW g A s.heap H _ [(mo, .inr (11, [.ref az, .ref ap, .int (iI pm), .ref ak, .int (iI ik), .ref ax, .int (iI ty), .int (iI th), .ref a1, .ref a2, .int (iI mn), .ref a3, .int (iI wt), .ref a4, .ref a5, .ref a6, .ref v1, .ref v2, .ref v3, .ref v4, .ref v5, .ref v6, .int (iI bn), .int (iI wh), .int (iI dp), .int (iI dg)])), (az, gI g 325 Z), (a6, gI g 796 RU), (v1, gI g 41 Wv), (v3, gI g 41 L), (v4, gI g 41 V), (v5, gI g 41 (up Sh0 ((l9).toNat) ((0 + (a9 * gw)) % (fP F))))] := hW
          refine lv_aload_n S0.1 S0.2.1 dX11_shares_168 rfl (lv_at hl 5 rfl) ?_
          refine q_get (C := RX11) (T := TX11) (N := 26) S0 hK hW.1 hinX11 0 rfl rfl 20 (by decide) (List.mem_of_getElem? (i := 1) rfl) rfl rfl dX11_shares_169 ?_
          refine lv_iload S0.1 S0.2.1 dX11_shares_172 (lv_at hl 0 rfl) ?_
          refine lv_aload_n S0.1 S0.2.1 dX11_shares_174 rfl (lv_at hl 5 rfl) ?_
          refine lv_aload_n S0.1 S0.2.1 dX11_shares_175 rfl (lv_at hl 5 rfl) ?_
          refine q_get (C := RX11) (T := TX11) (N := 26) S0 hK hW.1 hinX11 0 rfl rfl 20 (by decide) (List.mem_of_getElem? (i := 1) rfl) rfl rfl dX11_shares_176 ?_
          refine lv_iload S0.1 S0.2.1 dX11_shares_179 (lv_at hl 0 rfl) ?_
          refine q_iald S0 hK hW.1 6 rfl (by omega) dX11_shares_181 ?_
          refine q_topI (b := 0) (by rw [up_n (by omega), hr9]; exact hzV (by omega)) ?_
          refine lv_iload S0.1 S0.2.1 dX11_shares_182 (lv_at hl 2 rfl) ?_
          refine lv_aload_n S0.1 S0.2.1 dX11_shares_184 rfl (lv_at hl 5 rfl) ?_
          refine q_get (C := RX11) (T := TX11) (N := 26) S0 hK hW.1 hinX11 0 rfl rfl 16 (by decide) (List.mem_of_getElem? (i := 4) rfl) rfl rfl dX11_shares_185 ?_
          refine lv_iload S0.1 S0.2.1 dX11_shares_188 (lv_at hl 1 rfl) ?_
          refine q_iald S0 hK hW.1 3 rfl (by omega) dX11_shares_190 ?_
          refine q_topI (b := gv Wv (eL (fE F u.toNat) k.toNat)) (by rw [gv_of (by omega), ← hl9]) ?_
          refine q_nm (fun gu hgu => ?_)
          rw [← hgu] at rgu
          refine q_imul S0 dX11_shares_191 ?_
          refine q_iadd S0 dX11_shares_192 ?_
          have hm2 := mul_rng (a := a9) (b := gu) (n := 200) (k := 200) (by omega) (by omega)
          refine q_pV (n := 1) (rest := [.int (iI r9), .ref v5]) S0 hK (c_X11_p l g mo az ap ak ax a1 a2 a3 a4 a5 a6 v1 v2 v3 v4 v5 v6 pm ik ty th mn wt bn wh dp dg Z (fP F) (0 + (a9 * gu)) (hpr) (hz.1) (by omega)) (subP hW.1 [0, 1] rfl) (trivial) gX11_shares_X11_p rfl rfl rfl (by decide +kernel) ⟨Nat.le_of_ble_eq_true rfl, Nat.le_of_ble_eq_true rfl⟩ (q_recv hK hW.1 (ci := 11) (q0 := 0) rfl rfl) rfl rfl hl.1 (Nat.le_of_ble_eq_true rfl) ⟨Nat.le_of_ble_eq_true rfl, Nat.le_of_ble_eq_true rfl⟩ dX11_shares_193 ?_
          refine W.eq (g2 := F0 m 196 ls [.int (iI ((0 + (a9 * gu)) % (fP F))), .int (iI r9), .ref v5]) rfl ?_
          refine q_iast S0 hK hW 6 rfl (by omega) dX11_shares_196 (fun H locs hW => ?_)
          have hW : gW g A s.heap H _ [(mo, .inr (11, [.ref az, .ref ap, .int (iI pm), .ref ak, .int (iI ik), .ref ax, .int (iI ty), .int (iI th), .ref a1, .ref a2, .int (iI mn), .ref a3, .int (iI wt), .ref a4, .ref a5, .ref a6, .ref v1, .ref v2, .ref v3, .ref v4, .ref v5, .ref v6, .int (iI bn), .int (iI wh), .int (iI dp), .int (iI dg)])), (az, gI g 325 Z), (a6, gI g 796 RU), (v1, gI g 41 Wv), (v3, gI g 41 L), (v4, gI g 41 V), (v5, gI g 41 (up (up Sh0 ((l9).toNat) ((0 + (a9 * gw)) % (fP F))) ((r9).toNat) ((0 + (a9 * gu)) % (fP F))))] := hW
          refine lv_goto (tgt := 394) S0.1 S0.2.1 dX11_shares_197 (by decide) ?_
          have hel : (0 + (a9 * gw)) % (fP F) = Sh0 k.toNat * lsh F u.toNat Wv k.toNat % fP F := by first | (exfalso; omega) | (rw [← ha9]; unfold lsh; (repeat (first | rw [if_pos (by omega)] | rw [if_neg (by omega)])); exact sh_neg) | (rw [← ha9]; unfold lsh; (repeat (first | rw [if_pos (by omega)] | rw [if_neg (by omega)])); rw [Int.zero_add, Int.mul_one]; done) | (rw [← ha9, hgw]; unfold lsh; (repeat (first | rw [if_pos (by omega)] | rw [if_neg (by omega)])); rw [Int.zero_add]; done) | (rw [← ha9]; unfold lsh; (repeat (first | rw [if_pos (by omega)] | rw [if_neg (by omega)])); rw [← hgw, inv_half hG.1 (by omega), Int.zero_add]; done) | (rw [← ha9]; unfold lsh; (repeat (first | rw [if_pos (by omega)] | rw [if_neg (by omega)])); rw [← hgu, ← hnu, Int.zero_add, Int.mul_comm]; done)| (rw [← ha9]; unfold lsh; (repeat (first | rw [if_pos (by omega)] | rw [if_neg (by omega)])); rw [← hgu, ← hnu, Int.zero_add]; done)
          have her : (0 + (a9 * gu)) % (fP F) = Sh0 k.toNat * rsh F u.toNat Wv k.toNat % fP F := by first | (exfalso; omega) | (rw [← ha9, hm9, if_pos (by omega)]; unfold rsh; (repeat (first | rw [if_pos (by omega)] | rw [if_neg (by omega)])); rw [Int.zero_add, Int.mul_one]; done) | (rw [← ha9, hm9, if_neg (by omega)]; unfold rsh; (repeat (first | rw [if_pos (by omega)] | rw [if_neg (by omega)])); rw [Int.zero_add, ← Int.zero_sub]; exact sh_neg) | (rw [← ha9, hgu]; unfold rsh; (repeat (first | rw [if_pos (by omega)] | rw [if_neg (by omega)])); rw [Int.zero_add]; done) | (rw [← ha9]; unfold rsh; (repeat (first | rw [if_pos (by omega)] | rw [if_neg (by omega)])); rw [← hgw, ← hgu, inv_sq hG.1 (by omega)]; exact sh_div)
          have hsp : shP F u Wv Sh0 (up (up Sh0 ((l9).toNat) ((0 + (a9 * gw)) % (fP F))) ((r9).toNat) ((0 + (a9 * gu)) % (fP F))) k.toNat := by unfold shP; rw [hl9, hr9]; exact shl2 (by omega) (by omega) hel her
          exact q_vret S0 hr hlocks (up (up Sh0 ((l9).toNat) ((0 + (a9 * gw)) % (fP F))) ((r9).toNat) ((0 + (a9 * gu)) % (fP F))) (hsp) rfl (hW.sub [0, 1, 2, 3, 4, 5, 6] rfl (rfl)) (Nat.le_of_ble_eq_true rfl) (Nat.le_of_ble_eq_true rfl) dX11_shares_394
      · skip
        refine lv_aload_n S0.1 S0.2.1 dX11_shares_78 rfl (lv_at hl 5 rfl) ?_
        refine q_get (C := RX11) (T := TX11) (N := 26) S0 hK hW.1 hinX11 0 rfl rfl 20 (by decide) (List.mem_of_getElem? (i := 1) rfl) rfl rfl dX11_shares_79 ?_
        refine lv_iload S0.1 S0.2.1 dX11_shares_82 (lv_at hl 1 rfl) ?_
        refine lv_aload_n S0.1 S0.2.1 dX11_shares_84 rfl (lv_at hl 5 rfl) ?_
        refine lv_aload_n S0.1 S0.2.1 dX11_shares_85 rfl (lv_at hl 5 rfl) ?_
        refine q_get (C := RX11) (T := TX11) (N := 26) S0 hK hW.1 hinX11 0 rfl rfl 20 (by decide) (List.mem_of_getElem? (i := 1) rfl) rfl rfl dX11_shares_86 ?_
        refine lv_iload S0.1 S0.2.1 dX11_shares_89 (lv_at hl 1 rfl) ?_
        refine q_iald S0 hK hW.1 6 rfl (by omega) dX11_shares_91 ?_
        refine q_topI (b := 0) (by rw [hl9]; exact hzL (by omega)) ?_
        refine lv_iload S0.1 S0.2.1 dX11_shares_92 (lv_at hl 2 rfl) ?_
        refine q_iadd S0 dX11_shares_94 ?_
        refine q_pV (n := 1) (rest := [.int (iI l9), .ref v5]) S0 hK (c_X11_p l g mo az ap ak ax a1 a2 a3 a4 a5 a6 v1 v2 v3 v4 v5 v6 pm ik ty th mn wt bn wh dp dg Z (fP F) (0 + a9) (hpr) (hz.1) (by omega)) (subP hW.1 [0, 1] rfl) (trivial) gX11_shares_X11_p rfl rfl rfl (by decide +kernel) ⟨Nat.le_of_ble_eq_true rfl, Nat.le_of_ble_eq_true rfl⟩ (q_recv hK hW.1 (ci := 11) (q0 := 0) rfl rfl) rfl rfl hl.1 (Nat.le_of_ble_eq_true rfl) ⟨Nat.le_of_ble_eq_true rfl, Nat.le_of_ble_eq_true rfl⟩ dX11_shares_95 ?_
        refine W.eq (g2 := F0 m 98 ls [.int (iI ((0 + a9) % (fP F))), .int (iI l9), .ref v5]) rfl ?_
        refine q_iast S0 hK hW 6 rfl (by omega) dX11_shares_98 (fun H locs hW => ?_)
        have hW : gW g A s.heap H _ [(mo, .inr (11, [.ref az, .ref ap, .int (iI pm), .ref ak, .int (iI ik), .ref ax, .int (iI ty), .int (iI th), .ref a1, .ref a2, .int (iI mn), .ref a3, .int (iI wt), .ref a4, .ref a5, .ref a6, .ref v1, .ref v2, .ref v3, .ref v4, .ref v5, .ref v6, .int (iI bn), .int (iI wh), .int (iI dp), .int (iI dg)])), (az, gI g 325 Z), (a6, gI g 796 RU), (v1, gI g 41 Wv), (v3, gI g 41 L), (v4, gI g 41 V), (v5, gI g 41 (up Sh0 ((l9).toNat) ((0 + a9) % (fP F))))] := hW
        refine lv_aload_n S0.1 S0.2.1 dX11_shares_99 rfl (lv_at hl 5 rfl) ?_
        refine q_get (C := RX11) (T := TX11) (N := 26) S0 hK hW.1 hinX11 0 rfl rfl 20 (by decide) (List.mem_of_getElem? (i := 1) rfl) rfl rfl dX11_shares_100 ?_
        refine lv_iload S0.1 S0.2.1 dX11_shares_103 (lv_at hl 0 rfl) ?_
        refine lv_aload_n S0.1 S0.2.1 dX11_shares_105 rfl (lv_at hl 5 rfl) ?_
        refine lv_aload_n S0.1 S0.2.1 dX11_shares_106 rfl (lv_at hl 5 rfl) ?_
        refine q_get (C := RX11) (T := TX11) (N := 26) S0 hK hW.1 hinX11 0 rfl rfl 20 (by decide) (List.mem_of_getElem? (i := 1) rfl) rfl rfl dX11_shares_107 ?_
        refine lv_iload S0.1 S0.2.1 dX11_shares_110 (lv_at hl 0 rfl) ?_
        refine q_iald S0 hK hW.1 6 rfl (by omega) dX11_shares_112 ?_
        refine q_topI (b := 0) (by rw [up_n (by omega), hr9]; exact hzV (by omega)) ?_
        refine q_cut (α := Int) (fun m9 => F0 m 126 ls (.int (iI m9) :: [.int (iI 0), .ref mo, .int (iI r9), .ref v5])) (fun m9 => m9 = if kd = 3 then a9 else -a9) (fun m9 hm9 => ?_) (fun hJ113 => ?_)
        · skip
          refine q_iadd S0 dX11_shares_126 ?_
          have hmr : -200 < m9 ∧ m9 < 200 := by rw [hm9]; split <;> omega
          refine q_pV (n := 1) (rest := [.int (iI r9), .ref v5]) S0 hK (c_X11_p l g mo az ap ak ax a1 a2 a3 a4 a5 a6 v1 v2 v3 v4 v5 v6 pm ik ty th mn wt bn wh dp dg Z (fP F) (0 + m9) (hpr) (hz.1) (by omega)) (subP hW.1 [0, 1] rfl) (trivial) gX11_shares_X11_p rfl rfl rfl (by decide +kernel) ⟨Nat.le_of_ble_eq_true rfl, Nat.le_of_ble_eq_true rfl⟩ (q_recv hK hW.1 (ci := 11) (q0 := 0) rfl rfl) rfl rfl hl.1 (Nat.le_of_ble_eq_true rfl) ⟨Nat.le_of_ble_eq_true rfl, Nat.le_of_ble_eq_true rfl⟩ dX11_shares_127 ?_
          refine W.eq (g2 := F0 m 130 ls [.int (iI ((0 + m9) % (fP F))), .int (iI r9), .ref v5]) rfl ?_
          refine q_iast S0 hK hW 6 rfl (by omega) dX11_shares_130 (fun H locs hW => ?_)
          have hW : gW g A s.heap H _ [(mo, .inr (11, [.ref az, .ref ap, .int (iI pm), .ref ak, .int (iI ik), .ref ax, .int (iI ty), .int (iI th), .ref a1, .ref a2, .int (iI mn), .ref a3, .int (iI wt), .ref a4, .ref a5, .ref a6, .ref v1, .ref v2, .ref v3, .ref v4, .ref v5, .ref v6, .int (iI bn), .int (iI wh), .int (iI dp), .int (iI dg)])), (az, gI g 325 Z), (a6, gI g 796 RU), (v1, gI g 41 Wv), (v3, gI g 41 L), (v4, gI g 41 V), (v5, gI g 41 (up (up Sh0 ((l9).toNat) ((0 + a9) % (fP F))) ((r9).toNat) ((0 + m9) % (fP F))))] := hW
          refine lv_goto (tgt := 394) S0.1 S0.2.1 dX11_shares_131 (by decide) ?_
          have hel : (0 + a9) % (fP F) = Sh0 k.toNat * lsh F u.toNat Wv k.toNat % fP F := by first | (exfalso; omega) | (rw [← ha9]; unfold lsh; (repeat (first | rw [if_pos (by omega)] | rw [if_neg (by omega)])); exact sh_neg) | (rw [← ha9]; unfold lsh; (repeat (first | rw [if_pos (by omega)] | rw [if_neg (by omega)])); rw [Int.zero_add, Int.mul_one]; done) | (rw [← ha9, hgw]; unfold lsh; (repeat (first | rw [if_pos (by omega)] | rw [if_neg (by omega)])); rw [Int.zero_add]; done) | (rw [← ha9]; unfold lsh; (repeat (first | rw [if_pos (by omega)] | rw [if_neg (by omega)])); rw [← hgw, inv_half hG.1 (by omega), Int.zero_add]; done) | (rw [← ha9]; unfold lsh; (repeat (first | rw [if_pos (by omega)] | rw [if_neg (by omega)])); rw [← hgu, ← hnu, Int.zero_add, Int.mul_comm]; done)| (rw [← ha9]; unfold lsh; (repeat (first | rw [if_pos (by omega)] | rw [if_neg (by omega)])); rw [← hgu, ← hnu, Int.zero_add]; done)
          have her : (0 + m9) % (fP F) = Sh0 k.toNat * rsh F u.toNat Wv k.toNat % fP F := by first | (exfalso; omega) | (rw [← ha9, hm9, if_pos (by omega)]; unfold rsh; (repeat (first | rw [if_pos (by omega)] | rw [if_neg (by omega)])); rw [Int.zero_add, Int.mul_one]; done) | (rw [← ha9, hm9, if_neg (by omega)]; unfold rsh; (repeat (first | rw [if_pos (by omega)] | rw [if_neg (by omega)])); rw [Int.zero_add, ← Int.zero_sub]; exact sh_neg) | (rw [← ha9, hgu]; unfold rsh; (repeat (first | rw [if_pos (by omega)] | rw [if_neg (by omega)])); rw [Int.zero_add]; done) | (rw [← ha9]; unfold rsh; (repeat (first | rw [if_pos (by omega)] | rw [if_neg (by omega)])); rw [← hgw, ← hgu, inv_sq hG.1 (by omega)]; exact sh_div)
          have hsp : shP F u Wv Sh0 (up (up Sh0 ((l9).toNat) ((0 + a9) % (fP F))) ((r9).toNat) ((0 + m9) % (fP F))) k.toNat := by unfold shP; rw [hl9, hr9]; exact shl2 (by omega) (by omega) hel her
          exact q_vret S0 hr hlocks (up (up Sh0 ((l9).toNat) ((0 + a9) % (fP F))) ((r9).toNat) ((0 + m9) % (fP F))) (hsp) rfl (hW.sub [0, 1, 2, 3, 4, 5, 6] rfl (rfl)) (Nat.le_of_ble_eq_true rfl) (Nat.le_of_ble_eq_true rfl) dX11_shares_394
        · skip
          refine lv_iload_n S0.1 S0.2.1 dX11_shares_113 rfl (lv_at hl 4 rfl) ?_
          refine q_iconst S0 dX11_shares_114 ?_
          refine q_icmp_ne (tgt := 123) S0 (by omega) dX11_shares_115 (by decide) (fun c115 => ?_) (fun c115 => ?_)
          · skip
            refine lv_iload S0.1 S0.2.1 dX11_shares_123 (lv_at hl 2 rfl) ?_
            refine q_ineg S0 dX11_shares_125 ?_
            exact hJ113 _ (by first | (rw [if_pos (by omega)]; done) | (rw [if_neg (by omega)]; done) | omega)
          · skip
            refine lv_iload S0.1 S0.2.1 dX11_shares_118 (lv_at hl 2 rfl) ?_
            refine lv_goto (tgt := 126) S0.1 S0.2.1 dX11_shares_120 (by decide) ?_
            exact hJ113 _ (by first | (rw [if_pos (by omega)]; done) | (rw [if_neg (by omega)]; done) | omega)
  · skip
    refine lv_aload_n S0.1 S0.2.1 dX11_shares_44 rfl (lv_at hl 5 rfl) ?_
    refine q_get (C := RX11) (T := TX11) (N := 26) S0 hK hW.1 hinX11 0 rfl rfl 20 (by decide) (List.mem_of_getElem? (i := 1) rfl) rfl rfl dX11_shares_45 ?_
    refine lv_iload S0.1 S0.2.1 dX11_shares_48 (lv_at hl 1 rfl) ?_
    refine lv_aload_n S0.1 S0.2.1 dX11_shares_50 rfl (lv_at hl 5 rfl) ?_
    refine lv_aload_n S0.1 S0.2.1 dX11_shares_51 rfl (lv_at hl 5 rfl) ?_
    refine q_get (C := RX11) (T := TX11) (N := 26) S0 hK hW.1 hinX11 0 rfl rfl 20 (by decide) (List.mem_of_getElem? (i := 1) rfl) rfl rfl dX11_shares_52 ?_
    refine lv_iload S0.1 S0.2.1 dX11_shares_55 (lv_at hl 1 rfl) ?_
    refine q_iald S0 hK hW.1 6 rfl (by omega) dX11_shares_57 ?_
    refine q_topI (b := 0) (by rw [hl9]; exact hzL (by omega)) ?_
    refine lv_iload S0.1 S0.2.1 dX11_shares_58 (lv_at hl 2 rfl) ?_
    refine q_isub S0 dX11_shares_60 ?_
    refine q_pV (n := 1) (rest := [.int (iI l9), .ref v5]) S0 hK (c_X11_p l g mo az ap ak ax a1 a2 a3 a4 a5 a6 v1 v2 v3 v4 v5 v6 pm ik ty th mn wt bn wh dp dg Z (fP F) (0 - a9) (hpr) (hz.1) (by omega)) (subP hW.1 [0, 1] rfl) (trivial) gX11_shares_X11_p rfl rfl rfl (by decide +kernel) ⟨Nat.le_of_ble_eq_true rfl, Nat.le_of_ble_eq_true rfl⟩ (q_recv hK hW.1 (ci := 11) (q0 := 0) rfl rfl) rfl rfl hl.1 (Nat.le_of_ble_eq_true rfl) ⟨Nat.le_of_ble_eq_true rfl, Nat.le_of_ble_eq_true rfl⟩ dX11_shares_61 ?_
    refine W.eq (g2 := F0 m 64 ls [.int (iI ((0 - a9) % (fP F))), .int (iI l9), .ref v5]) rfl ?_
    refine q_iast S0 hK hW 6 rfl (by omega) dX11_shares_64 (fun H locs hW => ?_)
    have hW : gW g A s.heap H _ [(mo, .inr (11, [.ref az, .ref ap, .int (iI pm), .ref ak, .int (iI ik), .ref ax, .int (iI ty), .int (iI th), .ref a1, .ref a2, .int (iI mn), .ref a3, .int (iI wt), .ref a4, .ref a5, .ref a6, .ref v1, .ref v2, .ref v3, .ref v4, .ref v5, .ref v6, .int (iI bn), .int (iI wh), .int (iI dp), .int (iI dg)])), (az, gI g 325 Z), (a6, gI g 796 RU), (v1, gI g 41 Wv), (v3, gI g 41 L), (v4, gI g 41 V), (v5, gI g 41 (up Sh0 ((l9).toNat) ((0 - a9) % (fP F))))] := hW
    refine lv_goto (tgt := 394) S0.1 S0.2.1 dX11_shares_65 (by decide) ?_
    have hel : (0 - a9) % (fP F) = Sh0 k.toNat * lsh F u.toNat Wv k.toNat % fP F := by first | (exfalso; omega) | (rw [← ha9]; unfold lsh; (repeat (first | rw [if_pos (by omega)] | rw [if_neg (by omega)])); exact sh_neg) | (rw [← ha9]; unfold lsh; (repeat (first | rw [if_pos (by omega)] | rw [if_neg (by omega)])); rw [Int.zero_add, Int.mul_one]; done) | (rw [← ha9, hgw]; unfold lsh; (repeat (first | rw [if_pos (by omega)] | rw [if_neg (by omega)])); rw [Int.zero_add]; done) | (rw [← ha9]; unfold lsh; (repeat (first | rw [if_pos (by omega)] | rw [if_neg (by omega)])); rw [← hgw, inv_half hG.1 (by omega), Int.zero_add]; done) | (rw [← ha9]; unfold lsh; (repeat (first | rw [if_pos (by omega)] | rw [if_neg (by omega)])); rw [← hgu, ← hnu, Int.zero_add, Int.mul_comm]; done)| (rw [← ha9]; unfold lsh; (repeat (first | rw [if_pos (by omega)] | rw [if_neg (by omega)])); rw [← hgu, ← hnu, Int.zero_add]; done)
    have hsp : shP F u Wv Sh0 (up Sh0 ((l9).toNat) ((0 - a9) % (fP F))) k.toNat := by unfold shP; rw [hl9]; exact shl1 (by omega) (by unfold WFK at hE9; omega) hel
    exact q_vret S0 hr hlocks (up Sh0 ((l9).toNat) ((0 - a9) % (fP F))) (hsp) rfl (hW.sub [0, 1, 2, 3, 4, 5, 6] rfl (rfl)) (Nat.le_of_ble_eq_true rfl) (Nat.le_of_ble_eq_true rfl) dX11_shares_394
