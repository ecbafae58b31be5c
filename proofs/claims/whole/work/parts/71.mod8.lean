set_option maxHeartbeats 4000000 in
set_option maxRecDepth 100000 in
theorem c_X11_feeds (l : Launch) (g : GG) (mo az ap ak ax a1 a2 a3 a4 a5 a6 v1 v2 v3 v4 v5 v6 : Nat) (pm ik ty th mn wt bn wh dp dg : Int) (Z : Nat → Int) (F : FT) (VT HT RU Wv Sv L V T : Nat → Int) (u x sx : Int) (hG : GF F) (hz : ZR Z F) (hlk : LKG F) (hu : 0 ≤ u ∧ u < 4) (hx : 0 ≤ x ∧ x < fP F) (hsx : 0 ≤ sx ∧ sx < fP F) (hTB : TB F u VT HT RU) : qMet l yX11_feeds wsX11_feeds ({ frames := 3, cells := 0, slots := 0, locals := 75 }) g [.ref mo, .int (iI u), .int (iI x), .int (iI sx)] [(mo, .inr (11, [.ref az, .ref ap, .int (iI pm), .ref ak, .int (iI ik), .ref ax, .int (iI ty), .int (iI th), .ref a1, .ref a2, .int (iI mn), .ref a3, .int (iI wt), .ref a4, .ref a5, .ref a6, .ref v1, .ref v2, .ref v3, .ref v4, .ref v5, .ref v6, .int (iI bn), .int (iI wh), .int (iI dp), .int (iI dg)])), (az, gI g 325 Z), (a4, gI g 796 VT), (a5, gI g 796 HT), (v1, gI g 41 Wv), (v2, gI g 41 Sv), (v3, gI g 41 L), (v4, gI g 41 V), (v6, gI g 41 T)] (fun _ => True) (fun _ => True) (S := (Nat → Int) × (Nat → Int) × (Nat → Int) × (Nat → Int) × (Nat → Int) × Int) (fun _ => none) (fun u_ => [(mo, .inr (11, [.ref az, .ref ap, .int (iI pm), .ref ak, .int (iI ik), .ref ax, .int (iI ty), .int (iI th), .ref a1, .ref a2, .int (iI mn), .ref a3, .int (iI wt), .ref a4, .ref a5, .ref a6, .ref v1, .ref v2, .ref v3, .ref v4, .ref v5, .ref v6, .int (iI u_.2.2.2.2.2), .int (iI wh), .int (iI dp), .int (iI dg)])), (az, gI g 325 Z), (a4, gI g 796 VT), (a5, gI g 796 HT), (v1, gI g 41 u_.1), (v2, gI g 41 u_.2.1), (v3, gI g 41 u_.2.2.1), (v4, gI g 41 u_.2.2.2.1), (v6, gI g 41 u_.2.2.2.2.1)]) (fun u_ => FI F u x sx (eN (fE F u.toNat)) u_.1 u_.2.1 u_.2.2.2.2.2 ∧ ∀ j : Nat, j < eN (fE F u.toNat) → u_.2.2.1 j = eL (fE F u.toNat) j ∧ u_.2.2.2.1 j = eV (fE F u.toNat) j) 0 0 := by
  refine q_ofW (cc := cX11_feeds) (maxL := 5) (ret := none) (fun sz h => h.self) (by decide) rfl (Nat.le_of_ble_eq_true rfl) ?_
  intro p e s m args below meth c A ls S0 hr hlocks hnme hK hA hAe hW hD0 hX hl
  have hW : gW g A s.heap s.heap [] [(mo, .inr (11, [.ref az, .ref ap, .int (iI pm), .ref ak, .int (iI ik), .ref ax, .int (iI ty), .int (iI th), .ref a1, .ref a2, .int (iI mn), .ref a3, .int (iI wt), .ref a4, .ref a5, .ref a6, .ref v1, .ref v2, .ref v3, .ref v4, .ref v5, .ref v6, .int (iI bn), .int (iI wh), .int (iI dp), .int (iI dg)])), (az, gI g 325 Z), (a4, gI g 796 VT), (a5, gI g 796 HT), (v1, gI g 41 Wv), (v2, gI g 41 Sv), (v3, gI g 41 L), (v4, gI g 41 V), (v6, gI g 41 T)] := hW
  have hl : lv_has ls 5 [(0, .ref mo), (1, .int (iI u)), (2, .int (iI x)), (3, .int (iI sx))] := hl
  have hinX11 : ∀ w ∈ wsX110, w ∈ wsX11_feeds := fun w h => List.mem_cons_of_mem _ (List.mem_append_right _ h)
  have hpr := GF_p hG
  have hn40 := (hG.2 u.toNat (by omega)).1
  refine lv_aload_n S0.1 S0.2.1 dX11_feeds_0 rfl (lv_at hl 0 rfl) ?_
  refine lv_iload_n S0.1 S0.2.1 dX11_feeds_1 rfl (lv_at hl 1 rfl) ?_
  refine q_cV (n := 1) (rest := []) (wr := [(a4, gI g 796 VT), (a5, gI g 796 HT), (v1, gI g 41 Wv), (v2, gI g 41 Sv)]) S0 hK hA hW (c_X11_links l g mo az ap ak ax a1 a2 a3 a4 a5 a6 v1 v2 v3 v4 v5 v6 pm ik ty th mn wt bn wh dp dg Z F L V T u (hG) (hz) (hlk) (hu)) gX11_feeds_X11_links rfl rfl rfl (by decide +kernel) ⟨Nat.le_of_ble_eq_true rfl, Nat.le_of_ble_eq_true rfl⟩ [0, 1, 6, 7, 8] [2, 3, 4, 5] rfl rfl rfl rfl (by decide) (q_recv hK hW.1 (ci := 11) (q0 := 0) rfl rfl) (fun _ _ => trivial) (trivial) rfl rfl hl.1 (Nat.le_of_ble_eq_true rfl) ⟨Nat.le_of_ble_eq_true rfl, Nat.le_of_ble_eq_true rfl⟩ dX11_feeds_2 ?_
  rintro ⟨L1, V1, T1⟩ H locs hp hW
  try dsimp only at hp
  have hW : gW g A s.heap H _ [(a4, gI g 796 VT), (a5, gI g 796 HT), (v1, gI g 41 Wv), (v2, gI g 41 Sv), (mo, .inr (11, [.ref az, .ref ap, .int (iI pm), .ref ak, .int (iI ik), .ref ax, .int (iI ty), .int (iI th), .ref a1, .ref a2, .int (iI mn), .ref a3, .int (iI wt), .ref a4, .ref a5, .ref a6, .ref v1, .ref v2, .ref v3, .ref v4, .ref v5, .ref v6, .int (iI bn), .int (iI wh), .int (iI dp), .int (iI dg)])), (az, gI g 325 Z), (v3, gI g 41 L1), (v4, gI g 41 V1), (v6, gI g 41 T1)] := hW
  refine W.eq (g2 := F0 m 5 ls []) rfl ?_
  have hLV := hp
  refine lv_aload_n S0.1 S0.2.1 dX11_feeds_5 rfl (lv_at hl 0 rfl) ?_
  refine q_iconst S0 dX11_feeds_6 ?_
  refine q_put (C := RX11) (T := TX11) (N := 26) S0 hK hW hinX11 tyX11_ok nmX11 4 rfl rfl 22 (by decide) (List.mem_of_getElem? (i := 1) rfl) rfl rfl rfl rfl (Nat.le_of_ble_eq_true rfl) dX11_feeds_7 (fun H locs hW => ?_)
  have hW : gW g A s.heap H _ [(a4, gI g 796 VT), (a5, gI g 796 HT), (v1, gI g 41 Wv), (v2, gI g 41 Sv), (mo, .inr (11, [.ref az, .ref ap, .int (iI pm), .ref ak, .int (iI ik), .ref ax, .int (iI ty), .int (iI th), .ref a1, .ref a2, .int (iI mn), .ref a3, .int (iI wt), .ref a4, .ref a5, .ref a6, .ref v1, .ref v2, .ref v3, .ref v4, .ref v5, .ref v6, .int (iI 0), .int (iI wh), .int (iI dp), .int (iI dg)])), (az, gI g 325 Z), (v3, gI g 41 L1), (v4, gI g 41 V1), (v6, gI g 41 T1)] := hW
  refine q_iconst S0 dX11_feeds_10 ?_
  refine lv_istore (lv' := [(4, .int (iI 0)), (0, .ref mo), (1, .int (iI u)), (2, .int (iI x)), (3, .int (iI sx))]) S0.1 S0.2.1 dX11_feeds_11 hl (by decide) rfl (fun ls hl => ?_)
  refine q_loop (α := Int × Int × (Nat → Int) × (Nat → Int)) (fun (z_ : Int × Int × (Nat → Int) × (Nat → Int)) => match z_ with | (i, b9, W1, S1) => (0 ≤ i ∧ i ≤ eN (fE F u.toNat)) ∧ FI F u x sx i W1 S1 b9) (fun (z_ : Int × Int × (Nat → Int) × (Nat → Int)) => match z_ with | (i, b9, W1, S1) => (eN (fE F u.toNat) - i).toNat) (fun (z_ : Int × Int × (Nat → Int) × (Nat → Int)) => match z_ with | (i, b9, W1, S1) => [(a4, gI g 796 VT), (a5, gI g 796 HT), (v1, gI g 41 W1), (v2, gI g 41 S1), (mo, .inr (11, [.ref az, .ref ap, .int (iI pm), .ref ak, .int (iI ik), .ref ax, .int (iI ty), .int (iI th), .ref a1, .ref a2, .int (iI mn), .ref a3, .int (iI wt), .ref a4, .ref a5, .ref a6, .ref v1, .ref v2, .ref v3, .ref v4, .ref v5, .ref v6, .int (iI b9), .int (iI wh), .int (iI dp), .int (iI dg)])), (az, gI g 325 Z), (v3, gI g 41 L1), (v4, gI g 41 V1), (v6, gI g 41 T1)]) (fun (z_ : Int × Int × (Nat → Int) × (Nat → Int)) => match z_ with | (i, b9, W1, S1) => [(4, .int (iI i)), (0, .ref mo), (1, .int (iI u)), (2, .int (iI x)), (3, .int (iI sx))]) ?_ (0, 0, Wv, Sv) (by exact ⟨by omega, FI_0 Wv Sv⟩) hW (lv_sub hl [0, 1, 2, 3, 4] rfl)
  rintro ⟨i, b9, W1, S1⟩ hinv IHl H locs ls hW hl
  try dsimp only at hinv
  have hW : gW g A s.heap H _ [(a4, gI g 796 VT), (a5, gI g 796 HT), (v1, gI g 41 W1), (v2, gI g 41 S1), (mo, .inr (11, [.ref az, .ref ap, .int (iI pm), .ref ak, .int (iI ik), .ref ax, .int (iI ty), .int (iI th), .ref a1, .ref a2, .int (iI mn), .ref a3, .int (iI wt), .ref a4, .ref a5, .ref a6, .ref v1, .ref v2, .ref v3, .ref v4, .ref v5, .ref v6, .int (iI b9), .int (iI wh), .int (iI dp), .int (iI dg)])), (az, gI g 325 Z), (v3, gI g 41 L1), (v4, gI g 41 V1), (v6, gI g 41 T1)] := hW
  have hl : lv_has ls 5 [(4, .int (iI i)), (0, .ref mo), (1, .int (iI u)), (2, .int (iI x)), (3, .int (iI sx))] := hl
  obtain ⟨hi, hFI⟩ := hinv
  have hb9 := hFI.1
  refine lv_iload S0.1 S0.2.1 dX11_feeds_13 (lv_at hl 0 rfl) ?_
  refine lv_aload_n S0.1 S0.2.1 dX11_feeds_15 rfl (lv_at hl 1 rfl) ?_
  refine lv_iload_n S0.1 S0.2.1 dX11_feeds_16 rfl (lv_at hl 2 rfl) ?_
  refine q_pV (n := 1) (rest := [.int (iI i)]) S0 hK (c_X11_size l g mo az ap ak ax a1 a2 a3 a4 a5 a6 v1 v2 v3 v4 v5 v6 pm ik ty th mn wt b9 wh dp dg Z u (hu)) (subP hW.1 [4, 5] rfl) (trivial) gX11_feeds_X11_size rfl rfl rfl (by decide +kernel) ⟨Nat.le_of_ble_eq_true rfl, Nat.le_of_ble_eq_true rfl⟩ (q_recv hK hW.1 (ci := 11) (q0 := 4) rfl rfl) rfl rfl hl.1 (Nat.le_of_ble_eq_true rfl) ⟨Nat.le_of_ble_eq_true rfl, Nat.le_of_ble_eq_true rfl⟩ dX11_feeds_17 ?_
  refine W.eq (g2 := F0 m 20 ls [.int (iI (Z (1 + 81 * u).toNat)), .int (iI i)]) rfl ?_
  refine q_topI (b := ((eN (fE F u.toNat) : Nat) : Int)) ((hz.2 u hu).1) ?_
  refine q_icmp_ge (tgt := 66) S0 (by omega) dX11_feeds_20 (by decide) (fun c20 => ?_) (fun c20 => ?_)
  · skip
    exact q_vret S0 hr hlocks (W1, S1, L1, V1, T1, b9) (⟨by rw [show ((eN (fE F u.toNat) : Nat) : Int) = i by omega]; exact hFI, hLV⟩) rfl (hW.sub [4, 5, 0, 1, 2, 3, 6, 7, 8] rfl (rfl)) (Nat.le_of_ble_eq_true rfl) (Nat.le_of_ble_eq_true rfl) dX11_feeds_66
  · skip
    refine lv_aload_n S0.1 S0.2.1 dX11_feeds_23 rfl (lv_at hl 1 rfl) ?_
    refine lv_iload_n S0.1 S0.2.1 dX11_feeds_24 rfl (lv_at hl 2 rfl) ?_
    refine lv_iload S0.1 S0.2.1 dX11_feeds_25 (lv_at hl 0 rfl) ?_
    refine q_pV (n := 2) (rest := []) S0 hK (c_X11_kind l g mo az ap ak ax a1 a2 a3 a4 a5 a6 v1 v2 v3 v4 v5 v6 pm ik ty th mn wt b9 wh dp dg Z u i (hu) (by omega)) (subP hW.1 [4, 5] rfl) (trivial) gX11_feeds_X11_kind rfl rfl rfl (by decide +kernel) ⟨Nat.le_of_ble_eq_true rfl, Nat.le_of_ble_eq_true rfl⟩ (q_recv hK hW.1 (ci := 11) (q0 := 4) rfl rfl) rfl rfl hl.1 (Nat.le_of_ble_eq_true rfl) ⟨Nat.le_of_ble_eq_true rfl, Nat.le_of_ble_eq_true rfl⟩ dX11_feeds_27 ?_
    refine W.eq (g2 := F0 m 30 ls [.int (iI (Z (2 + 81 * u + 2 * i).toNat))]) rfl ?_
    refine q_nm (fun kd hkd => ?_)
    rw [((hz.2 u hu).2 (i) (by omega)).1] at hkd
    have hE9 := (hG.2 u.toNat (by omega)).2.1 (i).toNat (by omega)
    have hkk := kc_cases (WFK_K hE9)
    rw [← hkd] at hkk
    refine q_iconst S0 dX11_feeds_30 ?_
    refine q_icmp_ne (tgt := 53) S0 (by omega) dX11_feeds_31 (by decide) (fun c31 => ?_) (fun c31 => ?_)
    · skip
      refine lv_aload_n S0.1 S0.2.1 dX11_feeds_53 rfl (lv_at hl 1 rfl) ?_
      refine lv_iload_n S0.1 S0.2.1 dX11_feeds_54 rfl (lv_at hl 2 rfl) ?_
      refine lv_iload S0.1 S0.2.1 dX11_feeds_55 (lv_at hl 0 rfl) ?_
      refine q_cV (n := 2) (rest := []) (wr := [(v6, gI g 41 T1)]) S0 hK hA hW (c_X11_reckons l g mo az ap ak ax a1 a2 a3 a4 a5 a6 v1 v2 v3 v4 v5 v6 pm ik ty th mn wt b9 wh dp dg Z F VT HT RU W1 S1 L1 V1 u i (hG) (hz) (hu) (by omega) (by omega) ((hLV i.toNat (by omega)).1) ((hLV i.toNat (by omega)).2) (hTB) (hb9) (fun j hj => hFI.2.2.2 j hj)) gX11_feeds_X11_reckons rfl rfl rfl (by decide +kernel) ⟨Nat.le_of_ble_eq_true rfl, Nat.le_of_ble_eq_true rfl⟩ [4, 5, 0, 1, 2, 3, 6, 7] [8] rfl rfl rfl rfl (by decide) (q_recv hK hW.1 (ci := 11) (q0 := 4) rfl rfl) (fun _ _ => trivial) (trivial) rfl rfl hl.1 (Nat.le_of_ble_eq_true rfl) ⟨Nat.le_of_ble_eq_true rfl, Nat.le_of_ble_eq_true rfl⟩ dX11_feeds_57 (fun _ H locs _ hW => ?_)
      have hW : gW g A s.heap H _ [(v6, gI g 41 T1), (mo, .inr (11, [.ref az, .ref ap, .int (iI pm), .ref ak, .int (iI ik), .ref ax, .int (iI ty), .int (iI th), .ref a1, .ref a2, .int (iI mn), .ref a3, .int (iI wt), .ref a4, .ref a5, .ref a6, .ref v1, .ref v2, .ref v3, .ref v4, .ref v5, .ref v6, .int (iI (if b9 = 1 ∨ nv0 F u W1 i.toNat = -1 then 1 else 0)), .int (iI wh), .int (iI dp), .int (iI dg)])), (az, gI g 325 Z), (a4, gI g 796 VT), (a5, gI g 796 HT), (v1, gI g 41 (up W1 i.toNat (zb (nv0 F u W1 i.toNat)))), (v2, gI g 41 (up S1 i.toNat (ns0 F u W1 S1 i.toNat))), (v3, gI g 41 L1), (v4, gI g 41 V1)] := hW
      refine W.eq (g2 := F0 m 60 ls []) rfl ?_
      have hnx9 : FI F u x sx (i + 1) (up W1 i.toNat (zb (nv0 F u W1 i.toNat))) (up S1 i.toNat (ns0 F u W1 S1 i.toNat)) (if b9 = 1 ∨ nv0 F u W1 i.toNat = -1 then 1 else 0) := FI_r hG hu (by omega) hx hsx hFI (by omega)
      refine q_iinc (lv' := [(4, .int (iI (i + 1))), (0, .ref mo), (1, .int (iI u)), (2, .int (iI x)), (3, .int (iI sx))]) S0 dX11_feeds_60 hl (k := 0) rfl (by decide) rfl (fun ls hl => ?_)
      refine lv_goto (tgt := 13) S0.1 S0.2.1 dX11_feeds_63 (by decide) ?_
      exact IHl (i + 1, if b9 = 1 ∨ nv0 F u W1 i.toNat = -1 then 1 else 0, up W1 i.toNat (zb (nv0 F u W1 i.toNat)), up S1 i.toNat (ns0 F u W1 S1 i.toNat)) H locs ls (by exact ⟨by omega, hnx9⟩) (by dsimp only; omega) (hW.sub [3, 4, 5, 6, 1, 2, 7, 8, 0] rfl rfl) (lv_sub hl [0, 1, 2, 3, 4] rfl)
    · skip
      refine lv_aload_n S0.1 S0.2.1 dX11_feeds_34 rfl (lv_at hl 1 rfl) ?_
      refine q_get (C := RX11) (T := TX11) (N := 26) S0 hK hW.1 hinX11 4 rfl rfl 16 (by decide) (List.mem_of_getElem? (i := 2) rfl) rfl rfl dX11_feeds_35 ?_
      refine lv_iload S0.1 S0.2.1 dX11_feeds_38 (lv_at hl 0 rfl) ?_
      refine lv_iload_n S0.1 S0.2.1 dX11_feeds_40 rfl (lv_at hl 3 rfl) ?_
      refine q_iast S0 hK hW 2 rfl (by omega) dX11_feeds_41 (fun H locs hW => ?_)
      have hW : gW g A s.heap H _ [(a4, gI g 796 VT), (a5, gI g 796 HT), (v1, gI g 41 (up W1 ((i).toNat) x)), (v2, gI g 41 S1), (mo, .inr (11, [.ref az, .ref ap, .int (iI pm), .ref ak, .int (iI ik), .ref ax, .int (iI ty), .int (iI th), .ref a1, .ref a2, .int (iI mn), .ref a3, .int (iI wt), .ref a4, .ref a5, .ref a6, .ref v1, .ref v2, .ref v3, .ref v4, .ref v5, .ref v6, .int (iI b9), .int (iI wh), .int (iI dp), .int (iI dg)])), (az, gI g 325 Z), (v3, gI g 41 L1), (v4, gI g 41 V1), (v6, gI g 41 T1)] := hW
      refine lv_aload_n S0.1 S0.2.1 dX11_feeds_42 rfl (lv_at hl 1 rfl) ?_
      refine q_get (C := RX11) (T := TX11) (N := 26) S0 hK hW.1 hinX11 4 rfl rfl 17 (by decide) (List.mem_of_getElem? (i := 3) rfl) rfl rfl dX11_feeds_43 ?_
      refine lv_iload S0.1 S0.2.1 dX11_feeds_46 (lv_at hl 0 rfl) ?_
      refine lv_iload_n S0.1 S0.2.1 dX11_feeds_48 rfl (lv_at hl 4 rfl) ?_
      refine q_iast S0 hK hW 3 rfl (by omega) dX11_feeds_49 (fun H locs hW => ?_)
      have hW : gW g A s.heap H _ [(a4, gI g 796 VT), (a5, gI g 796 HT), (v1, gI g 41 (up W1 ((i).toNat) x)), (v2, gI g 41 (up S1 ((i).toNat) sx)), (mo, .inr (11, [.ref az, .ref ap, .int (iI pm), .ref ak, .int (iI ik), .ref ax, .int (iI ty), .int (iI th), .ref a1, .ref a2, .int (iI mn), .ref a3, .int (iI wt), .ref a4, .ref a5, .ref a6, .ref v1, .ref v2, .ref v3, .ref v4, .ref v5, .ref v6, .int (iI b9), .int (iI wh), .int (iI dp), .int (iI dg)])), (az, gI g 325 Z), (v3, gI g 41 L1), (v4, gI g 41 V1), (v6, gI g 41 T1)] := hW
      have hnx9 : FI F u x sx (i + 1) (up W1 i.toNat x) (up S1 i.toNat sx) b9 := FI_x hG hu (by omega) hx hsx hFI (by omega)
      refine lv_goto (tgt := 60) S0.1 S0.2.1 dX11_feeds_50 (by decide) ?_
      refine q_iinc (lv' := [(4, .int (iI (i + 1))), (0, .ref mo), (1, .int (iI u)), (2, .int (iI x)), (3, .int (iI sx))]) S0 dX11_feeds_60 hl (k := 0) rfl (by decide) rfl (fun ls hl => ?_)
      refine lv_goto (tgt := 13) S0.1 S0.2.1 dX11_feeds_63 (by decide) ?_
      exact IHl (i + 1, b9, up W1 i.toNat x, up S1 i.toNat sx) H locs ls (by exact ⟨by omega, hnx9⟩) (by dsimp only; omega) hW (lv_sub hl [0, 1, 2, 3, 4] rfl)
