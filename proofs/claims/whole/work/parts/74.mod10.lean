set_option maxHeartbeats 4000000 in
set_option maxRecDepth 100000 in
theorem c_X11_slopeOf (l : Launch) (g : GG) (mo az ap ak ax a1 a2 a3 a4 a5 a6 v1 v2 v3 v4 v5 v6 : Nat) (pm ik ty th mn wt bn wh dp dg : Int) (Z : Nat → Int) (F : FT) (RU Wv L V Sh0 : Nat → Int) (u x : Int) (hG : GF F) (hz : ZR Z F) (hu : 0 ≤ u ∧ u < 4) (hx : 0 ≤ x ∧ x < fP F) (hLV : ∀ j : Nat, j < eN (fE F u.toNat) → L j = eL (fE F u.toNat) j ∧ V j = eV (fE F u.toNat) j) (hRU : ∀ j x : Int, 0 ≤ j → j < u → 0 ≤ x → x < fP F → RU (199 * j + x).toNat = hh (fP F) (fE F) j.toNat x) (hVI : VI F u x (eN (fE F u.toNat)) (RQ u Wv Wv Wv)) (hw : ∀ j : Nat, (j : Int) < eN (fE F u.toNat) → 0 ≤ Wv j ∧ Wv j < fP F) : qMet l yX11_slopeOf wsX11_slopeOf ({ frames := 3, cells := 0, slots := 0, locals := 74 }) g [.ref mo, .int (iI u)] [(mo, .inr (11, [.ref az, .ref ap, .int (iI pm), .ref ak, .int (iI ik), .ref ax, .int (iI ty), .int (iI th), .ref a1, .ref a2, .int (iI mn), .ref a3, .int (iI wt), .ref a4, .ref a5, .ref a6, .ref v1, .ref v2, .ref v3, .ref v4, .ref v5, .ref v6, .int (iI bn), .int (iI wh), .int (iI dp), .int (iI dg)])), (az, gI g 325 Z), (a6, gI g 796 RU), (v1, gI g 41 Wv), (v3, gI g 41 L), (v4, gI g 41 V), (v5, gI g 41 Sh0)] (fun _ => True) (fun _ => True) (S := (Nat → Int)) (fun u_ => some (.int (iI (hh (fP F) (fE F) u.toNat x)))) (fun u_ => [(mo, .inr (11, [.ref az, .ref ap, .int (iI pm), .ref ak, .int (iI ik), .ref ax, .int (iI ty), .int (iI th), .ref a1, .ref a2, .int (iI mn), .ref a3, .int (iI wt), .ref a4, .ref a5, .ref a6, .ref v1, .ref v2, .ref v3, .ref v4, .ref v5, .ref v6, .int (iI bn), .int (iI wh), .int (iI dp), .int (iI dg)])), (az, gI g 325 Z), (a6, gI g 796 RU), (v1, gI g 41 Wv), (v3, gI g 41 L), (v4, gI g 41 V), (v5, gI g 41 u_)]) (fun _ => True) 0 0 := by
  refine q_ofW (cc := cX11_slopeOf) (maxL := 4) (ret := (some .int)) (fun sz h => h.self) (by decide) rfl (Nat.le_of_ble_eq_true rfl) ?_
  intro p e s m args below meth c A ls S0 hr hlocks hnme hK hA hAe hW hD0 hX hl
  have hW : gW g A s.heap s.heap [] [(mo, .inr (11, [.ref az, .ref ap, .int (iI pm), .ref ak, .int (iI ik), .ref ax, .int (iI ty), .int (iI th), .ref a1, .ref a2, .int (iI mn), .ref a3, .int (iI wt), .ref a4, .ref a5, .ref a6, .ref v1, .ref v2, .ref v3, .ref v4, .ref v5, .ref v6, .int (iI bn), .int (iI wh), .int (iI dp), .int (iI dg)])), (az, gI g 325 Z), (a6, gI g 796 RU), (v1, gI g 41 Wv), (v3, gI g 41 L), (v4, gI g 41 V), (v5, gI g 41 Sh0)] := hW
  have hl : lv_has ls 4 [(0, .ref mo), (1, .int (iI u))] := hl
  have hinX11 : ∀ w ∈ wsX110, w ∈ wsX11_slopeOf := fun w h => List.mem_cons_of_mem _ (List.mem_append_right _ h)
  have hpr := GF_p hG
  have hn40 := (hG.2 u.toNat (by omega)).1
  refine q_iconst S0 dX11_slopeOf_0 ?_
  refine lv_istore_n (lv' := [(2, .int (iI 0)), (0, .ref mo), (1, .int (iI u))]) S0.1 S0.2.1 dX11_slopeOf_1 rfl hl (by decide) rfl (fun ls hl => ?_)
  refine q_iconst S0 dX11_slopeOf_2 ?_
  refine lv_istore_n (lv' := [(3, .int (iI 0)), (2, .int (iI 0)), (0, .ref mo), (1, .int (iI u))]) S0.1 S0.2.1 dX11_slopeOf_3 rfl hl (by decide) rfl (fun ls hl => ?_)
  refine q_loop (α := Int × (Nat → Int)) (fun (z_ : Int × (Nat → Int)) => match z_ with | (i, S1) => (0 ≤ i ∧ i ≤ eN (fE F u.toNat)) ∧ ∀ j : Nat, (j : Int) < i → S1 j = if (j : Int) = eN (fE F u.toNat) - 1 then 1 else 0) (fun (z_ : Int × (Nat → Int)) => match z_ with | (i, S1) => (eN (fE F u.toNat) - i).toNat) (fun (z_ : Int × (Nat → Int)) => match z_ with | (i, S1) => [(mo, .inr (11, [.ref az, .ref ap, .int (iI pm), .ref ak, .int (iI ik), .ref ax, .int (iI ty), .int (iI th), .ref a1, .ref a2, .int (iI mn), .ref a3, .int (iI wt), .ref a4, .ref a5, .ref a6, .ref v1, .ref v2, .ref v3, .ref v4, .ref v5, .ref v6, .int (iI bn), .int (iI wh), .int (iI dp), .int (iI dg)])), (az, gI g 325 Z), (a6, gI g 796 RU), (v1, gI g 41 Wv), (v3, gI g 41 L), (v4, gI g 41 V), (v5, gI g 41 S1)]) (fun (z_ : Int × (Nat → Int)) => match z_ with | (i, S1) => [(3, .int (iI i)), (2, .int (iI 0)), (0, .ref mo), (1, .int (iI u))]) ?_ (0, Sh0) (by exact ⟨by omega, fun j hj => absurd hj (by omega)⟩) hW (lv_sub hl [0, 1, 2, 3] rfl)
  rintro ⟨i, S1⟩ hinv IHl H locs ls hW hl
  try dsimp only at hinv
  have hW : gW g A s.heap H _ [(mo, .inr (11, [.ref az, .ref ap, .int (iI pm), .ref ak, .int (iI ik), .ref ax, .int (iI ty), .int (iI th), .ref a1, .ref a2, .int (iI mn), .ref a3, .int (iI wt), .ref a4, .ref a5, .ref a6, .ref v1, .ref v2, .ref v3, .ref v4, .ref v5, .ref v6, .int (iI bn), .int (iI wh), .int (iI dp), .int (iI dg)])), (az, gI g 325 Z), (a6, gI g 796 RU), (v1, gI g 41 Wv), (v3, gI g 41 L), (v4, gI g 41 V), (v5, gI g 41 S1)] := hW
  have hl : lv_has ls 4 [(3, .int (iI i)), (2, .int (iI 0)), (0, .ref mo), (1, .int (iI u))] := hl
  obtain ⟨hi, hS1⟩ := hinv
  refine lv_iload_n S0.1 S0.2.1 dX11_slopeOf_4 rfl (lv_at hl 0 rfl) ?_
  refine lv_aload_n S0.1 S0.2.1 dX11_slopeOf_5 rfl (lv_at hl 2 rfl) ?_
  refine lv_iload_n S0.1 S0.2.1 dX11_slopeOf_6 rfl (lv_at hl 3 rfl) ?_
  refine q_pV (n := 1) (rest := [.int (iI i)]) S0 hK (c_X11_size l g mo az ap ak ax a1 a2 a3 a4 a5 a6 v1 v2 v3 v4 v5 v6 pm ik ty th mn wt bn wh dp dg Z u (hu)) (subP hW.1 [0, 1] rfl) (trivial) gX11_slopeOf_X11_size rfl rfl rfl (by decide +kernel) ⟨Nat.le_of_ble_eq_true rfl, Nat.le_of_ble_eq_true rfl⟩ (q_recv hK hW.1 (ci := 11) (q0 := 0) rfl rfl) rfl rfl hl.1 (Nat.le_of_ble_eq_true rfl) ⟨Nat.le_of_ble_eq_true rfl, Nat.le_of_ble_eq_true rfl⟩ dX11_slopeOf_7 ?_
  refine W.eq (g2 := F0 m 10 ls [.int (iI (Z (1 + 81 * u).toNat)), .int (iI i)]) rfl ?_
  refine q_topI (b := ((eN (fE F u.toNat) : Nat) : Int)) ((hz.2 u hu).1) ?_
  refine q_icmp_ge (tgt := 41) S0 (by omega) dX11_slopeOf_10 (by decide) (fun c10 => ?_) (fun c10 => ?_)
  · skip
    refine lv_aload_n S0.1 S0.2.1 dX11_slopeOf_41 rfl (lv_at hl 2 rfl) ?_
    refine lv_iload_n S0.1 S0.2.1 dX11_slopeOf_42 rfl (lv_at hl 3 rfl) ?_
    refine q_pV (n := 1) (rest := []) S0 hK (c_X11_size l g mo az ap ak ax a1 a2 a3 a4 a5 a6 v1 v2 v3 v4 v5 v6 pm ik ty th mn wt bn wh dp dg Z u (hu)) (subP hW.1 [0, 1] rfl) (trivial) gX11_slopeOf_X11_size rfl rfl rfl (by decide +kernel) ⟨Nat.le_of_ble_eq_true rfl, Nat.le_of_ble_eq_true rfl⟩ (q_recv hK hW.1 (ci := 11) (q0 := 0) rfl rfl) rfl rfl hl.1 (Nat.le_of_ble_eq_true rfl) ⟨Nat.le_of_ble_eq_true rfl, Nat.le_of_ble_eq_true rfl⟩ dX11_slopeOf_43 ?_
    refine W.eq (g2 := F0 m 46 ls [.int (iI (Z (1 + 81 * u).toNat))]) rfl ?_
    refine q_topI (b := ((eN (fE F u.toNat) : Nat) : Int)) ((hz.2 u hu).1) ?_
    refine q_iconst S0 dX11_slopeOf_46 ?_
    refine q_isub S0 dX11_slopeOf_47 ?_
    refine lv_istore_n (lv' := [(3, .int (iI ((((eN (fE F u.toNat) : Nat) : Int)) - 1))), (2, .int (iI 0)), (0, .ref mo), (1, .int (iI u))]) S0.1 S0.2.1 dX11_slopeOf_48 rfl hl (by decide) rfl (fun ls hl => ?_)
    refine q_loop (α := Int × Int × (Nat → Int)) (fun (z_ : Int × Int × (Nat → Int)) => match z_ with | (k9, s9, S2) => (-1 ≤ k9 ∧ k9 < eN (fE F u.toNat)) ∧ WQ F u x k9 s9 Wv S2) (fun (z_ : Int × Int × (Nat → Int)) => match z_ with | (k9, s9, S2) => (k9 + 1).toNat) (fun (z_ : Int × Int × (Nat → Int)) => match z_ with | (k9, s9, S2) => [(mo, .inr (11, [.ref az, .ref ap, .int (iI pm), .ref ak, .int (iI ik), .ref ax, .int (iI ty), .int (iI th), .ref a1, .ref a2, .int (iI mn), .ref a3, .int (iI wt), .ref a4, .ref a5, .ref a6, .ref v1, .ref v2, .ref v3, .ref v4, .ref v5, .ref v6, .int (iI bn), .int (iI wh), .int (iI dp), .int (iI dg)])), (az, gI g 325 Z), (a6, gI g 796 RU), (v1, gI g 41 Wv), (v3, gI g 41 L), (v4, gI g 41 V), (v5, gI g 41 S2)]) (fun (z_ : Int × Int × (Nat → Int)) => match z_ with | (k9, s9, S2) => [(3, .int (iI k9)), (2, .int (iI s9)), (0, .ref mo), (1, .int (iI u))]) ?_ (((eN (fE F u.toNat) : Nat) : Int) - 1, 0, S1) (by exact ⟨by omega, WQ_0 hG hu rfl (fun j hj => hS1 j (by omega))⟩) hW (lv_sub hl [0, 1, 2, 3] rfl)
    rintro ⟨k9, s9, S2⟩ hinv IHl49 H locs ls hW hl
    try dsimp only at hinv
    have hW : gW g A s.heap H _ [(mo, .inr (11, [.ref az, .ref ap, .int (iI pm), .ref ak, .int (iI ik), .ref ax, .int (iI ty), .int (iI th), .ref a1, .ref a2, .int (iI mn), .ref a3, .int (iI wt), .ref a4, .ref a5, .ref a6, .ref v1, .ref v2, .ref v3, .ref v4, .ref v5, .ref v6, .int (iI bn), .int (iI wh), .int (iI dp), .int (iI dg)])), (az, gI g 325 Z), (a6, gI g 796 RU), (v1, gI g 41 Wv), (v3, gI g 41 L), (v4, gI g 41 V), (v5, gI g 41 S2)] := hW
    have hl : lv_has ls 4 [(3, .int (iI k9)), (2, .int (iI s9)), (0, .ref mo), (1, .int (iI u))] := hl
    obtain ⟨hk9, hWQ⟩ := hinv
    have hs9 := hWQ.1.1
    refine lv_iload_n S0.1 S0.2.1 dX11_slopeOf_49 rfl (lv_at hl 0 rfl) ?_
    refine q_if_lt (tgt := 92) S0 (by omega) dX11_slopeOf_50 (by decide) (fun c50 => ?_) (fun c50 => ?_)
    · skip
      refine lv_iload_n S0.1 S0.2.1 dX11_slopeOf_92 rfl (lv_at hl 1 rfl) ?_
      have hend : s9 = hh (fP F) (fE F) u.toNat x := WI_end hG hu (VI_RQ hVI) (by rw [show k9 = -1 by omega] at hWQ; exact hWQ.1)
      exact q_iret S0 hr hlocks S2 (trivial) (by rw [hend]) (hW.sub [0, 1, 2, 3, 4, 5, 6] rfl (rfl)) (Nat.le_of_ble_eq_true rfl) (Nat.le_of_ble_eq_true rfl) dX11_slopeOf_93
    · skip
      have hai := asg_self hG hu (i := k9) (by omega)
      have hsr := hWQ.1.2.1 k9.toNat (by omega) hai
      rw [RQ_W hu.1] at hsr
      have hok := VI_ok hG hu (k := k9) (by omega) hVI
      refine lv_aload_n S0.1 S0.2.1 dX11_slopeOf_53 rfl (lv_at hl 2 rfl) ?_
      refine lv_iload_n S0.1 S0.2.1 dX11_slopeOf_54 rfl (lv_at hl 3 rfl) ?_
      refine lv_iload_n S0.1 S0.2.1 dX11_slopeOf_55 rfl (lv_at hl 0 rfl) ?_
      refine q_cV (n := 2) (rest := []) (wr := []) S0 hK hA hW (c_X11_shares l g mo az ap ak ax a1 a2 a3 a4 a5 a6 v1 v2 v3 v4 v5 v6 pm ik ty th mn wt bn wh dp dg Z F RU Wv L V S2 u k9 (hG) (hz) (hu) (by omega) ((hLV k9.toNat (by omega)).1) ((hLV k9.toNat (by omega)).2) (hRU) (fun j hj => hw j (by omega)) (hsr) (fun q => hWQ.2 _ (by have z := (asg_part hG hu (i := k9) (by omega) (j := (eL (fE F u.toNat) k9.toNat).toNat) (Or.inl (by omega))).1; omega) (asg_part hG hu (i := k9) (by omega) (Or.inl (by omega))).2) (fun q => hWQ.2 _ (by have z := (asg_part hG hu (i := k9) (by omega) (j := (eV (fE F u.toNat) k9.toNat).toNat) (Or.inr (by omega))).1; omega) (asg_part hG hu (i := k9) (by omega) (Or.inr (by omega))).2) (VI_div hok) (VI_cal hok)) gX11_slopeOf_X11_shares rfl rfl rfl (by decide +kernel) ⟨Nat.le_of_ble_eq_true rfl, Nat.le_of_ble_eq_true rfl⟩ [0, 1, 2, 3, 4, 5, 6] [] rfl rfl rfl rfl (by decide) (q_recv hK hW.1 (ci := 11) (q0 := 0) rfl rfl) (fun _ _ => trivial) (trivial) rfl rfl hl.1 (Nat.le_of_ble_eq_true rfl) ⟨Nat.le_of_ble_eq_true rfl, Nat.le_of_ble_eq_true rfl⟩ dX11_slopeOf_56 ?_
      rintro S3 H locs hp hW
      try dsimp only at hp
      have hW : gW g A s.heap H _ [(mo, .inr (11, [.ref az, .ref ap, .int (iI pm), .ref ak, .int (iI ik), .ref ax, .int (iI ty), .int (iI th), .ref a1, .ref a2, .int (iI mn), .ref a3, .int (iI wt), .ref a4, .ref a5, .ref a6, .ref v1, .ref v2, .ref v3, .ref v4, .ref v5, .ref v6, .int (iI bn), .int (iI wh), .int (iI dp), .int (iI dg)])), (az, gI g 325 Z), (a6, gI g 796 RU), (v1, gI g 41 Wv), (v3, gI g 41 L), (v4, gI g 41 V), (v5, gI g 41 S3)] := hW
      refine W.eq (g2 := F0 m 59 ls []) rfl ?_
      have hsp := hp
      refine lv_aload_n S0.1 S0.2.1 dX11_slopeOf_59 rfl (lv_at hl 2 rfl) ?_
      refine lv_iload_n S0.1 S0.2.1 dX11_slopeOf_60 rfl (lv_at hl 3 rfl) ?_
      refine lv_iload_n S0.1 S0.2.1 dX11_slopeOf_61 rfl (lv_at hl 0 rfl) ?_
      refine q_pV (n := 2) (rest := []) S0 hK (c_X11_kind l g mo az ap ak ax a1 a2 a3 a4 a5 a6 v1 v2 v3 v4 v5 v6 pm ik ty th mn wt bn wh dp dg Z u k9 (hu) (by omega)) (subP hW.1 [0, 1] rfl) (trivial) gX11_slopeOf_X11_kind rfl rfl rfl (by decide +kernel) ⟨Nat.le_of_ble_eq_true rfl, Nat.le_of_ble_eq_true rfl⟩ (q_recv hK hW.1 (ci := 11) (q0 := 0) rfl rfl) rfl rfl hl.1 (Nat.le_of_ble_eq_true rfl) ⟨Nat.le_of_ble_eq_true rfl, Nat.le_of_ble_eq_true rfl⟩ dX11_slopeOf_62 ?_
      refine W.eq (g2 := F0 m 65 ls [.int (iI (Z (2 + 81 * u + 2 * k9).toNat))]) rfl ?_
      refine q_nm (fun kd hkd => ?_)
      rw [((hz.2 u hu).2 (k9) (by omega)).1] at hkd
      have hE9 := (hG.2 u.toNat (by omega)).2.1 (k9).toNat (by omega)
      have hkk := kc_cases (WFK_K hE9)
      rw [← hkd] at hkk
      refine q_iconst S0 dX11_slopeOf_65 ?_
      refine q_icmp_ne (tgt := 84) S0 (by omega) dX11_slopeOf_66 (by decide) (fun c66 => ?_) (fun c66 => ?_)
      · skip
        have hnx9 : WQ F u x (k9 + (-1)) s9 Wv S3 := by rw [show k9 + (-1) = k9 - 1 by omega]; exact WQ_dn (i := k9) hG hu (by omega) (VI_RQ hVI) hWQ (by omega) hsp
        refine lv_iload_n S0.1 S0.2.1 dX11_slopeOf_84 rfl (lv_at hl 1 rfl) ?_
        refine lv_istore_n (lv' := [(2, .int (iI s9)), (3, .int (iI k9)), (0, .ref mo), (1, .int (iI u))]) S0.1 S0.2.1 dX11_slopeOf_85 rfl hl (by decide) rfl (fun ls hl => ?_)
        refine q_iinc (lv' := [(3, .int (iI (k9 + (-1)))), (2, .int (iI s9)), (0, .ref mo), (1, .int (iI u))]) S0 dX11_slopeOf_86 hl (k := 1) rfl (by decide) rfl (fun ls hl => ?_)
        refine lv_goto (tgt := 49) S0.1 S0.2.1 dX11_slopeOf_89 (by decide) ?_
        exact IHl49 (k9 + (-1), s9, S3) H locs ls (by exact ⟨by omega, hnx9⟩) (by dsimp only; omega) hW (lv_sub hl [0, 1, 2, 3] rfl)
      · skip
        have hnx9 : WQ F u x (k9 + (-1)) ((s9 + S3 k9.toNat) % fP F) Wv S3 := by rw [show k9 + (-1) = k9 - 1 by omega]; exact WQ_x (i := k9) hG hu (by omega) (VI_RQ hVI) hWQ (by omega) hsp
        have hS3r : 0 ≤ S3 k9.toNat ∧ S3 k9.toNat < fP F := by unfold WFK at hE9; rw [hsp k9.toNat, if_neg (by omega), if_neg (by omega)]; exact hsr
        refine lv_aload_n S0.1 S0.2.1 dX11_slopeOf_69 rfl (lv_at hl 2 rfl) ?_
        refine lv_iload_n S0.1 S0.2.1 dX11_slopeOf_70 rfl (lv_at hl 1 rfl) ?_
        refine lv_aload_n S0.1 S0.2.1 dX11_slopeOf_71 rfl (lv_at hl 2 rfl) ?_
        refine q_get (C := RX11) (T := TX11) (N := 26) S0 hK hW.1 hinX11 0 rfl rfl 20 (by decide) (List.mem_of_getElem? (i := 1) rfl) rfl rfl dX11_slopeOf_72 ?_
        refine lv_iload_n S0.1 S0.2.1 dX11_slopeOf_75 rfl (lv_at hl 0 rfl) ?_
        refine q_iald S0 hK hW.1 6 rfl (by omega) dX11_slopeOf_76 ?_
        refine q_iadd S0 dX11_slopeOf_77 ?_
        refine q_pV (n := 1) (rest := []) S0 hK (c_X11_p l g mo az ap ak ax a1 a2 a3 a4 a5 a6 v1 v2 v3 v4 v5 v6 pm ik ty th mn wt bn wh dp dg Z (fP F) (s9 + (S3 (k9).toNat)) (hpr) (hz.1) (by omega)) (subP hW.1 [0, 1] rfl) (trivial) gX11_slopeOf_X11_p rfl rfl rfl (by decide +kernel) ⟨Nat.le_of_ble_eq_true rfl, Nat.le_of_ble_eq_true rfl⟩ (q_recv hK hW.1 (ci := 11) (q0 := 0) rfl rfl) rfl rfl hl.1 (Nat.le_of_ble_eq_true rfl) ⟨Nat.le_of_ble_eq_true rfl, Nat.le_of_ble_eq_true rfl⟩ dX11_slopeOf_78 ?_
        refine W.eq (g2 := F0 m 81 ls [.int (iI ((s9 + (S3 (k9).toNat)) % (fP F)))]) rfl ?_
        refine lv_goto (tgt := 85) S0.1 S0.2.1 dX11_slopeOf_81 (by decide) ?_
        refine lv_istore_n (lv' := [(2, .int (iI ((s9 + (S3 (k9).toNat)) % (fP F)))), (3, .int (iI k9)), (0, .ref mo), (1, .int (iI u))]) S0.1 S0.2.1 dX11_slopeOf_85 rfl hl (by decide) rfl (fun ls hl => ?_)
        refine q_iinc (lv' := [(3, .int (iI (k9 + (-1)))), (2, .int (iI ((s9 + (S3 (k9).toNat)) % (fP F)))), (0, .ref mo), (1, .int (iI u))]) S0 dX11_slopeOf_86 hl (k := 1) rfl (by decide) rfl (fun ls hl => ?_)
        refine lv_goto (tgt := 49) S0.1 S0.2.1 dX11_slopeOf_89 (by decide) ?_
        exact IHl49 (k9 + (-1), (s9 + (S3 (k9).toNat)) % (fP F), S3) H locs ls (by exact ⟨by omega, hnx9⟩) (by dsimp only; omega) hW (lv_sub hl [0, 1, 2, 3] rfl)
  · skip
    refine lv_aload_n S0.1 S0.2.1 dX11_slopeOf_13 rfl (lv_at hl 2 rfl) ?_
    refine q_get (C := RX11) (T := TX11) (N := 26) S0 hK hW.1 hinX11 0 rfl rfl 20 (by decide) (List.mem_of_getElem? (i := 1) rfl) rfl rfl dX11_slopeOf_14 ?_
    refine lv_iload_n S0.1 S0.2.1 dX11_slopeOf_17 rfl (lv_at hl 0 rfl) ?_
    refine q_cut (α := Int) (fun z9 => F0 m 34 ls (.int (iI z9) :: [.int (iI i), .ref v5])) (fun z9 => z9 = if i = eN (fE F u.toNat) - 1 then (1 : Int) else 0) (fun z9 hz9 => ?_) (fun hJ18 => ?_)
    · skip
      refine q_iast S0 hK hW 6 rfl (by omega) dX11_slopeOf_34 (fun H locs hW => ?_)
      have hW : gW g A s.heap H _ [(mo, .inr (11, [.ref az, .ref ap, .int (iI pm), .ref ak, .int (iI ik), .ref ax, .int (iI ty), .int (iI th), .ref a1, .ref a2, .int (iI mn), .ref a3, .int (iI wt), .ref a4, .ref a5, .ref a6, .ref v1, .ref v2, .ref v3, .ref v4, .ref v5, .ref v6, .int (iI bn), .int (iI wh), .int (iI dp), .int (iI dg)])), (az, gI g 325 Z), (a6, gI g 796 RU), (v1, gI g 41 Wv), (v3, gI g 41 L), (v4, gI g 41 V), (v5, gI g 41 (up S1 ((i).toNat) z9))] := hW
      refine q_iinc (lv' := [(3, .int (iI (i + 1))), (2, .int (iI 0)), (0, .ref mo), (1, .int (iI u))]) S0 dX11_slopeOf_35 hl (k := 0) rfl (by decide) rfl (fun ls hl => ?_)
      refine lv_goto (tgt := 4) S0.1 S0.2.1 dX11_slopeOf_38 (by decide) ?_
      exact IHl (i + 1, up S1 i.toNat z9) H locs ls (by
            refine ⟨by omega, fun j hj => ?_⟩
            unfold up
            by_cases q : j = i.toNat
            · rw [if_pos q, hz9, q, show ((i.toNat : Nat) : Int) = i by omega]
            · rw [if_neg q]; exact hS1 j (by omega)) (by dsimp only; omega) hW (lv_sub hl [0, 1, 2, 3] rfl)
    · skip
      refine lv_iload_n S0.1 S0.2.1 dX11_slopeOf_18 rfl (lv_at hl 0 rfl) ?_
      refine lv_aload_n S0.1 S0.2.1 dX11_slopeOf_19 rfl (lv_at hl 2 rfl) ?_
      refine lv_iload_n S0.1 S0.2.1 dX11_slopeOf_20 rfl (lv_at hl 3 rfl) ?_
      refine q_pV (n := 1) (rest := [.int (iI i), .int (iI i), .ref v5]) S0 hK (c_X11_size l g mo az ap ak ax a1 a2 a3 a4 a5 a6 v1 v2 v3 v4 v5 v6 pm ik ty th mn wt bn wh dp dg Z u (hu)) (subP hW.1 [0, 1] rfl) (trivial) gX11_slopeOf_X11_size rfl rfl rfl (by decide +kernel) ⟨Nat.le_of_ble_eq_true rfl, Nat.le_of_ble_eq_true rfl⟩ (q_recv hK hW.1 (ci := 11) (q0 := 0) rfl rfl) rfl rfl hl.1 (Nat.le_of_ble_eq_true rfl) ⟨Nat.le_of_ble_eq_true rfl, Nat.le_of_ble_eq_true rfl⟩ dX11_slopeOf_21 ?_
      refine W.eq (g2 := F0 m 24 ls [.int (iI (Z (1 + 81 * u).toNat)), .int (iI i), .int (iI i), .ref v5]) rfl ?_
      refine q_topI (b := ((eN (fE F u.toNat) : Nat) : Int)) ((hz.2 u hu).1) ?_
      refine q_iconst S0 dX11_slopeOf_24 ?_
      refine q_isub S0 dX11_slopeOf_25 ?_
      refine q_icmp_ne (tgt := 33) S0 (by omega) dX11_slopeOf_26 (by decide) (fun c26 => ?_) (fun c26 => ?_)
      · skip
        refine q_iconst S0 dX11_slopeOf_33 ?_
        exact hJ18 _ (by first | (rw [if_pos (by omega)]; done) | (rw [if_neg (by omega)]; done) | omega)
      · skip
        refine q_iconst S0 dX11_slopeOf_29 ?_
        refine lv_goto (tgt := 34) S0.1 S0.2.1 dX11_slopeOf_30 (by decide) ?_
        exact hJ18 _ (by first | (rw [if_pos (by omega)]; done) | (rw [if_neg (by omega)]; done) | omega)
