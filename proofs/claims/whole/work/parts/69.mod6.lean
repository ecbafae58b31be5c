theorem lm_L {E : EX} {f m k : Nat} (h1 : WFK E f m) (h2 : WFK E f k) (e : eK E m = eK E k) : eL E m = -1 ↔ eL E k = -1 := by
  unfold WFK at h1 h2
  omega
theorem lm_V {E : EX} {f m k : Nat} (h1 : WFK E f m) (h2 : WFK E f k) (e : eK E m = eK E k) : eV E m = -1 ↔ eV E k = -1 := by
  unfold WFK at h1 h2
  omega

set_option maxHeartbeats 4000000 in
set_option maxRecDepth 100000 in
theorem c_X11_links (l : Launch) (g : GG) (mo az ap ak ax a1 a2 a3 a4 a5 a6 v1 v2 v3 v4 v5 v6 : Nat) (pm ik ty th mn wt bn wh dp dg : Int) (Z : Nat → Int) (F : FT) (L V T : Nat → Int) (u : Int) (hG : GF F) (hz : ZR Z F) (hlk : LKG F) (hu : 0 ≤ u ∧ u < 4) : qMet l yX11_links wsX11_links ({ frames := 1, cells := 0, slots := 0, locals := 22 }) g [.ref mo, .int (iI u)] [(mo, .inr (11, [.ref az, .ref ap, .int (iI pm), .ref ak, .int (iI ik), .ref ax, .int (iI ty), .int (iI th), .ref a1, .ref a2, .int (iI mn), .ref a3, .int (iI wt), .ref a4, .ref a5, .ref a6, .ref v1, .ref v2, .ref v3, .ref v4, .ref v5, .ref v6, .int (iI bn), .int (iI wh), .int (iI dp), .int (iI dg)])), (az, gI g 325 Z), (v3, gI g 41 L), (v4, gI g 41 V), (v6, gI g 41 T)] (fun _ => True) (fun _ => True) (S := (Nat → Int) × (Nat → Int) × (Nat → Int)) (fun _ => none) (fun u_ => [(mo, .inr (11, [.ref az, .ref ap, .int (iI pm), .ref ak, .int (iI ik), .ref ax, .int (iI ty), .int (iI th), .ref a1, .ref a2, .int (iI mn), .ref a3, .int (iI wt), .ref a4, .ref a5, .ref a6, .ref v1, .ref v2, .ref v3, .ref v4, .ref v5, .ref v6, .int (iI bn), .int (iI wh), .int (iI dp), .int (iI dg)])), (az, gI g 325 Z), (v3, gI g 41 u_.1), (v4, gI g 41 u_.2.1), (v6, gI g 41 u_.2.2)]) (fun u_ => ∀ j : Nat, j < eN (fE F u.toNat) → u_.1 j = eL (fE F u.toNat) j ∧ u_.2.1 j = eV (fE F u.toNat) j) 0 0 := by
  refine q_ofW (cc := cX11_links) (maxL := 7) (ret := none) (fun sz h => h.self) (by decide) rfl (Nat.le_of_ble_eq_true rfl) ?_
  intro p e s m args below meth c A ls S0 hr hlocks hnme hK hA hAe hW hD0 hX hl
  have hW : gW g A s.heap s.heap [] [(mo, .inr (11, [.ref az, .ref ap, .int (iI pm), .ref ak, .int (iI ik), .ref ax, .int (iI ty), .int (iI th), .ref a1, .ref a2, .int (iI mn), .ref a3, .int (iI wt), .ref a4, .ref a5, .ref a6, .ref v1, .ref v2, .ref v3, .ref v4, .ref v5, .ref v6, .int (iI bn), .int (iI wh), .int (iI dp), .int (iI dg)])), (az, gI g 325 Z), (v3, gI g 41 L), (v4, gI g 41 V), (v6, gI g 41 T)] := hW
  have hl : lv_has ls 7 [(0, .ref mo), (1, .int (iI u))] := hl
  have hinX11 : ∀ w ∈ wsX110, w ∈ wsX11_links := fun w h => List.mem_cons_of_mem _ (List.mem_append_right _ h)
  have hn40 := (hG.2 u.toNat (by omega)).1
  refine q_iconst S0 dX11_links_0 ?_
  refine lv_istore_n (lv' := [(2, .int (iI 0)), (0, .ref mo), (1, .int (iI u))]) S0.1 S0.2.1 dX11_links_1 rfl hl (by decide) rfl (fun ls hl => ?_)
  refine q_iconst S0 dX11_links_2 ?_
  refine lv_istore_n (lv' := [(3, .int (iI 0)), (2, .int (iI 0)), (0, .ref mo), (1, .int (iI u))]) S0.1 S0.2.1 dX11_links_3 rfl hl (by decide) rfl (fun ls hl => ?_)
  refine q_loop (α := Int × Int × (Nat → Int) × (Nat → Int) × (Nat → Int)) (fun (z_ : Int × Int × (Nat → Int) × (Nat → Int) × (Nat → Int)) => match z_ with | (i, t9, L1, V1, T1) => (0 ≤ i ∧ i ≤ eN (fE F u.toNat)) ∧ (0 ≤ t9 ∧ t9 ≤ i) ∧ t9 = (lks (fE F u.toNat) i.toNat).1 ∧ (∀ j : Nat, (j : Int) < t9 → T1 j = (lks (fE F u.toNat) i.toNat).2 j ∧ -1 ≤ T1 j ∧ T1 j < 40) ∧ (∀ j : Nat, (j : Int) < i → L1 j = eL (fE F u.toNat) j ∧ V1 j = eV (fE F u.toNat) j)) (fun (z_ : Int × Int × (Nat → Int) × (Nat → Int) × (Nat → Int)) => match z_ with | (i, t9, L1, V1, T1) => (eN (fE F u.toNat) - i).toNat) (fun (z_ : Int × Int × (Nat → Int) × (Nat → Int) × (Nat → Int)) => match z_ with | (i, t9, L1, V1, T1) => [(mo, .inr (11, [.ref az, .ref ap, .int (iI pm), .ref ak, .int (iI ik), .ref ax, .int (iI ty), .int (iI th), .ref a1, .ref a2, .int (iI mn), .ref a3, .int (iI wt), .ref a4, .ref a5, .ref a6, .ref v1, .ref v2, .ref v3, .ref v4, .ref v5, .ref v6, .int (iI bn), .int (iI wh), .int (iI dp), .int (iI dg)])), (az, gI g 325 Z), (v3, gI g 41 L1), (v4, gI g 41 V1), (v6, gI g 41 T1)]) (fun (z_ : Int × Int × (Nat → Int) × (Nat → Int) × (Nat → Int)) => match z_ with | (i, t9, L1, V1, T1) => [(3, .int (iI i)), (2, .int (iI t9)), (0, .ref mo), (1, .int (iI u))]) ?_ (0, 0, L, V, T) (by refine ⟨by omega, by omega, rfl, fun j hj => absurd hj (by omega), fun j hj => absurd hj (by omega)⟩) hW (lv_sub hl [0, 1, 2, 3] rfl)
  rintro ⟨i, t9, L1, V1, T1⟩ hinv IHl H locs ls hW hl
  try dsimp only at hinv
  have hW : gW g A s.heap H _ [(mo, .inr (11, [.ref az, .ref ap, .int (iI pm), .ref ak, .int (iI ik), .ref ax, .int (iI ty), .int (iI th), .ref a1, .ref a2, .int (iI mn), .ref a3, .int (iI wt), .ref a4, .ref a5, .ref a6, .ref v1, .ref v2, .ref v3, .ref v4, .ref v5, .ref v6, .int (iI bn), .int (iI wh), .int (iI dp), .int (iI dg)])), (az, gI g 325 Z), (v3, gI g 41 L1), (v4, gI g 41 V1), (v6, gI g 41 T1)] := hW
  have hl : lv_has ls 7 [(3, .int (iI i)), (2, .int (iI t9)), (0, .ref mo), (1, .int (iI u))] := hl
  obtain ⟨hi, ht9, hte, hT1, hLV⟩ := hinv
  refine lv_iload_n S0.1 S0.2.1 dX11_links_4 rfl (lv_at hl 0 rfl) ?_
  refine lv_aload_n S0.1 S0.2.1 dX11_links_5 rfl (lv_at hl 2 rfl) ?_
  refine lv_iload_n S0.1 S0.2.1 dX11_links_6 rfl (lv_at hl 3 rfl) ?_
  refine q_pV (n := 1) (rest := [.int (iI i)]) S0 hK (c_X11_size l g mo az ap ak ax a1 a2 a3 a4 a5 a6 v1 v2 v3 v4 v5 v6 pm ik ty th mn wt bn wh dp dg Z u (hu)) (subP hW.1 [0, 1] rfl) (trivial) gX11_links_X11_size rfl rfl rfl (by decide +kernel) ⟨Nat.le_of_ble_eq_true rfl, Nat.le_of_ble_eq_true rfl⟩ (q_recv hK hW.1 (ci := 11) (q0 := 0) rfl rfl) rfl rfl hl.1 (Nat.le_of_ble_eq_true rfl) ⟨Nat.le_of_ble_eq_true rfl, Nat.le_of_ble_eq_true rfl⟩ dX11_links_7 ?_
  refine W.eq (g2 := F0 m 10 ls [.int (iI (Z (1 + 81 * u).toNat)), .int (iI i)]) rfl ?_
  refine q_topI (b := ((eN (fE F u.toNat) : Nat) : Int)) ((hz.2 u hu).1) ?_
  refine q_icmp_ge (tgt := 168) S0 (by omega) dX11_links_10 (by decide) (fun c10 => ?_) (fun c10 => ?_)
  · skip
    exact q_vret S0 hr hlocks (L1, V1, T1) (fun j hj => hLV j (by omega)) rfl (hW.sub [0, 1, 2, 3, 4] rfl (rfl)) (Nat.le_of_ble_eq_true rfl) (Nat.le_of_ble_eq_true rfl) dX11_links_168
  · skip
    refine lv_aload_n S0.1 S0.2.1 dX11_links_13 rfl (lv_at hl 2 rfl) ?_
    refine lv_iload_n S0.1 S0.2.1 dX11_links_14 rfl (lv_at hl 3 rfl) ?_
    refine lv_iload_n S0.1 S0.2.1 dX11_links_15 rfl (lv_at hl 0 rfl) ?_
    refine q_pV (n := 2) (rest := []) S0 hK (c_X11_kind l g mo az ap ak ax a1 a2 a3 a4 a5 a6 v1 v2 v3 v4 v5 v6 pm ik ty th mn wt bn wh dp dg Z u i (hu) (by omega)) (subP hW.1 [0, 1] rfl) (trivial) gX11_links_X11_kind rfl rfl rfl (by decide +kernel) ⟨Nat.le_of_ble_eq_true rfl, Nat.le_of_ble_eq_true rfl⟩ (q_recv hK hW.1 (ci := 11) (q0 := 0) rfl rfl) rfl rfl hl.1 (Nat.le_of_ble_eq_true rfl) ⟨Nat.le_of_ble_eq_true rfl, Nat.le_of_ble_eq_true rfl⟩ dX11_links_16 ?_
    refine W.eq (g2 := F0 m 19 ls [.int (iI (Z (2 + 81 * u + 2 * i).toNat))]) rfl ?_
    refine q_nm (fun kd hkd => ?_)
    rw [((hz.2 u hu).2 (i) (by omega)).1] at hkd
    have hE9 := (hG.2 u.toNat (by omega)).2.1 (i).toNat (by omega)
    have hkk := kc_cases (WFK_K hE9)
    rw [← hkd] at hkk
    have hlp := hlk u.toNat (by omega) i.toNat (by omega)
    rw [← hte] at hlp
    have hta := hT1 (t9 - 1).toNat
    have htb := hT1 (t9 - 2).toNat
    refine lv_istore (lv' := [(4, .int (iI kd)), (3, .int (iI i)), (2, .int (iI t9)), (0, .ref mo), (1, .int (iI u))]) S0.1 S0.2.1 dX11_links_19 hl (by decide) rfl (fun ls hl => ?_)
    refine q_cut (α := Unit) (fun _ => F0 m 39 ls (.int (iI (if 3 ≤ kd ∧ kd ≤ 6 then (1 : Int) else 0)) :: [])) (fun _ => True) (fun _ _ => ?_) (fun hJ21 => ?_)
    · skip
      refine lv_istore (lv' := [(5, .int (iI (if 3 ≤ kd ∧ kd ≤ 6 then (1 : Int) else 0))), (4, .int (iI kd)), (3, .int (iI i)), (2, .int (iI t9)), (0, .ref mo), (1, .int (iI u))]) S0.1 S0.2.1 dX11_links_39 hl (by decide) rfl (fun ls hl => ?_)
      refine q_cut (α := Unit) (fun _ => F0 m 66 ls (.int (iI (if kd = 2 ∨ kd = 7 ∨ kd = 8 then (1 : Int) else 0)) :: [])) (fun _ => True) (fun _ _ => ?_) (fun hJ41 => ?_)
      · skip
        refine lv_istore (lv' := [(6, .int (iI (if kd = 2 ∨ kd = 7 ∨ kd = 8 then (1 : Int) else 0))), (5, .int (iI (if 3 ≤ kd ∧ kd ≤ 6 then (1 : Int) else 0))), (4, .int (iI kd)), (3, .int (iI i)), (2, .int (iI t9)), (0, .ref mo), (1, .int (iI u))]) S0.1 S0.2.1 dX11_links_66 hl (by decide) rfl (fun ls hl => ?_)
        refine lv_aload_n S0.1 S0.2.1 dX11_links_68 rfl (lv_at hl 5 rfl) ?_
        refine q_get (C := RX11) (T := TX11) (N := 26) S0 hK hW.1 hinX11 0 rfl rfl 19 (by decide) (List.mem_of_getElem? (i := 1) rfl) rfl rfl dX11_links_69 ?_
        refine lv_iload_n S0.1 S0.2.1 dX11_links_72 rfl (lv_at hl 3 rfl) ?_
        refine q_cut (α := Int) (fun r9 => F0 m 90 ls (.int (iI r9) :: [.int (iI i), .ref v4])) (fun r9 => r9 = eV (fE F u.toNat) i.toNat) (fun r9 hr9 => ?_) (fun hJ73 => ?_)
        · skip
          refine q_iast S0 hK hW 3 rfl (by omega) dX11_links_90 (fun H locs hW => ?_)
          have hW : gW g A s.heap H _ [(mo, .inr (11, [.ref az, .ref ap, .int (iI pm), .ref ak, .int (iI ik), .ref ax, .int (iI ty), .int (iI th), .ref a1, .ref a2, .int (iI mn), .ref a3, .int (iI wt), .ref a4, .ref a5, .ref a6, .ref v1, .ref v2, .ref v3, .ref v4, .ref v5, .ref v6, .int (iI bn), .int (iI wh), .int (iI dp), .int (iI dg)])), (az, gI g 325 Z), (v3, gI g 41 L1), (v4, gI g 41 (up V1 ((i).toNat) r9)), (v6, gI g 41 T1)] := hW
          refine lv_aload_n S0.1 S0.2.1 dX11_links_91 rfl (lv_at hl 5 rfl) ?_
          refine q_get (C := RX11) (T := TX11) (N := 26) S0 hK hW.1 hinX11 0 rfl rfl 18 (by decide) (List.mem_of_getElem? (i := 3) rfl) rfl rfl dX11_links_92 ?_
          refine lv_iload_n S0.1 S0.2.1 dX11_links_95 rfl (lv_at hl 3 rfl) ?_
          refine q_cut (α := Int) (fun l9 => F0 m 129 ls (.int (iI l9) :: [.int (iI i), .ref v3])) (fun l9 => l9 = eL (fE F u.toNat) i.toNat) (fun l9 hl9 => ?_) (fun hJ96 => ?_)
          · skip
            refine q_iast S0 hK hW 2 rfl (by omega) dX11_links_129 (fun H locs hW => ?_)
            have hW : gW g A s.heap H _ [(mo, .inr (11, [.ref az, .ref ap, .int (iI pm), .ref ak, .int (iI ik), .ref ax, .int (iI ty), .int (iI th), .ref a1, .ref a2, .int (iI mn), .ref a3, .int (iI wt), .ref a4, .ref a5, .ref a6, .ref v1, .ref v2, .ref v3, .ref v4, .ref v5, .ref v6, .int (iI bn), .int (iI wh), .int (iI dp), .int (iI dg)])), (az, gI g 325 Z), (v3, gI g 41 (up L1 ((i).toNat) l9)), (v4, gI g 41 (up V1 ((i).toNat) r9)), (v6, gI g 41 T1)] := hW
            refine lv_iload_n S0.1 S0.2.1 dX11_links_130 rfl (lv_at hl 4 rfl) ?_
            refine q_cut (α := Int) (fun d9 => F0 m 150 ls (.int (iI d9) :: [.int (iI t9)])) (fun d9 => d9 = ary (eK (fE F u.toNat) i.toNat)) (fun d9 hd9 => ?_) (fun hJ131 => ?_)
            · skip
              refine q_isub S0 dX11_links_150 ?_
              refine lv_istore_n (lv' := [(2, .int (iI (t9 - d9))), (6, .int (iI (if kd = 2 ∨ kd = 7 ∨ kd = 8 then (1 : Int) else 0))), (5, .int (iI (if 3 ≤ kd ∧ kd ≤ 6 then (1 : Int) else 0))), (4, .int (iI kd)), (3, .int (iI i)), (0, .ref mo), (1, .int (iI u))]) S0.1 S0.2.1 dX11_links_151 rfl hl (by decide) rfl (fun ls hl => ?_)
              refine lv_aload_n S0.1 S0.2.1 dX11_links_152 rfl (lv_at hl 5 rfl) ?_
              refine q_get (C := RX11) (T := TX11) (N := 26) S0 hK hW.1 hinX11 0 rfl rfl 21 (by decide) (List.mem_of_getElem? (i := 2) rfl) rfl rfl dX11_links_153 ?_
              refine lv_iload_n S0.1 S0.2.1 dX11_links_156 rfl (lv_at hl 0 rfl) ?_
              refine lv_iload_n S0.1 S0.2.1 dX11_links_157 rfl (lv_at hl 4 rfl) ?_
              refine q_iast S0 hK hW 4 rfl (by omega) dX11_links_158 (fun H locs hW => ?_)
              have hW : gW g A s.heap H _ [(mo, .inr (11, [.ref az, .ref ap, .int (iI pm), .ref ak, .int (iI ik), .ref ax, .int (iI ty), .int (iI th), .ref a1, .ref a2, .int (iI mn), .ref a3, .int (iI wt), .ref a4, .ref a5, .ref a6, .ref v1, .ref v2, .ref v3, .ref v4, .ref v5, .ref v6, .int (iI bn), .int (iI wh), .int (iI dp), .int (iI dg)])), (az, gI g 325 Z), (v3, gI g 41 (up L1 ((i).toNat) l9)), (v4, gI g 41 (up V1 ((i).toNat) r9)), (v6, gI g 41 (up T1 ((t9 - d9).toNat) i))] := hW
              refine q_iinc (lv' := [(2, .int (iI ((t9 - d9) + 1))), (6, .int (iI (if kd = 2 ∨ kd = 7 ∨ kd = 8 then (1 : Int) else 0))), (5, .int (iI (if 3 ≤ kd ∧ kd ≤ 6 then (1 : Int) else 0))), (4, .int (iI kd)), (3, .int (iI i)), (0, .ref mo), (1, .int (iI u))]) S0 dX11_links_159 hl (k := 0) rfl (by decide) rfl (fun ls hl => ?_)
              refine q_iinc (lv' := [(3, .int (iI (i + 1))), (2, .int (iI ((t9 - d9) + 1))), (6, .int (iI (if kd = 2 ∨ kd = 7 ∨ kd = 8 then (1 : Int) else 0))), (5, .int (iI (if 3 ≤ kd ∧ kd ≤ 6 then (1 : Int) else 0))), (4, .int (iI kd)), (0, .ref mo), (1, .int (iI u))]) S0 dX11_links_162 hl (k := 4) rfl (by decide) rfl (fun ls hl => ?_)
              refine lv_goto (tgt := 4) S0.1 S0.2.1 dX11_links_165 (by decide) ?_
              have hdr : d9 = ary (eK (fE F u.toNat) i.toNat) := hd9
              exact IHl (i + 1, t9 - d9 + 1, up L1 i.toNat l9, up V1 i.toNat r9, up T1 (t9 - d9).toNat i) H locs ls (by
                    refine ⟨by omega, by omega, ?_, fun j hj => ?_, fun j hj => ?_⟩
                    · rw [show (i + 1).toNat = i.toNat + 1 by omega, hdr, hte]; rfl
                    · rw [show (i + 1).toNat = i.toNat + 1 by omega]
                      show up T1 (t9 - d9).toNat i j = up (lks (fE F u.toNat) i.toNat).2 ((lks (fE F u.toNat) i.toNat).1 - ary (eK (fE F u.toNat) i.toNat)).toNat ((i.toNat : Nat) : Int) j ∧ _
                      rw [← hte, ← hdr, show ((i.toNat : Nat) : Int) = i by omega]
                      unfold up
                      by_cases q : j = (t9 - d9).toNat
                      · rw [if_pos q, if_pos q]; exact ⟨rfl, by omega, by omega⟩
                      · rw [if_neg q, if_neg q]; exact hT1 j (by omega)
                    · unfold up
                      by_cases q : j = i.toNat
                      · rw [if_pos q, if_pos q, q]; exact ⟨hl9, hr9⟩
                      · rw [if_neg q, if_neg q]; exact hLV j (by omega)) (by dsimp only; omega) hW (lv_sub hl [0, 1, 5, 6] rfl)
            · skip
              refine lv_iload S0.1 S0.2.1 dX11_links_131 (lv_at hl 1 rfl) ?_
              refine q_if_eqP (tgt := 140) S0 dX11_links_133 (by decide) (fun c133 => ?_) (fun c133 => ?_)
              · skip
                refine lv_iload S0.1 S0.2.1 dX11_links_140 (lv_at hl 0 rfl) ?_
                refine q_if_eqP (tgt := 149) S0 dX11_links_142 (by decide) (fun c142 => ?_) (fun c142 => ?_)
                · skip
                  refine q_iconst S0 dX11_links_149 ?_
                  exact hJ131 _ (by omega)
                · skip
                  refine q_iconst S0 dX11_links_145 ?_
                  refine lv_goto (tgt := 150) S0.1 S0.2.1 dX11_links_146 (by decide) ?_
                  exact hJ131 _ (by omega)
              · skip
                refine q_iconst S0 dX11_links_136 ?_
                refine lv_goto (tgt := 150) S0.1 S0.2.1 dX11_links_137 (by decide) ?_
                exact hJ131 _ (by omega)
          · skip
            refine lv_iload S0.1 S0.2.1 dX11_links_96 (lv_at hl 1 rfl) ?_
            refine q_if_eqP (tgt := 112) S0 dX11_links_98 (by decide) (fun c98 => ?_) (fun c98 => ?_)
            · skip
              refine lv_iload S0.1 S0.2.1 dX11_links_112 (lv_at hl 0 rfl) ?_
              refine q_if_eqP (tgt := 128) S0 dX11_links_114 (by decide) (fun c114 => ?_) (fun c114 => ?_)
              · skip
                refine q_iconst S0 dX11_links_128 ?_
                exact hJ96 _ (by first | (have q := (hlp.2.2.1 (by omega)).2; rw [q]; exact (htb (by omega)).1) | (have q := hlp.2.2.2 (by omega); rw [q]; exact (hta (by omega)).1) | (unfold WFK at hE9; omega))
              · skip
                refine lv_aload_n S0.1 S0.2.1 dX11_links_117 rfl (lv_at hl 5 rfl) ?_
                refine q_get (C := RX11) (T := TX11) (N := 26) S0 hK hW.1 hinX11 0 rfl rfl 21 (by decide) (List.mem_of_getElem? (i := 2) rfl) rfl rfl dX11_links_118 ?_
                refine lv_iload_n S0.1 S0.2.1 dX11_links_121 rfl (lv_at hl 4 rfl) ?_
                refine q_iconst S0 dX11_links_122 ?_
                refine q_isub S0 dX11_links_123 ?_
                refine q_iald S0 hK hW.1 4 rfl (by omega) dX11_links_124 ?_
                refine lv_goto (tgt := 129) S0.1 S0.2.1 dX11_links_125 (by decide) ?_
                exact hJ96 _ (by first | (have q := (hlp.2.2.1 (by omega)).2; rw [q]; exact (htb (by omega)).1) | (have q := hlp.2.2.2 (by omega); rw [q]; exact (hta (by omega)).1) | (unfold WFK at hE9; omega))
            · skip
              refine lv_aload_n S0.1 S0.2.1 dX11_links_101 rfl (lv_at hl 5 rfl) ?_
              refine q_get (C := RX11) (T := TX11) (N := 26) S0 hK hW.1 hinX11 0 rfl rfl 21 (by decide) (List.mem_of_getElem? (i := 2) rfl) rfl rfl dX11_links_102 ?_
              refine lv_iload_n S0.1 S0.2.1 dX11_links_105 rfl (lv_at hl 4 rfl) ?_
              refine q_iconst S0 dX11_links_106 ?_
              refine q_isub S0 dX11_links_107 ?_
              refine q_iald S0 hK hW.1 4 rfl (by omega) dX11_links_108 ?_
              refine lv_goto (tgt := 129) S0.1 S0.2.1 dX11_links_109 (by decide) ?_
              exact hJ96 _ (by first | (have q := (hlp.2.2.1 (by omega)).2; rw [q]; exact (htb (by omega)).1) | (have q := hlp.2.2.2 (by omega); rw [q]; exact (hta (by omega)).1) | (unfold WFK at hE9; omega))
        · skip
          refine lv_iload S0.1 S0.2.1 dX11_links_73 (lv_at hl 1 rfl) ?_
          refine q_if_eqP (tgt := 89) S0 dX11_links_75 (by decide) (fun c75 => ?_) (fun c75 => ?_)
          · skip
            refine q_iconst S0 dX11_links_89 ?_
            exact hJ73 _ (by first | (have q := (hlp.2.2.1 (by omega)).1; rw [q]; exact (hta (by omega)).1) | (unfold WFK at hE9; omega))
          · skip
            refine lv_aload_n S0.1 S0.2.1 dX11_links_78 rfl (lv_at hl 5 rfl) ?_
            refine q_get (C := RX11) (T := TX11) (N := 26) S0 hK hW.1 hinX11 0 rfl rfl 21 (by decide) (List.mem_of_getElem? (i := 2) rfl) rfl rfl dX11_links_79 ?_
            refine lv_iload_n S0.1 S0.2.1 dX11_links_82 rfl (lv_at hl 4 rfl) ?_
            refine q_iconst S0 dX11_links_83 ?_
            refine q_isub S0 dX11_links_84 ?_
            refine q_iald S0 hK hW.1 4 rfl (by omega) dX11_links_85 ?_
            refine lv_goto (tgt := 90) S0.1 S0.2.1 dX11_links_86 (by decide) ?_
            exact hJ73 _ (by first | (have q := (hlp.2.2.1 (by omega)).1; rw [q]; exact (hta (by omega)).1) | (unfold WFK at hE9; omega))
      · skip
        refine lv_iload S0.1 S0.2.1 dX11_links_41 (lv_at hl 1 rfl) ?_
        refine q_iconst S0 dX11_links_43 ?_
        refine q_icmp_eq (tgt := 61) S0 (by omega) dX11_links_44 (by decide) (fun c44 => ?_) (fun c44 => ?_)
        · skip
          refine q_iconst S0 dX11_links_61 ?_
          refine lv_goto (tgt := 66) S0.1 S0.2.1 dX11_links_62 (by decide) ?_
          refine W.eq (g2 := F0 m 66 ls (.int (iI (if kd = 2 ∨ kd = 7 ∨ kd = 8 then (1 : Int) else 0)) :: [])) (by rw [show (if kd = 2 ∨ kd = 7 ∨ kd = 8 then (1 : Int) else 0) = 1 from if_pos (by omega)]) ?_
          exact hJ41 () trivial
        · skip
          refine lv_iload S0.1 S0.2.1 dX11_links_47 (lv_at hl 1 rfl) ?_
          refine q_bipush S0 (by decide) dX11_links_49 ?_
          refine q_icmp_eq (tgt := 61) S0 (by omega) dX11_links_51 (by decide) (fun c51 => ?_) (fun c51 => ?_)
          · skip
            refine q_iconst S0 dX11_links_61 ?_
            refine lv_goto (tgt := 66) S0.1 S0.2.1 dX11_links_62 (by decide) ?_
            refine W.eq (g2 := F0 m 66 ls (.int (iI (if kd = 2 ∨ kd = 7 ∨ kd = 8 then (1 : Int) else 0)) :: [])) (by rw [show (if kd = 2 ∨ kd = 7 ∨ kd = 8 then (1 : Int) else 0) = 1 from if_pos (by omega)]) ?_
            exact hJ41 () trivial
          · skip
            refine lv_iload S0.1 S0.2.1 dX11_links_54 (lv_at hl 1 rfl) ?_
            refine q_bipush S0 (by decide) dX11_links_56 ?_
            refine q_icmp_ne (tgt := 65) S0 (by omega) dX11_links_58 (by decide) (fun c58 => ?_) (fun c58 => ?_)
            · skip
              refine q_iconst S0 dX11_links_65 ?_
              refine W.eq (g2 := F0 m 66 ls (.int (iI (if kd = 2 ∨ kd = 7 ∨ kd = 8 then (1 : Int) else 0)) :: [])) (by rw [show (if kd = 2 ∨ kd = 7 ∨ kd = 8 then (1 : Int) else 0) = 0 from if_neg (by omega)]) ?_
              exact hJ41 () trivial
            · skip
              refine q_iconst S0 dX11_links_61 ?_
              refine lv_goto (tgt := 66) S0.1 S0.2.1 dX11_links_62 (by decide) ?_
              refine W.eq (g2 := F0 m 66 ls (.int (iI (if kd = 2 ∨ kd = 7 ∨ kd = 8 then (1 : Int) else 0)) :: [])) (by rw [show (if kd = 2 ∨ kd = 7 ∨ kd = 8 then (1 : Int) else 0) = 1 from if_pos (by omega)]) ?_
              exact hJ41 () trivial
    · skip
      refine lv_iload S0.1 S0.2.1 dX11_links_21 (lv_at hl 0 rfl) ?_
      refine q_iconst S0 dX11_links_23 ?_
      refine q_icmp_lt (tgt := 38) S0 (by omega) dX11_links_24 (by decide) (fun c24 => ?_) (fun c24 => ?_)
      · skip
        refine q_iconst S0 dX11_links_38 ?_
        refine W.eq (g2 := F0 m 39 ls (.int (iI (if 3 ≤ kd ∧ kd ≤ 6 then (1 : Int) else 0)) :: [])) (by rw [show (if 3 ≤ kd ∧ kd ≤ 6 then (1 : Int) else 0) = 0 from if_neg (by omega)]) ?_
        exact hJ21 () trivial
      · skip
        refine lv_iload S0.1 S0.2.1 dX11_links_27 (lv_at hl 0 rfl) ?_
        refine q_bipush S0 (by decide) dX11_links_29 ?_
        refine q_icmp_gt (tgt := 38) S0 (by omega) dX11_links_31 (by decide) (fun c31 => ?_) (fun c31 => ?_)
        · skip
          refine q_iconst S0 dX11_links_38 ?_
          refine W.eq (g2 := F0 m 39 ls (.int (iI (if 3 ≤ kd ∧ kd ≤ 6 then (1 : Int) else 0)) :: [])) (by rw [show (if 3 ≤ kd ∧ kd ≤ 6 then (1 : Int) else 0) = 0 from if_neg (by omega)]) ?_
          exact hJ21 () trivial
        · skip
          refine q_iconst S0 dX11_links_34 ?_
          refine lv_goto (tgt := 39) S0.1 S0.2.1 dX11_links_35 (by decide) ?_
          refine W.eq (g2 := F0 m 39 ls (.int (iI (if 3 ≤ kd ∧ kd ≤ 6 then (1 : Int) else 0)) :: [])) (by rw [show (if 3 ≤ kd ∧ kd ≤ 6 then (1 : Int) else 0) = 1 from if_pos (by omega)]) ?_
          exact hJ21 () trivial
set_option maxHeartbeats 4000000 in
set_option maxRecDepth 100000 in
theorem c_X11_deep (l : Launch) (g : GG) (mo az ap ak ax a1 a2 a3 a4 a5 a6 v1 v2 v3 v4 v5 v6 : Nat) (pm ik ty th mn wt bn wh dp dg : Int) (Z : Nat → Int) (F : FT) (L V T Sh0 : Nat → Int) (u : Int) (hG : GF F) (hz : ZR Z F) (hlk : LKG F) (hu : 0 ≤ u ∧ u < 4) : qMet l yX11_deep wsX11_deep ({ frames := 2, cells := 0, slots := 0, locals := 48 }) g [.ref mo, .int (iI u)] [(mo, .inr (11, [.ref az, .ref ap, .int (iI pm), .ref ak, .int (iI ik), .ref ax, .int (iI ty), .int (iI th), .ref a1, .ref a2, .int (iI mn), .ref a3, .int (iI wt), .ref a4, .ref a5, .ref a6, .ref v1, .ref v2, .ref v3, .ref v4, .ref v5, .ref v6, .int (iI bn), .int (iI wh), .int (iI dp), .int (iI dg)])), (az, gI g 325 Z), (v3, gI g 41 L), (v4, gI g 41 V), (v6, gI g 41 T), (v5, gI g 41 Sh0)] (fun _ => True) (fun _ => True) (S := (Nat → Int) × (Nat → Int) × (Nat → Int) × (Nat → Int)) (fun u_ => some (.int (iI (mxs (fE F u.toNat) (eN (fE F u.toNat)))))) (fun u_ => [(mo, .inr (11, [.ref az, .ref ap, .int (iI pm), .ref ak, .int (iI ik), .ref ax, .int (iI ty), .int (iI th), .ref a1, .ref a2, .int (iI mn), .ref a3, .int (iI wt), .ref a4, .ref a5, .ref a6, .ref v1, .ref v2, .ref v3, .ref v4, .ref v5, .ref v6, .int (iI bn), .int (iI wh), .int (iI dp), .int (iI dg)])), (az, gI g 325 Z), (v3, gI g 41 u_.1), (v4, gI g 41 u_.2.1), (v6, gI g 41 u_.2.2.1), (v5, gI g 41 u_.2.2.2)]) (fun u_ => ∀ j : Nat, j < eN (fE F u.toNat) → u_.1 j = eL (fE F u.toNat) j ∧ u_.2.1 j = eV (fE F u.toNat) j) 0 0 := by
  refine q_ofW (cc := cX11_deep) (maxL := 6) (ret := (some .int)) (fun sz h => h.self) (by decide) rfl (Nat.le_of_ble_eq_true rfl) ?_
  intro p e s m args below meth c A ls S0 hr hlocks hnme hK hA hAe hW hD0 hX hl
  have hW : gW g A s.heap s.heap [] [(mo, .inr (11, [.ref az, .ref ap, .int (iI pm), .ref ak, .int (iI ik), .ref ax, .int (iI ty), .int (iI th), .ref a1, .ref a2, .int (iI mn), .ref a3, .int (iI wt), .ref a4, .ref a5, .ref a6, .ref v1, .ref v2, .ref v3, .ref v4, .ref v5, .ref v6, .int (iI bn), .int (iI wh), .int (iI dp), .int (iI dg)])), (az, gI g 325 Z), (v3, gI g 41 L), (v4, gI g 41 V), (v6, gI g 41 T), (v5, gI g 41 Sh0)] := hW
  have hl : lv_has ls 6 [(0, .ref mo), (1, .int (iI u))] := hl
  have hinX11 : ∀ w ∈ wsX110, w ∈ wsX11_deep := fun w h => List.mem_cons_of_mem _ (List.mem_append_right _ h)
  have hn40 := (hG.2 u.toNat (by omega)).1
  refine lv_aload_n S0.1 S0.2.1 dX11_deep_0 rfl (lv_at hl 0 rfl) ?_
  refine lv_iload_n S0.1 S0.2.1 dX11_deep_1 rfl (lv_at hl 1 rfl) ?_
  refine q_cV (n := 1) (rest := []) (wr := [(v5, gI g 41 Sh0)]) S0 hK hA hW (c_X11_links l g mo az ap ak ax a1 a2 a3 a4 a5 a6 v1 v2 v3 v4 v5 v6 pm ik ty th mn wt bn wh dp dg Z F L V T u (hG) (hz) (hlk) (hu)) gX11_deep_X11_links rfl rfl rfl (by decide +kernel) ⟨Nat.le_of_ble_eq_true rfl, Nat.le_of_ble_eq_true rfl⟩ [0, 1, 2, 3, 4] [5] rfl rfl rfl rfl (by decide) (q_recv hK hW.1 (ci := 11) (q0 := 0) rfl rfl) (fun _ _ => trivial) (trivial) rfl rfl hl.1 (Nat.le_of_ble_eq_true rfl) ⟨Nat.le_of_ble_eq_true rfl, Nat.le_of_ble_eq_true rfl⟩ dX11_deep_2 ?_
  rintro ⟨L1, V1, T1⟩ H locs hp hW
  try dsimp only at hp
  have hW : gW g A s.heap H _ [(v5, gI g 41 Sh0), (mo, .inr (11, [.ref az, .ref ap, .int (iI pm), .ref ak, .int (iI ik), .ref ax, .int (iI ty), .int (iI th), .ref a1, .ref a2, .int (iI mn), .ref a3, .int (iI wt), .ref a4, .ref a5, .ref a6, .ref v1, .ref v2, .ref v3, .ref v4, .ref v5, .ref v6, .int (iI bn), .int (iI wh), .int (iI dp), .int (iI dg)])), (az, gI g 325 Z), (v3, gI g 41 L1), (v4, gI g 41 V1), (v6, gI g 41 T1)] := hW
  refine W.eq (g2 := F0 m 5 ls []) rfl ?_
  have hLV := hp
  refine q_iconst S0 dX11_deep_5 ?_
  refine lv_istore_n (lv' := [(2, .int (iI 0)), (0, .ref mo), (1, .int (iI u))]) S0.1 S0.2.1 dX11_deep_6 rfl hl (by decide) rfl (fun ls hl => ?_)
  refine q_iconst S0 dX11_deep_7 ?_
  refine lv_istore_n (lv' := [(3, .int (iI 0)), (2, .int (iI 0)), (0, .ref mo), (1, .int (iI u))]) S0.1 S0.2.1 dX11_deep_8 rfl hl (by decide) rfl (fun ls hl => ?_)
  refine q_loop (α := Int × Int × (Nat → Int)) (fun (z_ : Int × Int × (Nat → Int)) => match z_ with | (i, m9, H1) => (0 ≤ i ∧ i ≤ eN (fE F u.toNat)) ∧ m9 = mxs (fE F u.toNat) i.toNat ∧ (∀ j : Nat, (j : Int) < i → H1 j = dps (fE F u.toNat) i.toNat j)) (fun (z_ : Int × Int × (Nat → Int)) => match z_ with | (i, m9, H1) => (eN (fE F u.toNat) - i).toNat) (fun (z_ : Int × Int × (Nat → Int)) => match z_ with | (i, m9, H1) => [(v5, gI g 41 H1), (mo, .inr (11, [.ref az, .ref ap, .int (iI pm), .ref ak, .int (iI ik), .ref ax, .int (iI ty), .int (iI th), .ref a1, .ref a2, .int (iI mn), .ref a3, .int (iI wt), .ref a4, .ref a5, .ref a6, .ref v1, .ref v2, .ref v3, .ref v4, .ref v5, .ref v6, .int (iI bn), .int (iI wh), .int (iI dp), .int (iI dg)])), (az, gI g 325 Z), (v3, gI g 41 L1), (v4, gI g 41 V1), (v6, gI g 41 T1)]) (fun (z_ : Int × Int × (Nat → Int)) => match z_ with | (i, m9, H1) => [(3, .int (iI i)), (2, .int (iI m9)), (0, .ref mo), (1, .int (iI u))]) ?_ (0, 0, Sh0) (by refine ⟨by omega, rfl, fun j hj => absurd hj (by omega)⟩) hW (lv_sub hl [0, 1, 2, 3] rfl)
  rintro ⟨i, m9, H1⟩ hinv IHl H locs ls hW hl
  try dsimp only at hinv
  have hW : gW g A s.heap H _ [(v5, gI g 41 H1), (mo, .inr (11, [.ref az, .ref ap, .int (iI pm), .ref ak, .int (iI ik), .ref ax, .int (iI ty), .int (iI th), .ref a1, .ref a2, .int (iI mn), .ref a3, .int (iI wt), .ref a4, .ref a5, .ref a6, .ref v1, .ref v2, .ref v3, .ref v4, .ref v5, .ref v6, .int (iI bn), .int (iI wh), .int (iI dp), .int (iI dg)])), (az, gI g 325 Z), (v3, gI g 41 L1), (v4, gI g 41 V1), (v6, gI g 41 T1)] := hW
  have hl : lv_has ls 6 [(3, .int (iI i)), (2, .int (iI m9)), (0, .ref mo), (1, .int (iI u))] := hl
  obtain ⟨hi, hm9, hH1⟩ := hinv
  have hmr := mxs_rng (fE F u.toNat) i.toNat
  rw [← hm9] at hmr
  refine lv_iload_n S0.1 S0.2.1 dX11_deep_9 rfl (lv_at hl 0 rfl) ?_
  refine lv_aload_n S0.1 S0.2.1 dX11_deep_10 rfl (lv_at hl 2 rfl) ?_
  refine lv_iload_n S0.1 S0.2.1 dX11_deep_11 rfl (lv_at hl 3 rfl) ?_
  refine q_pV (n := 1) (rest := [.int (iI i)]) S0 hK (c_X11_size l g mo az ap ak ax a1 a2 a3 a4 a5 a6 v1 v2 v3 v4 v5 v6 pm ik ty th mn wt bn wh dp dg Z u (hu)) (subP hW.1 [1, 2] rfl) (trivial) gX11_deep_X11_size rfl rfl rfl (by decide +kernel) ⟨Nat.le_of_ble_eq_true rfl, Nat.le_of_ble_eq_true rfl⟩ (q_recv hK hW.1 (ci := 11) (q0 := 1) rfl rfl) rfl rfl hl.1 (Nat.le_of_ble_eq_true rfl) ⟨Nat.le_of_ble_eq_true rfl, Nat.le_of_ble_eq_true rfl⟩ dX11_deep_12 ?_
  refine W.eq (g2 := F0 m 15 ls [.int (iI (Z (1 + 81 * u).toNat)), .int (iI i)]) rfl ?_
  refine q_topI (b := ((eN (fE F u.toNat) : Nat) : Int)) ((hz.2 u hu).1) ?_
  refine q_icmp_ge (tgt := 121) S0 (by omega) dX11_deep_15 (by decide) (fun c15 => ?_) (fun c15 => ?_)
  · skip
    refine lv_iload_n S0.1 S0.2.1 dX11_deep_121 rfl (lv_at hl 1 rfl) ?_
    exact q_iret S0 hr hlocks (L1, V1, T1, H1) (hLV) (by rw [hm9, show i.toNat = eN (fE F u.toNat) by omega]) (hW.sub [1, 2, 3, 4, 5, 0] rfl (rfl)) (Nat.le_of_ble_eq_true rfl) (Nat.le_of_ble_eq_true rfl) dX11_deep_122
  · skip
    have hE9 := (hG.2 u.toNat (by omega)).2.1 i.toNat (by omega)
    have hL9 := WFK_L hE9
    have hV9 := WFK_V hE9
    have hla9 := (hLV i.toNat (by omega)).1
    have hlb9 := (hLV i.toNat (by omega)).2
    have hd1 := dps_rng (fE F u.toNat) (i.toNat + 1) i.toNat
    have hda := dgv_rng (fE F u.toNat) i.toNat (eL (fE F u.toNat) i.toNat)
    have hdb := dgv_rng (fE F u.toNat) i.toNat (eV (fE F u.toNat) i.toNat)
    refine q_cut (α := Int) (fun a9 => F0 m 43 ls (.int (iI a9) :: [])) (fun a9 => a9 = dgv (dps (fE F u.toNat) i.toNat) (eL (fE F u.toNat) i.toNat)) (fun a9 ha9 => ?_) (fun hJ18 => ?_)
    · skip
      refine lv_istore (lv' := [(4, .int (iI a9)), (3, .int (iI i)), (2, .int (iI m9)), (0, .ref mo), (1, .int (iI u))]) S0.1 S0.2.1 dX11_deep_43 hl (by decide) rfl (fun ls hl => ?_)
      refine q_cut (α := Int) (fun b9 => F0 m 70 ls (.int (iI b9) :: [])) (fun b9 => b9 = dgv (dps (fE F u.toNat) i.toNat) (eV (fE F u.toNat) i.toNat)) (fun b9 hb9 => ?_) (fun hJ45 => ?_)
      · skip
        refine lv_istore (lv' := [(5, .int (iI b9)), (4, .int (iI a9)), (3, .int (iI i)), (2, .int (iI m9)), (0, .ref mo), (1, .int (iI u))]) S0.1 S0.2.1 dX11_deep_70 hl (by decide) rfl (fun ls hl => ?_)
        refine lv_aload_n S0.1 S0.2.1 dX11_deep_72 rfl (lv_at hl 4 rfl) ?_
        refine q_get (C := RX11) (T := TX11) (N := 26) S0 hK hW.1 hinX11 1 rfl rfl 20 (by decide) (List.mem_of_getElem? (i := 2) rfl) rfl rfl dX11_deep_73 ?_
        refine lv_iload_n S0.1 S0.2.1 dX11_deep_76 rfl (lv_at hl 2 rfl) ?_
        refine q_cut (α := Int) (fun x9 => F0 m 93 ls (.int (iI x9) :: [.int (iI i), .ref v5])) (fun x9 => x9 = dps (fE F u.toNat) (i.toNat + 1) i.toNat) (fun x9 hx9 => ?_) (fun hJ77 => ?_)
        · skip
          refine q_iast S0 hK hW 0 rfl (by omega) dX11_deep_93 (fun H locs hW => ?_)
          have hW : gW g A s.heap H _ [(v5, gI g 41 (up H1 ((i).toNat) x9)), (mo, .inr (11, [.ref az, .ref ap, .int (iI pm), .ref ak, .int (iI ik), .ref ax, .int (iI ty), .int (iI th), .ref a1, .ref a2, .int (iI mn), .ref a3, .int (iI wt), .ref a4, .ref a5, .ref a6, .ref v1, .ref v2, .ref v3, .ref v4, .ref v5, .ref v6, .int (iI bn), .int (iI wh), .int (iI dp), .int (iI dg)])), (az, gI g 325 Z), (v3, gI g 41 L1), (v4, gI g 41 V1), (v6, gI g 41 T1)] := hW
          refine q_cut (α := Int) (fun n9 => F0 m 114 ls (.int (iI n9) :: [])) (fun n9 => n9 = mxs (fE F u.toNat) (i + 1).toNat) (fun n9 hn9 => ?_) (fun hJ94 => ?_)
          · skip
            refine lv_istore_n (lv' := [(2, .int (iI n9)), (5, .int (iI b9)), (4, .int (iI a9)), (3, .int (iI i)), (0, .ref mo), (1, .int (iI u))]) S0.1 S0.2.1 dX11_deep_114 rfl hl (by decide) rfl (fun ls hl => ?_)
            refine q_iinc (lv' := [(3, .int (iI (i + 1))), (2, .int (iI n9)), (5, .int (iI b9)), (4, .int (iI a9)), (0, .ref mo), (1, .int (iI u))]) S0 dX11_deep_115 hl (k := 3) rfl (by decide) rfl (fun ls hl => ?_)
            refine lv_goto (tgt := 9) S0.1 S0.2.1 dX11_deep_118 (by decide) ?_
            exact IHl (i + 1, n9, up H1 i.toNat x9) H locs ls (by
                  refine ⟨by omega, hn9, fun j hj => ?_⟩
                  rw [show (i + 1).toNat = i.toNat + 1 by omega]
                  unfold up
                  by_cases q : j = i.toNat
                  · rw [if_pos q, q, hx9]
                  · rw [if_neg q, hH1 j (by omega)]; show _ = up _ i.toNat _ j; rw [up_n q]) (by dsimp only; omega) hW (lv_sub hl [0, 1, 4, 5] rfl)
          · skip
            refine lv_aload_n S0.1 S0.2.1 dX11_deep_94 rfl (lv_at hl 4 rfl) ?_
            refine q_get (C := RX11) (T := TX11) (N := 26) S0 hK hW.1 hinX11 1 rfl rfl 20 (by decide) (List.mem_of_getElem? (i := 2) rfl) rfl rfl dX11_deep_95 ?_
            refine lv_iload_n S0.1 S0.2.1 dX11_deep_98 rfl (lv_at hl 2 rfl) ?_
            refine q_iald S0 hK hW.1 0 rfl (by omega) dX11_deep_99 ?_
            refine q_topI (b := x9) (up_s) ?_
            refine lv_iload_n S0.1 S0.2.1 dX11_deep_100 rfl (lv_at hl 3 rfl) ?_
            refine q_icmp_le (tgt := 113) S0 (by omega) dX11_deep_101 (by decide) (fun c101 => ?_) (fun c101 => ?_)
            · skip
              refine lv_iload_n S0.1 S0.2.1 dX11_deep_113 rfl (lv_at hl 3 rfl) ?_
              exact hJ94 _ (by rw [show (i + 1).toNat = i.toNat + 1 by omega]; unfold mxs; first | (rw [if_pos (by rw [← hm9, ← hx9]; omega), hx9]; done) | (rw [if_neg (by rw [← hm9, ← hx9]; omega), hm9]; done))
            · skip
              refine lv_aload_n S0.1 S0.2.1 dX11_deep_104 rfl (lv_at hl 4 rfl) ?_
              refine q_get (C := RX11) (T := TX11) (N := 26) S0 hK hW.1 hinX11 1 rfl rfl 20 (by decide) (List.mem_of_getElem? (i := 2) rfl) rfl rfl dX11_deep_105 ?_
              refine lv_iload_n S0.1 S0.2.1 dX11_deep_108 rfl (lv_at hl 2 rfl) ?_
              refine q_iald S0 hK hW.1 0 rfl (by omega) dX11_deep_109 ?_
              refine q_topI (b := x9) (up_s) ?_
              refine lv_goto (tgt := 114) S0.1 S0.2.1 dX11_deep_110 (by decide) ?_
              exact hJ94 _ (by rw [show (i + 1).toNat = i.toNat + 1 by omega]; unfold mxs; first | (rw [if_pos (by rw [← hm9, ← hx9]; omega), hx9]; done) | (rw [if_neg (by rw [← hm9, ← hx9]; omega), hm9]; done))
        · skip
          refine q_iconst S0 dX11_deep_77 ?_
          refine lv_iload S0.1 S0.2.1 dX11_deep_78 (lv_at hl 1 rfl) ?_
          refine lv_iload S0.1 S0.2.1 dX11_deep_80 (lv_at hl 0 rfl) ?_
          refine q_icmp_le (tgt := 90) S0 (by omega) dX11_deep_82 (by decide) (fun c82 => ?_) (fun c82 => ?_)
          · skip
            refine lv_iload S0.1 S0.2.1 dX11_deep_90 (lv_at hl 0 rfl) ?_
            refine q_iadd S0 dX11_deep_92 ?_
            exact hJ77 _ (by symm; show up _ i.toNat _ i.toNat = _; rw [up_s, ← ha9, ← hb9]; first | rw [if_pos (by omega)] | rw [if_neg (by omega)])
          · skip
            refine lv_iload S0.1 S0.2.1 dX11_deep_85 (lv_at hl 1 rfl) ?_
            refine lv_goto (tgt := 92) S0.1 S0.2.1 dX11_deep_87 (by decide) ?_
            refine q_iadd S0 dX11_deep_92 ?_
            exact hJ77 _ (by symm; show up _ i.toNat _ i.toNat = _; rw [up_s, ← ha9, ← hb9]; first | rw [if_pos (by omega)] | rw [if_neg (by omega)])
      · skip
        refine lv_aload_n S0.1 S0.2.1 dX11_deep_45 rfl (lv_at hl 3 rfl) ?_
        refine q_get (C := RX11) (T := TX11) (N := 26) S0 hK hW.1 hinX11 1 rfl rfl 19 (by decide) (List.mem_of_getElem? (i := 3) rfl) rfl rfl dX11_deep_46 ?_
        refine lv_iload_n S0.1 S0.2.1 dX11_deep_49 rfl (lv_at hl 1 rfl) ?_
        refine q_iald S0 hK hW.1 4 rfl (by omega) dX11_deep_50 ?_
        refine q_iconst S0 dX11_deep_51 ?_
        refine q_icmp_ne (tgt := 59) S0 (by omega) dX11_deep_52 (by decide) (fun c52 => ?_) (fun c52 => ?_)
        · skip
          refine lv_aload_n S0.1 S0.2.1 dX11_deep_59 rfl (lv_at hl 3 rfl) ?_
          refine q_get (C := RX11) (T := TX11) (N := 26) S0 hK hW.1 hinX11 1 rfl rfl 20 (by decide) (List.mem_of_getElem? (i := 2) rfl) rfl rfl dX11_deep_60 ?_
          refine lv_aload_n S0.1 S0.2.1 dX11_deep_63 rfl (lv_at hl 3 rfl) ?_
          refine q_get (C := RX11) (T := TX11) (N := 26) S0 hK hW.1 hinX11 1 rfl rfl 19 (by decide) (List.mem_of_getElem? (i := 3) rfl) rfl rfl dX11_deep_64 ?_
          refine lv_iload_n S0.1 S0.2.1 dX11_deep_67 rfl (lv_at hl 1 rfl) ?_
          refine q_iald S0 hK hW.1 4 rfl (by omega) dX11_deep_68 ?_
          refine q_iald S0 hK hW.1 0 rfl (by omega) dX11_deep_69 ?_
          exact hJ45 _ (by unfold dgv; first | (rw [if_pos (by omega)]; done) | (rw [if_neg (by omega), hlb9, hH1 _ (by omega)]; done))
        · skip
          refine q_iconst S0 dX11_deep_55 ?_
          refine lv_goto (tgt := 70) S0.1 S0.2.1 dX11_deep_56 (by decide) ?_
          exact hJ45 _ (by unfold dgv; first | (rw [if_pos (by omega)]; done) | (rw [if_neg (by omega), hlb9, hH1 _ (by omega)]; done))
    · skip
      refine lv_aload_n S0.1 S0.2.1 dX11_deep_18 rfl (lv_at hl 2 rfl) ?_
      refine q_get (C := RX11) (T := TX11) (N := 26) S0 hK hW.1 hinX11 1 rfl rfl 18 (by decide) (List.mem_of_getElem? (i := 1) rfl) rfl rfl dX11_deep_19 ?_
      refine lv_iload_n S0.1 S0.2.1 dX11_deep_22 rfl (lv_at hl 0 rfl) ?_
      refine q_iald S0 hK hW.1 3 rfl (by omega) dX11_deep_23 ?_
      refine q_iconst S0 dX11_deep_24 ?_
      refine q_icmp_ne (tgt := 32) S0 (by omega) dX11_deep_25 (by decide) (fun c25 => ?_) (fun c25 => ?_)
      · skip
        refine lv_aload_n S0.1 S0.2.1 dX11_deep_32 rfl (lv_at hl 2 rfl) ?_
        refine q_get (C := RX11) (T := TX11) (N := 26) S0 hK hW.1 hinX11 1 rfl rfl 20 (by decide) (List.mem_of_getElem? (i := 2) rfl) rfl rfl dX11_deep_33 ?_
        refine lv_aload_n S0.1 S0.2.1 dX11_deep_36 rfl (lv_at hl 2 rfl) ?_
        refine q_get (C := RX11) (T := TX11) (N := 26) S0 hK hW.1 hinX11 1 rfl rfl 18 (by decide) (List.mem_of_getElem? (i := 1) rfl) rfl rfl dX11_deep_37 ?_
        refine lv_iload_n S0.1 S0.2.1 dX11_deep_40 rfl (lv_at hl 0 rfl) ?_
        refine q_iald S0 hK hW.1 3 rfl (by omega) dX11_deep_41 ?_
        refine q_iald S0 hK hW.1 0 rfl (by omega) dX11_deep_42 ?_
        exact hJ18 _ (by unfold dgv; first | (rw [if_pos (by omega)]; done) | (rw [if_neg (by omega), hla9, hH1 _ (by omega)]; done))
      · skip
        refine q_iconst S0 dX11_deep_28 ?_
        refine lv_goto (tgt := 43) S0.1 S0.2.1 dX11_deep_29 (by decide) ?_
        exact hJ18 _ (by unfold dgv; first | (rw [if_pos (by omega)]; done) | (rw [if_neg (by omega), hla9, hH1 _ (by omega)]; done))
