set_option maxHeartbeats 4000000 in
set_option maxRecDepth 100000 in
theorem c_X11_unlike (l : Launch) (g : GG) (mo az ap ak ax a1 a2 a3 a4 a5 a6 v1 v2 v3 v4 v5 v6 : Nat) (pm ik ty th mn wt bn wh dp dg : Int) (Z : Nat → Int) (F : FT) (L V T Sh0 : Nat → Int) (u : Int) (hG : GF F) (hz : ZR Z F) (hlk : LKG F) (hu : 0 ≤ u ∧ u < 4) : qMet l yX11_unlike wsX11_unlike ({ frames := 2, cells := 0, slots := 0, locals := 48 }) g [.ref mo, .int (iI u)] [(mo, .inr (11, [.ref az, .ref ap, .int (iI pm), .ref ak, .int (iI ik), .ref ax, .int (iI ty), .int (iI th), .ref a1, .ref a2, .int (iI mn), .ref a3, .int (iI wt), .ref a4, .ref a5, .ref a6, .ref v1, .ref v2, .ref v3, .ref v4, .ref v5, .ref v6, .int (iI bn), .int (iI wh), .int (iI dp), .int (iI dg)])), (az, gI g 325 Z), (v3, gI g 41 L), (v4, gI g 41 V), (v6, gI g 41 T), (v5, gI g 41 Sh0)] (fun _ => True) (fun _ => True) (S := (Nat → Int) × (Nat → Int) × (Nat → Int) × (Nat → Int)) (fun u_ => some (.int (iI (nus (fE F u.toNat) (eN (fE F u.toNat)))))) (fun u_ => [(mo, .inr (11, [.ref az, .ref ap, .int (iI pm), .ref ak, .int (iI ik), .ref ax, .int (iI ty), .int (iI th), .ref a1, .ref a2, .int (iI mn), .ref a3, .int (iI wt), .ref a4, .ref a5, .ref a6, .ref v1, .ref v2, .ref v3, .ref v4, .ref v5, .ref v6, .int (iI bn), .int (iI wh), .int (iI dp), .int (iI dg)])), (az, gI g 325 Z), (v3, gI g 41 u_.1), (v4, gI g 41 u_.2.1), (v6, gI g 41 u_.2.2.1), (v5, gI g 41 u_.2.2.2)]) (fun u_ => ∀ j : Nat, j < eN (fE F u.toNat) → u_.1 j = eL (fE F u.toNat) j ∧ u_.2.1 j = eV (fE F u.toNat) j) 0 0 := by
  refine q_ofW (cc := cX11_unlike) (maxL := 6) (ret := (some .int)) (fun sz h => h.self) (by decide) rfl (Nat.le_of_ble_eq_true rfl) ?_
  intro p e s m args below meth c A ls S0 hr hlocks hnme hK hA hAe hW hD0 hX hl
  have hW : gW g A s.heap s.heap [] [(mo, .inr (11, [.ref az, .ref ap, .int (iI pm), .ref ak, .int (iI ik), .ref ax, .int (iI ty), .int (iI th), .ref a1, .ref a2, .int (iI mn), .ref a3, .int (iI wt), .ref a4, .ref a5, .ref a6, .ref v1, .ref v2, .ref v3, .ref v4, .ref v5, .ref v6, .int (iI bn), .int (iI wh), .int (iI dp), .int (iI dg)])), (az, gI g 325 Z), (v3, gI g 41 L), (v4, gI g 41 V), (v6, gI g 41 T), (v5, gI g 41 Sh0)] := hW
  have hl : lv_has ls 6 [(0, .ref mo), (1, .int (iI u))] := hl
  have hinX11 : ∀ w ∈ wsX110, w ∈ wsX11_unlike := fun w h => List.mem_cons_of_mem _ (List.mem_append_right _ h)
  have hn40 := (hG.2 u.toNat (by omega)).1
  refine lv_aload_n S0.1 S0.2.1 dX11_unlike_0 rfl (lv_at hl 0 rfl) ?_
  refine lv_iload_n S0.1 S0.2.1 dX11_unlike_1 rfl (lv_at hl 1 rfl) ?_
  refine q_cV (n := 1) (rest := []) (wr := [(v5, gI g 41 Sh0)]) S0 hK hA hW (c_X11_links l g mo az ap ak ax a1 a2 a3 a4 a5 a6 v1 v2 v3 v4 v5 v6 pm ik ty th mn wt bn wh dp dg Z F L V T u (hG) (hz) (hlk) (hu)) gX11_unlike_X11_links rfl rfl rfl (by decide +kernel) ⟨Nat.le_of_ble_eq_true rfl, Nat.le_of_ble_eq_true rfl⟩ [0, 1, 2, 3, 4] [5] rfl rfl rfl rfl (by decide) (q_recv hK hW.1 (ci := 11) (q0 := 0) rfl rfl) (fun _ _ => trivial) (trivial) rfl rfl hl.1 (Nat.le_of_ble_eq_true rfl) ⟨Nat.le_of_ble_eq_true rfl, Nat.le_of_ble_eq_true rfl⟩ dX11_unlike_2 ?_
  rintro ⟨L1, V1, T1⟩ H locs hp hW
  try dsimp only at hp
  have hW : gW g A s.heap H _ [(v5, gI g 41 Sh0), (mo, .inr (11, [.ref az, .ref ap, .int (iI pm), .ref ak, .int (iI ik), .ref ax, .int (iI ty), .int (iI th), .ref a1, .ref a2, .int (iI mn), .ref a3, .int (iI wt), .ref a4, .ref a5, .ref a6, .ref v1, .ref v2, .ref v3, .ref v4, .ref v5, .ref v6, .int (iI bn), .int (iI wh), .int (iI dp), .int (iI dg)])), (az, gI g 325 Z), (v3, gI g 41 L1), (v4, gI g 41 V1), (v6, gI g 41 T1)] := hW
  refine W.eq (g2 := F0 m 5 ls []) rfl ?_
  have hLV := hp
  refine q_iconst S0 dX11_unlike_5 ?_
  refine lv_istore_n (lv' := [(2, .int (iI 0)), (0, .ref mo), (1, .int (iI u))]) S0.1 S0.2.1 dX11_unlike_6 rfl hl (by decide) rfl (fun ls hl => ?_)
  refine q_iconst S0 dX11_unlike_7 ?_
  refine lv_istore_n (lv' := [(3, .int (iI 0)), (2, .int (iI 0)), (0, .ref mo), (1, .int (iI u))]) S0.1 S0.2.1 dX11_unlike_8 rfl hl (by decide) rfl (fun ls hl => ?_)
  refine q_loop (α := Int × Int × (Nat → Int)) (fun (z_ : Int × Int × (Nat → Int)) => match z_ with | (k9, n9, H1) => (0 ≤ k9 ∧ k9 ≤ eN (fE F u.toNat)) ∧ n9 = nus (fE F u.toNat) k9.toNat ∧ (∀ j : Nat, (j : Int) < k9 → H1 j = shs (fE F u.toNat) k9.toNat j)) (fun (z_ : Int × Int × (Nat → Int)) => match z_ with | (k9, n9, H1) => (eN (fE F u.toNat) - k9).toNat) (fun (z_ : Int × Int × (Nat → Int)) => match z_ with | (k9, n9, H1) => [(v5, gI g 41 H1), (mo, .inr (11, [.ref az, .ref ap, .int (iI pm), .ref ak, .int (iI ik), .ref ax, .int (iI ty), .int (iI th), .ref a1, .ref a2, .int (iI mn), .ref a3, .int (iI wt), .ref a4, .ref a5, .ref a6, .ref v1, .ref v2, .ref v3, .ref v4, .ref v5, .ref v6, .int (iI bn), .int (iI wh), .int (iI dp), .int (iI dg)])), (az, gI g 325 Z), (v3, gI g 41 L1), (v4, gI g 41 V1), (v6, gI g 41 T1)]) (fun (z_ : Int × Int × (Nat → Int)) => match z_ with | (k9, n9, H1) => [(3, .int (iI k9)), (2, .int (iI n9)), (0, .ref mo), (1, .int (iI u))]) ?_ (0, 0, Sh0) (by refine ⟨by omega, rfl, fun j hj => absurd hj (by omega)⟩) hW (lv_sub hl [0, 1, 2, 3] rfl)
  rintro ⟨k9, n9, H1⟩ hinv IHl H locs ls hW hl
  try dsimp only at hinv
  have hW : gW g A s.heap H _ [(v5, gI g 41 H1), (mo, .inr (11, [.ref az, .ref ap, .int (iI pm), .ref ak, .int (iI ik), .ref ax, .int (iI ty), .int (iI th), .ref a1, .ref a2, .int (iI mn), .ref a3, .int (iI wt), .ref a4, .ref a5, .ref a6, .ref v1, .ref v2, .ref v3, .ref v4, .ref v5, .ref v6, .int (iI bn), .int (iI wh), .int (iI dp), .int (iI dg)])), (az, gI g 325 Z), (v3, gI g 41 L1), (v4, gI g 41 V1), (v6, gI g 41 T1)] := hW
  have hl : lv_has ls 6 [(3, .int (iI k9)), (2, .int (iI n9)), (0, .ref mo), (1, .int (iI u))] := hl
  obtain ⟨hk9, hn9, hH1⟩ := hinv
  have hnr := nus_rng (fE F u.toNat) k9.toNat
  refine lv_iload_n S0.1 S0.2.1 dX11_unlike_9 rfl (lv_at hl 0 rfl) ?_
  refine lv_aload_n S0.1 S0.2.1 dX11_unlike_10 rfl (lv_at hl 2 rfl) ?_
  refine lv_iload_n S0.1 S0.2.1 dX11_unlike_11 rfl (lv_at hl 3 rfl) ?_
  refine q_pV (n := 1) (rest := [.int (iI k9)]) S0 hK (c_X11_size l g mo az ap ak ax a1 a2 a3 a4 a5 a6 v1 v2 v3 v4 v5 v6 pm ik ty th mn wt bn wh dp dg Z u (hu)) (subP hW.1 [1, 2] rfl) (trivial) gX11_unlike_X11_size rfl rfl rfl (by decide +kernel) ⟨Nat.le_of_ble_eq_true rfl, Nat.le_of_ble_eq_true rfl⟩ (q_recv hK hW.1 (ci := 11) (q0 := 1) rfl rfl) rfl rfl hl.1 (Nat.le_of_ble_eq_true rfl) ⟨Nat.le_of_ble_eq_true rfl, Nat.le_of_ble_eq_true rfl⟩ dX11_unlike_12 ?_
  refine W.eq (g2 := F0 m 15 ls [.int (iI (Z (1 + 81 * u).toNat)), .int (iI k9)]) rfl ?_
  refine q_topI (b := ((eN (fE F u.toNat) : Nat) : Int)) ((hz.2 u hu).1) ?_
  refine q_icmp_ge (tgt := 222) S0 (by omega) dX11_unlike_15 (by decide) (fun c15 => ?_) (fun c15 => ?_)
  · skip
    refine lv_iload_n S0.1 S0.2.1 dX11_unlike_222 rfl (lv_at hl 1 rfl) ?_
    exact q_iret S0 hr hlocks (L1, V1, T1, H1) (hLV) (by rw [hn9, show k9.toNat = eN (fE F u.toNat) by omega]) (hW.sub [1, 2, 3, 4, 5, 0] rfl (rfl)) (Nat.le_of_ble_eq_true rfl) (Nat.le_of_ble_eq_true rfl) dX11_unlike_223
  · skip
    have hE9 := (hG.2 u.toNat (by omega)).2.1 k9.toNat (by omega)
    have hL9 := WFK_L hE9
    have hV9 := WFK_V hE9
    have hla9 := (hLV k9.toNat (by omega)).1
    have hlb9 := (hLV k9.toNat (by omega)).2
    have hur := fun (m : Nat) (s9 : Int) (a : m ≤ k9.toNat) (b : 0 ≤ s9 ∧ s9 ≤ k9.toNat) => usd_rng (fE F u.toNat) (shs (fE F u.toNat) k9.toNat) k9.toNat m s9 a b
    refine lv_aload_n S0.1 S0.2.1 dX11_unlike_18 rfl (lv_at hl 2 rfl) ?_
    refine q_get (C := RX11) (T := TX11) (N := 26) S0 hK hW.1 hinX11 1 rfl rfl 20 (by decide) (List.mem_of_getElem? (i := 1) rfl) rfl rfl dX11_unlike_19 ?_
    refine lv_iload_n S0.1 S0.2.1 dX11_unlike_22 rfl (lv_at hl 0 rfl) ?_
    refine lv_iload_n S0.1 S0.2.1 dX11_unlike_23 rfl (lv_at hl 0 rfl) ?_
    refine q_iast S0 hK hW 0 rfl (by omega) dX11_unlike_24 (fun H locs hW => ?_)
    have hW : gW g A s.heap H _ [(v5, gI g 41 (up H1 ((k9).toNat) k9)), (mo, .inr (11, [.ref az, .ref ap, .int (iI pm), .ref ak, .int (iI ik), .ref ax, .int (iI ty), .int (iI th), .ref a1, .ref a2, .int (iI mn), .ref a3, .int (iI wt), .ref a4, .ref a5, .ref a6, .ref v1, .ref v2, .ref v3, .ref v4, .ref v5, .ref v6, .int (iI bn), .int (iI wh), .int (iI dp), .int (iI dg)])), (az, gI g 325 Z), (v3, gI g 41 L1), (v4, gI g 41 V1), (v6, gI g 41 T1)] := hW
    refine lv_iload_n S0.1 S0.2.1 dX11_unlike_25 rfl (lv_at hl 0 rfl) ?_
    refine q_iconst S0 dX11_unlike_26 ?_
    refine q_isub S0 dX11_unlike_27 ?_
    refine lv_istore (lv' := [(4, .int (iI (k9 - 1))), (3, .int (iI k9)), (2, .int (iI n9)), (0, .ref mo), (1, .int (iI u))]) S0.1 S0.2.1 dX11_unlike_28 hl (by decide) rfl (fun ls hl => ?_)
    refine q_loop (α := Int × Int × (Nat → Int)) (fun (z_ : Int × Int × (Nat → Int)) => match z_ with | (m9, s9, H2) => (-1 ≤ m9 ∧ m9 < k9) ∧ (0 ≤ s9 ∧ s9 ≤ k9) ∧ H2 k9.toNat = s9 ∧ (∀ j : Nat, (j : Int) < k9 → H2 j = shs (fE F u.toNat) k9.toNat j) ∧ usd (fE F u.toNat) (shs (fE F u.toNat) k9.toNat) k9.toNat (m9 + 1).toNat s9 = usd (fE F u.toNat) (shs (fE F u.toNat) k9.toNat) k9.toNat k9.toNat ((k9.toNat : Nat) : Int)) (fun (z_ : Int × Int × (Nat → Int)) => match z_ with | (m9, s9, H2) => (m9 + 1).toNat) (fun (z_ : Int × Int × (Nat → Int)) => match z_ with | (m9, s9, H2) => [(v5, gI g 41 H2), (mo, .inr (11, [.ref az, .ref ap, .int (iI pm), .ref ak, .int (iI ik), .ref ax, .int (iI ty), .int (iI th), .ref a1, .ref a2, .int (iI mn), .ref a3, .int (iI wt), .ref a4, .ref a5, .ref a6, .ref v1, .ref v2, .ref v3, .ref v4, .ref v5, .ref v6, .int (iI bn), .int (iI wh), .int (iI dp), .int (iI dg)])), (az, gI g 325 Z), (v3, gI g 41 L1), (v4, gI g 41 V1), (v6, gI g 41 T1)]) (fun (z_ : Int × Int × (Nat → Int)) => match z_ with | (m9, s9, H2) => [(4, .int (iI m9)), (3, .int (iI k9)), (2, .int (iI n9)), (0, .ref mo), (1, .int (iI u))]) ?_ (k9 - 1, k9, up H1 k9.toNat k9) (by refine ⟨by omega, by omega, up_s, fun j hj => by rw [up_n (by omega)]; exact hH1 j hj, by rw [show k9 - 1 + 1 = k9 by omega, show ((k9.toNat : Nat) : Int) = k9 by omega]⟩) hW (lv_sub hl [0, 1, 2, 3, 4] rfl)
    rintro ⟨m9, s9, H2⟩ hinv IHl30 H locs ls hW hl
    try dsimp only at hinv
    have hW : gW g A s.heap H _ [(v5, gI g 41 H2), (mo, .inr (11, [.ref az, .ref ap, .int (iI pm), .ref ak, .int (iI ik), .ref ax, .int (iI ty), .int (iI th), .ref a1, .ref a2, .int (iI mn), .ref a3, .int (iI wt), .ref a4, .ref a5, .ref a6, .ref v1, .ref v2, .ref v3, .ref v4, .ref v5, .ref v6, .int (iI bn), .int (iI wh), .int (iI dp), .int (iI dg)])), (az, gI g 325 Z), (v3, gI g 41 L1), (v4, gI g 41 V1), (v6, gI g 41 T1)] := hW
    have hl : lv_has ls 6 [(4, .int (iI m9)), (3, .int (iI k9)), (2, .int (iI n9)), (0, .ref mo), (1, .int (iI u))] := hl
    obtain ⟨hm9, hs9, hHk, hH2, heq⟩ := hinv
    refine lv_iload S0.1 S0.2.1 dX11_unlike_30 (lv_at hl 0 rfl) ?_
    refine q_if_lt (tgt := 198) S0 (by omega) dX11_unlike_32 (by decide) (fun c32 => ?_) (fun c32 => ?_)
    · skip
      have hend9 : H2 k9.toNat = usd (fE F u.toNat) (shs (fE F u.toNat) k9.toNat) k9.toNat k9.toNat ((k9.toNat : Nat) : Int) := by rw [← heq, show (m9 + 1).toNat = 0 by omega]; exact hHk
      refine lv_iload_n S0.1 S0.2.1 dX11_unlike_198 rfl (lv_at hl 2 rfl) ?_
      refine q_cut (α := Int) (fun w9 => F0 m 214 ls (.int (iI w9) :: [.int (iI n9)])) (fun w9 => w9 = if shs (fE F u.toNat) (k9.toNat + 1) k9.toNat = ((k9.toNat : Nat) : Int) then (1 : Int) else 0) (fun w9 hw9 => ?_) (fun hJ199 => ?_)
      · skip
        refine q_iadd S0 dX11_unlike_214 ?_
        refine lv_istore_n (lv' := [(2, .int (iI (n9 + w9))), (4, .int (iI m9)), (3, .int (iI k9)), (0, .ref mo), (1, .int (iI u))]) S0.1 S0.2.1 dX11_unlike_215 rfl hl (by decide) rfl (fun ls hl => ?_)
        refine q_iinc (lv' := [(3, .int (iI (k9 + 1))), (2, .int (iI (n9 + w9))), (4, .int (iI m9)), (0, .ref mo), (1, .int (iI u))]) S0 dX11_unlike_216 hl (k := 2) rfl (by decide) rfl (fun ls hl => ?_)
        refine lv_goto (tgt := 9) S0.1 S0.2.1 dX11_unlike_219 (by decide) ?_
        exact IHl (k9 + 1, n9 + w9, H2) H locs ls (by
              refine ⟨by omega, ?_, fun j hj => ?_⟩
              · rw [show (k9 + 1).toNat = k9.toNat + 1 by omega, hw9, hn9]; rfl
              · rw [show (k9 + 1).toNat = k9.toNat + 1 by omega]
                show _ = up _ k9.toNat _ j
                unfold up
                by_cases q : j = k9.toNat
                · rw [if_pos q, q, hend9]
                · rw [if_neg q, hH2 j (by omega)]) (by dsimp only; omega) hW (lv_sub hl [0, 1, 3, 4] rfl)
      · skip
        refine lv_aload_n S0.1 S0.2.1 dX11_unlike_199 rfl (lv_at hl 3 rfl) ?_
        refine q_get (C := RX11) (T := TX11) (N := 26) S0 hK hW.1 hinX11 1 rfl rfl 20 (by decide) (List.mem_of_getElem? (i := 1) rfl) rfl rfl dX11_unlike_200 ?_
        refine lv_iload_n S0.1 S0.2.1 dX11_unlike_203 rfl (lv_at hl 1 rfl) ?_
        refine q_iald S0 hK hW.1 0 rfl (by omega) dX11_unlike_204 ?_
        refine q_topI (b := s9) (hHk) ?_
        refine lv_iload_n S0.1 S0.2.1 dX11_unlike_205 rfl (lv_at hl 1 rfl) ?_
        refine q_icmp_ne (tgt := 213) S0 (by omega) dX11_unlike_206 (by decide) (fun c206 => ?_) (fun c206 => ?_)
        · skip
          refine q_iconst S0 dX11_unlike_213 ?_
          exact hJ199 _ (by rw [show shs (fE F u.toNat) (k9.toNat + 1) k9.toNat = H2 k9.toNat by rw [hend9]; exact up_s]; first | (rw [if_pos (by omega)]; done) | (rw [if_neg (by omega)]; done))
        · skip
          refine q_iconst S0 dX11_unlike_209 ?_
          refine lv_goto (tgt := 214) S0.1 S0.2.1 dX11_unlike_210 (by decide) ?_
          exact hJ199 _ (by rw [show shs (fE F u.toNat) (k9.toNat + 1) k9.toNat = H2 k9.toNat by rw [hend9]; exact up_s]; first | (rw [if_pos (by omega)]; done) | (rw [if_neg (by omega)]; done))
    · skip
      have hEm := (hG.2 u.toNat (by omega)).2.1 m9.toNat (by omega)
      have hLm := WFK_L hEm
      have hVm := WFK_V hEm
      have hlam := (hLV m9.toNat (by omega)).1
      have hlbm := (hLV m9.toNat (by omega)).2
      have hua := WFK_U hEm (by omega)
      have hub := WFK_U hE9 (by omega)
      have sr0 := shs_rng (fE F u.toNat) k9.toNat (eL (fE F u.toNat) k9.toNat).toNat
      have sr1 := shs_rng (fE F u.toNat) k9.toNat (eL (fE F u.toNat) m9.toNat).toNat
      have sr2 := shs_rng (fE F u.toNat) k9.toNat (eV (fE F u.toNat) k9.toNat).toNat
      have sr3 := shs_rng (fE F u.toNat) k9.toNat (eV (fE F u.toNat) m9.toNat).toNat
      refine q_cut (α := Unit) (fun _ => F0 m 72 ls (.int (iI (if eK (fE F u.toNat) m9.toNat = eK (fE F u.toNat) k9.toNat ∧ eU (fE F u.toNat) m9.toNat = eU (fE F u.toNat) k9.toNat then (1 : Int) else 0)) :: [])) (fun _ => True) (fun _ _ => ?_) (fun hJ35 => ?_)
      · skip
        refine lv_istore (lv' := [(5, .int (iI (if eK (fE F u.toNat) m9.toNat = eK (fE F u.toNat) k9.toNat ∧ eU (fE F u.toNat) m9.toNat = eU (fE F u.toNat) k9.toNat then (1 : Int) else 0))), (4, .int (iI m9)), (3, .int (iI k9)), (2, .int (iI n9)), (0, .ref mo), (1, .int (iI u))]) S0.1 S0.2.1 dX11_unlike_72 hl (by decide) rfl (fun ls hl => ?_)
        refine q_cut (α := Unit) (fun _ => F0 m 120 ls (.int (iI (if (eK (fE F u.toNat) m9.toNat = eK (fE F u.toNat) k9.toNat ∧ eU (fE F u.toNat) m9.toNat = eU (fE F u.toNat) k9.toNat) ∧ (eL (fE F u.toNat) k9.toNat = -1 ∨ shs (fE F u.toNat) k9.toNat (eL (fE F u.toNat) k9.toNat).toNat = shs (fE F u.toNat) k9.toNat (eL (fE F u.toNat) m9.toNat).toNat) then (1 : Int) else 0)) :: [])) (fun _ => True) (fun _ _ => ?_) (fun hJ74 => ?_)
        · skip
          refine lv_istore (lv' := [(5, .int (iI (if (eK (fE F u.toNat) m9.toNat = eK (fE F u.toNat) k9.toNat ∧ eU (fE F u.toNat) m9.toNat = eU (fE F u.toNat) k9.toNat) ∧ (eL (fE F u.toNat) k9.toNat = -1 ∨ shs (fE F u.toNat) k9.toNat (eL (fE F u.toNat) k9.toNat).toNat = shs (fE F u.toNat) k9.toNat (eL (fE F u.toNat) m9.toNat).toNat) then (1 : Int) else 0))), (4, .int (iI m9)), (3, .int (iI k9)), (2, .int (iI n9)), (0, .ref mo), (1, .int (iI u))]) S0.1 S0.2.1 dX11_unlike_120 hl (by decide) rfl (fun ls hl => ?_)
          refine q_cut (α := Unit) (fun _ => F0 m 168 ls (.int (iI (if ali (fE F u.toNat) (shs (fE F u.toNat) k9.toNat) m9.toNat k9.toNat then (1 : Int) else 0)) :: [])) (fun _ => True) (fun _ _ => ?_) (fun hJ122 => ?_)
          · skip
            refine lv_istore (lv' := [(5, .int (iI (if ali (fE F u.toNat) (shs (fE F u.toNat) k9.toNat) m9.toNat k9.toNat then (1 : Int) else 0))), (4, .int (iI m9)), (3, .int (iI k9)), (2, .int (iI n9)), (0, .ref mo), (1, .int (iI u))]) S0.1 S0.2.1 dX11_unlike_168 hl (by decide) rfl (fun ls hl => ?_)
            refine lv_aload_n S0.1 S0.2.1 dX11_unlike_170 rfl (lv_at hl 4 rfl) ?_
            refine q_get (C := RX11) (T := TX11) (N := 26) S0 hK hW.1 hinX11 1 rfl rfl 20 (by decide) (List.mem_of_getElem? (i := 1) rfl) rfl rfl dX11_unlike_171 ?_
            refine lv_iload_n S0.1 S0.2.1 dX11_unlike_174 rfl (lv_at hl 2 rfl) ?_
            refine q_cut (α := Int) (fun y9 => F0 m 191 ls (.int (iI y9) :: [.int (iI k9), .ref v5])) (fun y9 => y9 = if ali (fE F u.toNat) (shs (fE F u.toNat) k9.toNat) m9.toNat k9.toNat then m9 else s9) (fun y9 hy9 => ?_) (fun hJ175 => ?_)
            · skip
              refine q_iast S0 hK hW 0 rfl (by omega) dX11_unlike_191 (fun H locs hW => ?_)
              have hW : gW g A s.heap H _ [(v5, gI g 41 (up H2 ((k9).toNat) y9)), (mo, .inr (11, [.ref az, .ref ap, .int (iI pm), .ref ak, .int (iI ik), .ref ax, .int (iI ty), .int (iI th), .ref a1, .ref a2, .int (iI mn), .ref a3, .int (iI wt), .ref a4, .ref a5, .ref a6, .ref v1, .ref v2, .ref v3, .ref v4, .ref v5, .ref v6, .int (iI bn), .int (iI wh), .int (iI dp), .int (iI dg)])), (az, gI g 325 Z), (v3, gI g 41 L1), (v4, gI g 41 V1), (v6, gI g 41 T1)] := hW
              refine q_iinc (lv' := [(4, .int (iI (m9 + (-1)))), (5, .int (iI (if ali (fE F u.toNat) (shs (fE F u.toNat) k9.toNat) m9.toNat k9.toNat then (1 : Int) else 0))), (3, .int (iI k9)), (2, .int (iI n9)), (0, .ref mo), (1, .int (iI u))]) S0 dX11_unlike_192 hl (k := 1) rfl (by decide) rfl (fun ls hl => ?_)
              refine lv_goto (tgt := 30) S0.1 S0.2.1 dX11_unlike_195 (by decide) ?_
              exact IHl30 (m9 + (-1), y9, up H2 k9.toNat y9) H locs ls (by
                    refine ⟨by omega, by rw [hy9]; split <;> omega, up_s, fun j hj => by rw [up_n (by omega)]; exact hH2 j hj, ?_⟩
                    rw [← heq, show (m9 + 1).toNat = (m9 + (-1) + 1).toNat + 1 by omega, hy9]
                    show _ = usd _ _ _ (m9 + (-1) + 1).toNat (if ali _ _ (m9 + (-1) + 1).toNat k9.toNat then (((m9 + (-1) + 1).toNat : Nat) : Int) else s9)
                    rw [show (m9 + (-1) + 1).toNat = m9.toNat by omega, show ((m9.toNat : Nat) : Int) = m9 by omega]) (by dsimp only; omega) hW (lv_sub hl [0, 2, 3, 4, 5] rfl)
            · skip
              refine lv_iload S0.1 S0.2.1 dX11_unlike_175 (lv_at hl 0 rfl) ?_
              refine q_if_eqP (tgt := 185) S0 dX11_unlike_177 (by decide) (fun c177 => ?_) (fun c177 => ?_)
              · skip
                refine lv_aload_n S0.1 S0.2.1 dX11_unlike_185 rfl (lv_at hl 4 rfl) ?_
                refine q_get (C := RX11) (T := TX11) (N := 26) S0 hK hW.1 hinX11 1 rfl rfl 20 (by decide) (List.mem_of_getElem? (i := 1) rfl) rfl rfl dX11_unlike_186 ?_
                refine lv_iload_n S0.1 S0.2.1 dX11_unlike_189 rfl (lv_at hl 2 rfl) ?_
                refine q_iald S0 hK hW.1 0 rfl (by omega) dX11_unlike_190 ?_
                exact hJ175 _ (by first | (rw [if_pos c177]; done) | (rw [if_neg c177]; exact hHk))
              · skip
                refine lv_iload S0.1 S0.2.1 dX11_unlike_180 (lv_at hl 1 rfl) ?_
                refine lv_goto (tgt := 191) S0.1 S0.2.1 dX11_unlike_182 (by decide) ?_
                exact hJ175 _ (by first | (rw [if_pos c177]; done) | (rw [if_neg c177]; exact hHk))
          · skip
            refine lv_iload S0.1 S0.2.1 dX11_unlike_122 (lv_at hl 0 rfl) ?_
            refine q_if_eqP (tgt := 167) S0 dX11_unlike_124 (by decide) (fun c124 => ?_) (fun c124 => ?_)
            · skip
              refine q_iconst S0 dX11_unlike_167 ?_
              refine W.eq (g2 := F0 m 168 ls (.int (iI (if ali (fE F u.toNat) (shs (fE F u.toNat) k9.toNat) m9.toNat k9.toNat then (1 : Int) else 0)) :: [])) (by rw [show (if ali (fE F u.toNat) (shs (fE F u.toNat) k9.toNat) m9.toNat k9.toNat then (1 : Int) else 0) = 0 from if_neg (by omega)]) ?_
              exact hJ122 () trivial
            · skip
              have hlb2 := lm_V hEm hE9 c124.1.1
              refine lv_aload_n S0.1 S0.2.1 dX11_unlike_127 rfl (lv_at hl 4 rfl) ?_
              refine q_get (C := RX11) (T := TX11) (N := 26) S0 hK hW.1 hinX11 1 rfl rfl 19 (by decide) (List.mem_of_getElem? (i := 3) rfl) rfl rfl dX11_unlike_128 ?_
              refine lv_iload_n S0.1 S0.2.1 dX11_unlike_131 rfl (lv_at hl 2 rfl) ?_
              refine q_iald S0 hK hW.1 4 rfl (by omega) dX11_unlike_132 ?_
              refine q_iconst S0 dX11_unlike_133 ?_
              refine q_icmp_eq (tgt := 163) S0 (by omega) dX11_unlike_134 (by decide) (fun c134 => ?_) (fun c134 => ?_)
              · skip
                refine q_iconst S0 dX11_unlike_163 ?_
                refine lv_goto (tgt := 168) S0.1 S0.2.1 dX11_unlike_164 (by decide) ?_
                refine W.eq (g2 := F0 m 168 ls (.int (iI (if ali (fE F u.toNat) (shs (fE F u.toNat) k9.toNat) m9.toNat k9.toNat then (1 : Int) else 0)) :: [])) (by rw [show (if ali (fE F u.toNat) (shs (fE F u.toNat) k9.toNat) m9.toNat k9.toNat then (1 : Int) else 0) = 1 from if_pos (by omega)]) ?_
                exact hJ122 () trivial
              · skip
                refine lv_aload_n S0.1 S0.2.1 dX11_unlike_137 rfl (lv_at hl 4 rfl) ?_
                refine q_get (C := RX11) (T := TX11) (N := 26) S0 hK hW.1 hinX11 1 rfl rfl 20 (by decide) (List.mem_of_getElem? (i := 1) rfl) rfl rfl dX11_unlike_138 ?_
                refine lv_aload_n S0.1 S0.2.1 dX11_unlike_141 rfl (lv_at hl 4 rfl) ?_
                refine q_get (C := RX11) (T := TX11) (N := 26) S0 hK hW.1 hinX11 1 rfl rfl 19 (by decide) (List.mem_of_getElem? (i := 3) rfl) rfl rfl dX11_unlike_142 ?_
                refine lv_iload_n S0.1 S0.2.1 dX11_unlike_145 rfl (lv_at hl 2 rfl) ?_
                refine q_iald S0 hK hW.1 4 rfl (by omega) dX11_unlike_146 ?_
                refine q_iald S0 hK hW.1 0 rfl (by omega) dX11_unlike_147 ?_
                refine q_topI (b := shs (fE F u.toNat) k9.toNat (eV (fE F u.toNat) k9.toNat).toNat) (by rw [hlb9]; exact hH2 _ (by omega)) ?_
                refine lv_aload_n S0.1 S0.2.1 dX11_unlike_148 rfl (lv_at hl 4 rfl) ?_
                refine q_get (C := RX11) (T := TX11) (N := 26) S0 hK hW.1 hinX11 1 rfl rfl 20 (by decide) (List.mem_of_getElem? (i := 1) rfl) rfl rfl dX11_unlike_149 ?_
                refine lv_aload_n S0.1 S0.2.1 dX11_unlike_152 rfl (lv_at hl 4 rfl) ?_
                refine q_get (C := RX11) (T := TX11) (N := 26) S0 hK hW.1 hinX11 1 rfl rfl 19 (by decide) (List.mem_of_getElem? (i := 3) rfl) rfl rfl dX11_unlike_153 ?_
                refine lv_iload S0.1 S0.2.1 dX11_unlike_156 (lv_at hl 1 rfl) ?_
                refine q_iald S0 hK hW.1 4 rfl (by omega) dX11_unlike_158 ?_
                refine q_iald S0 hK hW.1 0 rfl (by omega) dX11_unlike_159 ?_
                refine q_topI (b := shs (fE F u.toNat) k9.toNat (eV (fE F u.toNat) m9.toNat).toNat) (by rw [hlbm]; exact hH2 _ (by omega)) ?_
                refine q_icmp_ne (tgt := 167) S0 (by omega) dX11_unlike_160 (by decide) (fun c160 => ?_) (fun c160 => ?_)
                · skip
                  refine q_iconst S0 dX11_unlike_167 ?_
                  refine W.eq (g2 := F0 m 168 ls (.int (iI (if ali (fE F u.toNat) (shs (fE F u.toNat) k9.toNat) m9.toNat k9.toNat then (1 : Int) else 0)) :: [])) (by rw [show (if ali (fE F u.toNat) (shs (fE F u.toNat) k9.toNat) m9.toNat k9.toNat then (1 : Int) else 0) = 0 from if_neg (by omega)]) ?_
                  exact hJ122 () trivial
                · skip
                  refine q_iconst S0 dX11_unlike_163 ?_
                  refine lv_goto (tgt := 168) S0.1 S0.2.1 dX11_unlike_164 (by decide) ?_
                  refine W.eq (g2 := F0 m 168 ls (.int (iI (if ali (fE F u.toNat) (shs (fE F u.toNat) k9.toNat) m9.toNat k9.toNat then (1 : Int) else 0)) :: [])) (by rw [show (if ali (fE F u.toNat) (shs (fE F u.toNat) k9.toNat) m9.toNat k9.toNat then (1 : Int) else 0) = 1 from if_pos (by omega)]) ?_
                  exact hJ122 () trivial
        · skip
          refine lv_iload S0.1 S0.2.1 dX11_unlike_74 (lv_at hl 0 rfl) ?_
          refine q_if_eqP (tgt := 119) S0 dX11_unlike_76 (by decide) (fun c76 => ?_) (fun c76 => ?_)
          · skip
            refine q_iconst S0 dX11_unlike_119 ?_
            refine W.eq (g2 := F0 m 120 ls (.int (iI (if (eK (fE F u.toNat) m9.toNat = eK (fE F u.toNat) k9.toNat ∧ eU (fE F u.toNat) m9.toNat = eU (fE F u.toNat) k9.toNat) ∧ (eL (fE F u.toNat) k9.toNat = -1 ∨ shs (fE F u.toNat) k9.toNat (eL (fE F u.toNat) k9.toNat).toNat = shs (fE F u.toNat) k9.toNat (eL (fE F u.toNat) m9.toNat).toNat) then (1 : Int) else 0)) :: [])) (by rw [show (if (eK (fE F u.toNat) m9.toNat = eK (fE F u.toNat) k9.toNat ∧ eU (fE F u.toNat) m9.toNat = eU (fE F u.toNat) k9.toNat) ∧ (eL (fE F u.toNat) k9.toNat = -1 ∨ shs (fE F u.toNat) k9.toNat (eL (fE F u.toNat) k9.toNat).toNat = shs (fE F u.toNat) k9.toNat (eL (fE F u.toNat) m9.toNat).toNat) then (1 : Int) else 0) = 0 from if_neg (by omega)]) ?_
            exact hJ74 () trivial
          · skip
            have hlb2 := lm_L hEm hE9 c76.1
            refine lv_aload_n S0.1 S0.2.1 dX11_unlike_79 rfl (lv_at hl 4 rfl) ?_
            refine q_get (C := RX11) (T := TX11) (N := 26) S0 hK hW.1 hinX11 1 rfl rfl 18 (by decide) (List.mem_of_getElem? (i := 2) rfl) rfl rfl dX11_unlike_80 ?_
            refine lv_iload_n S0.1 S0.2.1 dX11_unlike_83 rfl (lv_at hl 2 rfl) ?_
            refine q_iald S0 hK hW.1 3 rfl (by omega) dX11_unlike_84 ?_
            refine q_iconst S0 dX11_unlike_85 ?_
            refine q_icmp_eq (tgt := 115) S0 (by omega) dX11_unlike_86 (by decide) (fun c86 => ?_) (fun c86 => ?_)
            · skip
              refine q_iconst S0 dX11_unlike_115 ?_
              refine lv_goto (tgt := 120) S0.1 S0.2.1 dX11_unlike_116 (by decide) ?_
              refine W.eq (g2 := F0 m 120 ls (.int (iI (if (eK (fE F u.toNat) m9.toNat = eK (fE F u.toNat) k9.toNat ∧ eU (fE F u.toNat) m9.toNat = eU (fE F u.toNat) k9.toNat) ∧ (eL (fE F u.toNat) k9.toNat = -1 ∨ shs (fE F u.toNat) k9.toNat (eL (fE F u.toNat) k9.toNat).toNat = shs (fE F u.toNat) k9.toNat (eL (fE F u.toNat) m9.toNat).toNat) then (1 : Int) else 0)) :: [])) (by rw [show (if (eK (fE F u.toNat) m9.toNat = eK (fE F u.toNat) k9.toNat ∧ eU (fE F u.toNat) m9.toNat = eU (fE F u.toNat) k9.toNat) ∧ (eL (fE F u.toNat) k9.toNat = -1 ∨ shs (fE F u.toNat) k9.toNat (eL (fE F u.toNat) k9.toNat).toNat = shs (fE F u.toNat) k9.toNat (eL (fE F u.toNat) m9.toNat).toNat) then (1 : Int) else 0) = 1 from if_pos (by omega)]) ?_
              exact hJ74 () trivial
            · skip
              refine lv_aload_n S0.1 S0.2.1 dX11_unlike_89 rfl (lv_at hl 4 rfl) ?_
              refine q_get (C := RX11) (T := TX11) (N := 26) S0 hK hW.1 hinX11 1 rfl rfl 20 (by decide) (List.mem_of_getElem? (i := 1) rfl) rfl rfl dX11_unlike_90 ?_
              refine lv_aload_n S0.1 S0.2.1 dX11_unlike_93 rfl (lv_at hl 4 rfl) ?_
              refine q_get (C := RX11) (T := TX11) (N := 26) S0 hK hW.1 hinX11 1 rfl rfl 18 (by decide) (List.mem_of_getElem? (i := 2) rfl) rfl rfl dX11_unlike_94 ?_
              refine lv_iload_n S0.1 S0.2.1 dX11_unlike_97 rfl (lv_at hl 2 rfl) ?_
              refine q_iald S0 hK hW.1 3 rfl (by omega) dX11_unlike_98 ?_
              refine q_iald S0 hK hW.1 0 rfl (by omega) dX11_unlike_99 ?_
              refine q_topI (b := shs (fE F u.toNat) k9.toNat (eL (fE F u.toNat) k9.toNat).toNat) (by rw [hla9]; exact hH2 _ (by omega)) ?_
              refine lv_aload_n S0.1 S0.2.1 dX11_unlike_100 rfl (lv_at hl 4 rfl) ?_
              refine q_get (C := RX11) (T := TX11) (N := 26) S0 hK hW.1 hinX11 1 rfl rfl 20 (by decide) (List.mem_of_getElem? (i := 1) rfl) rfl rfl dX11_unlike_101 ?_
              refine lv_aload_n S0.1 S0.2.1 dX11_unlike_104 rfl (lv_at hl 4 rfl) ?_
              refine q_get (C := RX11) (T := TX11) (N := 26) S0 hK hW.1 hinX11 1 rfl rfl 18 (by decide) (List.mem_of_getElem? (i := 2) rfl) rfl rfl dX11_unlike_105 ?_
              refine lv_iload S0.1 S0.2.1 dX11_unlike_108 (lv_at hl 1 rfl) ?_
              refine q_iald S0 hK hW.1 3 rfl (by omega) dX11_unlike_110 ?_
              refine q_iald S0 hK hW.1 0 rfl (by omega) dX11_unlike_111 ?_
              refine q_topI (b := shs (fE F u.toNat) k9.toNat (eL (fE F u.toNat) m9.toNat).toNat) (by rw [hlam]; exact hH2 _ (by omega)) ?_
              refine q_icmp_ne (tgt := 119) S0 (by omega) dX11_unlike_112 (by decide) (fun c112 => ?_) (fun c112 => ?_)
              · skip
                refine q_iconst S0 dX11_unlike_119 ?_
                refine W.eq (g2 := F0 m 120 ls (.int (iI (if (eK (fE F u.toNat) m9.toNat = eK (fE F u.toNat) k9.toNat ∧ eU (fE F u.toNat) m9.toNat = eU (fE F u.toNat) k9.toNat) ∧ (eL (fE F u.toNat) k9.toNat = -1 ∨ shs (fE F u.toNat) k9.toNat (eL (fE F u.toNat) k9.toNat).toNat = shs (fE F u.toNat) k9.toNat (eL (fE F u.toNat) m9.toNat).toNat) then (1 : Int) else 0)) :: [])) (by rw [show (if (eK (fE F u.toNat) m9.toNat = eK (fE F u.toNat) k9.toNat ∧ eU (fE F u.toNat) m9.toNat = eU (fE F u.toNat) k9.toNat) ∧ (eL (fE F u.toNat) k9.toNat = -1 ∨ shs (fE F u.toNat) k9.toNat (eL (fE F u.toNat) k9.toNat).toNat = shs (fE F u.toNat) k9.toNat (eL (fE F u.toNat) m9.toNat).toNat) then (1 : Int) else 0) = 0 from if_neg (by omega)]) ?_
                exact hJ74 () trivial
              · skip
                refine q_iconst S0 dX11_unlike_115 ?_
                refine lv_goto (tgt := 120) S0.1 S0.2.1 dX11_unlike_116 (by decide) ?_
                refine W.eq (g2 := F0 m 120 ls (.int (iI (if (eK (fE F u.toNat) m9.toNat = eK (fE F u.toNat) k9.toNat ∧ eU (fE F u.toNat) m9.toNat = eU (fE F u.toNat) k9.toNat) ∧ (eL (fE F u.toNat) k9.toNat = -1 ∨ shs (fE F u.toNat) k9.toNat (eL (fE F u.toNat) k9.toNat).toNat = shs (fE F u.toNat) k9.toNat (eL (fE F u.toNat) m9.toNat).toNat) then (1 : Int) else 0)) :: [])) (by rw [show (if (eK (fE F u.toNat) m9.toNat = eK (fE F u.toNat) k9.toNat ∧ eU (fE F u.toNat) m9.toNat = eU (fE F u.toNat) k9.toNat) ∧ (eL (fE F u.toNat) k9.toNat = -1 ∨ shs (fE F u.toNat) k9.toNat (eL (fE F u.toNat) k9.toNat).toNat = shs (fE F u.toNat) k9.toNat (eL (fE F u.toNat) m9.toNat).toNat) then (1 : Int) else 0) = 1 from if_pos (by omega)]) ?_
                exact hJ74 () trivial
      · skip
        refine lv_aload_n S0.1 S0.2.1 dX11_unlike_35 rfl (lv_at hl 3 rfl) ?_
        refine lv_iload_n S0.1 S0.2.1 dX11_unlike_36 rfl (lv_at hl 4 rfl) ?_
        refine lv_iload S0.1 S0.2.1 dX11_unlike_37 (lv_at hl 0 rfl) ?_
        refine q_pV (n := 2) (rest := []) S0 hK (c_X11_kind l g mo az ap ak ax a1 a2 a3 a4 a5 a6 v1 v2 v3 v4 v5 v6 pm ik ty th mn wt bn wh dp dg Z u m9 (hu) (by omega)) (subP hW.1 [1, 2] rfl) (trivial) gX11_unlike_X11_kind rfl rfl rfl (by decide +kernel) ⟨Nat.le_of_ble_eq_true rfl, Nat.le_of_ble_eq_true rfl⟩ (q_recv hK hW.1 (ci := 11) (q0 := 1) rfl rfl) rfl rfl hl.1 (Nat.le_of_ble_eq_true rfl) ⟨Nat.le_of_ble_eq_true rfl, Nat.le_of_ble_eq_true rfl⟩ dX11_unlike_39 ?_
        refine W.eq (g2 := F0 m 42 ls [.int (iI (Z (2 + 81 * u + 2 * m9).toNat))]) rfl ?_
        refine q_nm (fun ka hka => ?_)
        rw [((hz.2 u hu).2 (m9) (by omega)).1] at hka
        refine lv_aload_n S0.1 S0.2.1 dX11_unlike_42 rfl (lv_at hl 3 rfl) ?_
        refine lv_iload_n S0.1 S0.2.1 dX11_unlike_43 rfl (lv_at hl 4 rfl) ?_
        refine lv_iload_n S0.1 S0.2.1 dX11_unlike_44 rfl (lv_at hl 1 rfl) ?_
        refine q_pV (n := 2) (rest := [.int (iI ka)]) S0 hK (c_X11_kind l g mo az ap ak ax a1 a2 a3 a4 a5 a6 v1 v2 v3 v4 v5 v6 pm ik ty th mn wt bn wh dp dg Z u k9 (hu) (by omega)) (subP hW.1 [1, 2] rfl) (trivial) gX11_unlike_X11_kind rfl rfl rfl (by decide +kernel) ⟨Nat.le_of_ble_eq_true rfl, Nat.le_of_ble_eq_true rfl⟩ (q_recv hK hW.1 (ci := 11) (q0 := 1) rfl rfl) rfl rfl hl.1 (Nat.le_of_ble_eq_true rfl) ⟨Nat.le_of_ble_eq_true rfl, Nat.le_of_ble_eq_true rfl⟩ dX11_unlike_45 ?_
        refine W.eq (g2 := F0 m 48 ls [.int (iI (Z (2 + 81 * u + 2 * k9).toNat)), .int (iI ka)]) rfl ?_
        refine q_nm (fun kb hkb => ?_)
        rw [((hz.2 u hu).2 (k9) (by omega)).1] at hkb
        have hca := kc_cases (WFK_K hEm)
        have hcb := kc_cases (WFK_K hE9)
        refine q_icmp_ne (tgt := 71) S0 (by omega) dX11_unlike_48 (by decide) (fun c48 => ?_) (fun c48 => ?_)
        · skip
          refine q_iconst S0 dX11_unlike_71 ?_
          refine W.eq (g2 := F0 m 72 ls (.int (iI (if eK (fE F u.toNat) m9.toNat = eK (fE F u.toNat) k9.toNat ∧ eU (fE F u.toNat) m9.toNat = eU (fE F u.toNat) k9.toNat then (1 : Int) else 0)) :: [])) (by rw [show (if eK (fE F u.toNat) m9.toNat = eK (fE F u.toNat) k9.toNat ∧ eU (fE F u.toNat) m9.toNat = eU (fE F u.toNat) k9.toNat then (1 : Int) else 0) = 0 from if_neg (by omega)]) ?_
          exact hJ35 () trivial
        · skip
          refine lv_aload_n S0.1 S0.2.1 dX11_unlike_51 rfl (lv_at hl 3 rfl) ?_
          refine lv_iload_n S0.1 S0.2.1 dX11_unlike_52 rfl (lv_at hl 4 rfl) ?_
          refine lv_iload S0.1 S0.2.1 dX11_unlike_53 (lv_at hl 0 rfl) ?_
          refine q_pV (n := 2) (rest := []) S0 hK (c_X11_number l g mo az ap ak ax a1 a2 a3 a4 a5 a6 v1 v2 v3 v4 v5 v6 pm ik ty th mn wt bn wh dp dg Z u m9 (hu) (by omega)) (subP hW.1 [1, 2] rfl) (trivial) gX11_unlike_X11_number rfl rfl rfl (by decide +kernel) ⟨Nat.le_of_ble_eq_true rfl, Nat.le_of_ble_eq_true rfl⟩ (q_recv hK hW.1 (ci := 11) (q0 := 1) rfl rfl) rfl rfl hl.1 (Nat.le_of_ble_eq_true rfl) ⟨Nat.le_of_ble_eq_true rfl, Nat.le_of_ble_eq_true rfl⟩ dX11_unlike_55 ?_
          refine W.eq (g2 := F0 m 58 ls [.int (iI (Z (3 + 81 * u + 2 * m9).toNat))]) rfl ?_
          refine q_nm (fun na hna => ?_)
          rw [((hz.2 u hu).2 (m9) (by omega)).2] at hna
          refine lv_aload_n S0.1 S0.2.1 dX11_unlike_58 rfl (lv_at hl 3 rfl) ?_
          refine lv_iload_n S0.1 S0.2.1 dX11_unlike_59 rfl (lv_at hl 4 rfl) ?_
          refine lv_iload_n S0.1 S0.2.1 dX11_unlike_60 rfl (lv_at hl 1 rfl) ?_
          refine q_pV (n := 2) (rest := [.int (iI na)]) S0 hK (c_X11_number l g mo az ap ak ax a1 a2 a3 a4 a5 a6 v1 v2 v3 v4 v5 v6 pm ik ty th mn wt bn wh dp dg Z u k9 (hu) (by omega)) (subP hW.1 [1, 2] rfl) (trivial) gX11_unlike_X11_number rfl rfl rfl (by decide +kernel) ⟨Nat.le_of_ble_eq_true rfl, Nat.le_of_ble_eq_true rfl⟩ (q_recv hK hW.1 (ci := 11) (q0 := 1) rfl rfl) rfl rfl hl.1 (Nat.le_of_ble_eq_true rfl) ⟨Nat.le_of_ble_eq_true rfl, Nat.le_of_ble_eq_true rfl⟩ dX11_unlike_61 ?_
          refine W.eq (g2 := F0 m 64 ls [.int (iI (Z (3 + 81 * u + 2 * k9).toNat)), .int (iI na)]) rfl ?_
          refine q_nm (fun nb hnb => ?_)
          rw [((hz.2 u hu).2 (k9) (by omega)).2] at hnb
          refine q_icmp_ne (tgt := 71) S0 (by omega) dX11_unlike_64 (by decide) (fun c64 => ?_) (fun c64 => ?_)
          · skip
            refine q_iconst S0 dX11_unlike_71 ?_
            refine W.eq (g2 := F0 m 72 ls (.int (iI (if eK (fE F u.toNat) m9.toNat = eK (fE F u.toNat) k9.toNat ∧ eU (fE F u.toNat) m9.toNat = eU (fE F u.toNat) k9.toNat then (1 : Int) else 0)) :: [])) (by rw [show (if eK (fE F u.toNat) m9.toNat = eK (fE F u.toNat) k9.toNat ∧ eU (fE F u.toNat) m9.toNat = eU (fE F u.toNat) k9.toNat then (1 : Int) else 0) = 0 from if_neg (by omega)]) ?_
            exact hJ35 () trivial
          · skip
            refine q_iconst S0 dX11_unlike_67 ?_
            refine lv_goto (tgt := 72) S0.1 S0.2.1 dX11_unlike_68 (by decide) ?_
            refine W.eq (g2 := F0 m 72 ls (.int (iI (if eK (fE F u.toNat) m9.toNat = eK (fE F u.toNat) k9.toNat ∧ eU (fE F u.toNat) m9.toNat = eU (fE F u.toNat) k9.toNat then (1 : Int) else 0)) :: [])) (by rw [show (if eK (fE F u.toNat) m9.toNat = eK (fE F u.toNat) k9.toNat ∧ eU (fE F u.toNat) m9.toNat = eU (fE F u.toNat) k9.toNat then (1 : Int) else 0) = 1 from if_pos (by omega)]) ?_
            exact hJ35 () trivial
