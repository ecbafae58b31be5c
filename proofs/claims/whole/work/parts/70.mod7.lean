def rkV (F : FT) (u nu gu gw : Int) (k : Nat) : Int :=
  if eK (fE F u.toNat) k = 99 then vv (fP F) (fE F) nu.toNat gu
  else if eK (fE F u.toNat) k = 48 then nu % fP F
  else if eK (fE F u.toNat) k = 110 then (0 - gu) % fP F
  else if eK (fE F u.toNat) k = 43 then (gu + gw) % fP F
  else if eK (fE F u.toNat) k = 45 then (gu - gw) % fP F
  else if eK (fE F u.toNat) k = 42 then gu * gw % fP F
  else if eK (fE F u.toNat) k = 47 then (if gw = 0 then -1 else gu * inv' (fP F) gw % fP F)
  else if eK (fE F u.toNat) k = 94 then gu ^ nu.toNat % fP F
  else -1
def rkS (F : FT) (u nu gu gw su sw : Int) (k : Nat) : Int :=
  if eK (fE F u.toNat) k = 110 then (0 - su) % fP F
  else if eK (fE F u.toNat) k = 43 then (su + sw) % fP F
  else if eK (fE F u.toNat) k = 45 then (su - sw) % fP F
  else if eK (fE F u.toNat) k = 42 then (su * gw + gu * sw) % fP F
  else if eK (fE F u.toNat) k = 47 then ((su * gw - gu * sw) % fP F) * inv' (fP F) (gw * gw % fP F) % fP F
  else if eK (fE F u.toNat) k = 94 then (nu * (gu ^ (nu - 1).toNat % fP F) % fP F) * su % fP F
  else if eK (fE F u.toNat) k = 99 then hh (fP F) (fE F) nu.toNat gu * su % fP F
  else 0
theorem nv0_rk {F : FT} {u : Int} {W : Nat → Int} {k : Nat} (h : ¬ eK (fE F u.toNat) k = 120) : nv0 F u W k = rkV F u (eU (fE F u.toNat) k) (gv W (eL (fE F u.toNat) k)) (gv W (eV (fE F u.toNat) k)) k := by
  unfold nv0 nvl nvn rkV
  simp only [if_neg h]
theorem ns0_rk {F : FT} {u : Int} {W S : Nat → Int} {k : Nat} (h : ¬ eK (fE F u.toNat) k = 120) : ns0 F u W S k = if nv0 F u W k = -1 then 0 else rkS F u (eU (fE F u.toNat) k) (gv W (eL (fE F u.toNat) k)) (gv W (eV (fE F u.toNat) k)) (gv S (eL (fE F u.toNat) k)) (gv S (eV (fE F u.toNat) k)) k := by
  unfold ns0 nsl rkS
  simp only [if_neg h]
theorem zb_mod {e p : Int} (h : 0 < p) : zb (e % p) = e % p := by
  have := emod_rng e h
  unfold zb
  rw [if_neg (by omega)]
theorem mod_ne {e p : Int} (h : 0 < p) : ¬ e % p = -1 := by
  have := emod_rng e h
  omega
theorem FI_x {F : FT} (h : GF F) {u x sx i b : Int} {W S : Nat → Int} (hu : 0 ≤ u ∧ u < 4) (hi : 0 ≤ i ∧ i < eN (fE F u.toNat)) (hx : 0 ≤ x ∧ x < fP F) (hsx : 0 ≤ sx ∧ sx < fP F) (hF : FI F u x sx i W S b) (hk : eK (fE F u.toNat) i.toNat = 120) : FI F u x sx (i + 1) (up W i.toNat x) (up S i.toNat sx) b := by
  have e : nvl (fP F) (fE F u.toNat) (vv (fP F) (fE F)) x W i.toNat = x := by
    unfold nvl nvn
    rw [if_neg (by omega), if_neg (by omega), if_pos hk]
  refine FI_next h hu hi hx hsx hF (by rw [e]; unfold zb; rw [if_neg (by omega)]) (fun _ => by unfold nsl; rw [if_pos hk]) hx hsx ?_
  rw [e]
  rcases hF.1 with q | q
  · rw [if_neg (by omega), q]
  · rw [if_pos (Or.inl q), q]
theorem nv0_rng {F : FT} (h : GF F) {u x i b : Int} {sx : Int} {W S : Nat → Int} (hu : 0 ≤ u ∧ u < 4) (hi : 0 ≤ i ∧ i < eN (fE F u.toNat)) (hF : FI F u x sx i W S b) : nv0 F u W i.toNat = -1 ∨ (0 ≤ nv0 F u W i.toNat ∧ nv0 F u W i.toNat < fP F) := by
  have hp := GF_p h
  have hE := (h.2 u.toNat (by omega)).2.1 i.toNat (by omega)
  have hn := (h.2 u.toNat (by omega)).1
  have hU := WFK_U hE (by omega)
  have gu := gv_rng (w := W) (p := fP F) (i := eL (fE F u.toNat) i.toNat) (k := i.toNat) (by omega) (fun j hj => (hF.2.2.2 j (by omega)).1) (by omega) (WFK_L hE)
  unfold nv0 nvl
  split
  · rename_i h9
    have := hU.2.2.2 h9
    exact GF_vv h (u := eU (fE F u.toNat) i.toNat) (by omega) gu
  · exact nvn_rng (by omega) (by omega)
theorem FI_r {F : FT} (h : GF F) {u x sx i b : Int} {W S : Nat → Int} (hu : 0 ≤ u ∧ u < 4) (hi : 0 ≤ i ∧ i < eN (fE F u.toNat)) (hx : 0 ≤ x ∧ x < fP F) (hsx : 0 ≤ sx ∧ sx < fP F) (hF : FI F u x sx i W S b) (hk : ¬ eK (fE F u.toNat) i.toNat = 120) : FI F u x sx (i + 1) (up W i.toNat (zb (nv0 F u W i.toNat))) (up S i.toNat (ns0 F u W S i.toNat)) (if b = 1 ∨ nv0 F u W i.toNat = -1 then 1 else 0) := by
  have hp := GF_p h
  have r := nv0_rng h hu hi hF
  have e := nv0_eq (F := F) (u := u) (x := x) (W := W) (k := i.toNat) hk
  refine FI_next h hu hi hx hsx hF (by rw [← e]) (fun q => ?_) ?_ ?_ (by rw [← e])
  · unfold ns0
    rw [if_neg (by rw [e]; exact q)]
    exact nsl_sx hk
  · unfold zb
    split <;> omega
  · unfold ns0
    split
    · omega
    · exact nsl_rng (by omega) (by omega)

set_option maxHeartbeats 4000000 in
set_option maxRecDepth 100000 in
theorem c_X11_reckons (l : Launch) (g : GG) (mo az ap ak ax a1 a2 a3 a4 a5 a6 v1 v2 v3 v4 v5 v6 : Nat) (pm ik ty th mn wt bn wh dp dg : Int) (Z : Nat → Int) (F : FT) (VT HT RU Wv Sv L V : Nat → Int) (u k : Int) (hG : GF F) (hz : ZR Z F) (hu : 0 ≤ u ∧ u < 4) (hk : 0 ≤ k ∧ k < eN (fE F u.toNat)) (hkx : ¬ eK (fE F u.toNat) k.toNat = 120) (hLk : L k.toNat = eL (fE F u.toNat) k.toNat) (hVk : V k.toNat = eV (fE F u.toNat) k.toNat) (hTB : TB F u VT HT RU) (hbn : bn = 0 ∨ bn = 1) (hw : ∀ j : Nat, (j : Int) < k → (0 ≤ Wv j ∧ Wv j < fP F) ∧ (0 ≤ Sv j ∧ Sv j < fP F)) : qMet l yX11_reckons wsX11_reckons ({ frames := 2, cells := 0, slots := 0, locals := 46 }) g [.ref mo, .int (iI u), .int (iI k)] [(mo, .inr (11, [.ref az, .ref ap, .int (iI pm), .ref ak, .int (iI ik), .ref ax, .int (iI ty), .int (iI th), .ref a1, .ref a2, .int (iI mn), .ref a3, .int (iI wt), .ref a4, .ref a5, .ref a6, .ref v1, .ref v2, .ref v3, .ref v4, .ref v5, .ref v6, .int (iI bn), .int (iI wh), .int (iI dp), .int (iI dg)])), (az, gI g 325 Z), (a4, gI g 796 VT), (a5, gI g 796 HT), (v1, gI g 41 Wv), (v2, gI g 41 Sv), (v3, gI g 41 L), (v4, gI g 41 V)] (fun _ => True) (fun _ => True) (S := Unit) (fun _ => none) (fun _ => [(mo, .inr (11, [.ref az, .ref ap, .int (iI pm), .ref ak, .int (iI ik), .ref ax, .int (iI ty), .int (iI th), .ref a1, .ref a2, .int (iI mn), .ref a3, .int (iI wt), .ref a4, .ref a5, .ref a6, .ref v1, .ref v2, .ref v3, .ref v4, .ref v5, .ref v6, .int (iI (if bn = 1 ∨ nv0 F u Wv k.toNat = -1 then 1 else 0)), .int (iI wh), .int (iI dp), .int (iI dg)])), (az, gI g 325 Z), (a4, gI g 796 VT), (a5, gI g 796 HT), (v1, gI g 41 (up Wv k.toNat (zb (nv0 F u Wv k.toNat)))), (v2, gI g 41 (up Sv k.toNat (ns0 F u Wv Sv k.toNat))), (v3, gI g 41 L), (v4, gI g 41 V)]) (fun _ => True) 0 0 := by
  refine q_ofW (cc := cX11_reckons) (maxL := 10) (ret := none) (fun sz h => h.self) (by decide) rfl (Nat.le_of_ble_eq_true rfl) ?_
  intro p e s m args below meth c A ls S0 hr hlocks hnme hK hA hAe hW hD0 hX hl
  have hW : gW g A s.heap s.heap [] [(mo, .inr (11, [.ref az, .ref ap, .int (iI pm), .ref ak, .int (iI ik), .ref ax, .int (iI ty), .int (iI th), .ref a1, .ref a2, .int (iI mn), .ref a3, .int (iI wt), .ref a4, .ref a5, .ref a6, .ref v1, .ref v2, .ref v3, .ref v4, .ref v5, .ref v6, .int (iI bn), .int (iI wh), .int (iI dp), .int (iI dg)])), (az, gI g 325 Z), (a4, gI g 796 VT), (a5, gI g 796 HT), (v1, gI g 41 Wv), (v2, gI g 41 Sv), (v3, gI g 41 L), (v4, gI g 41 V)] := hW
  have hl : lv_has ls 10 [(0, .ref mo), (1, .int (iI u)), (2, .int (iI k))] := hl
  have hinX11 : ∀ w ∈ wsX110, w ∈ wsX11_reckons := fun w h => List.mem_cons_of_mem _ (List.mem_append_right _ h)
  have hpr := GF_p hG
  have hE9 := (hG.2 u.toNat (by omega)).2.1 k.toNat (by omega)
  have hn40 := (hG.2 u.toNat (by omega)).1
  have hL9 := WFK_L hE9
  have hV9 := WFK_V hE9
  have hU9 := WFK_U hE9 (by omega)
  have hK9 := WFK_K hE9
  refine lv_aload_n S0.1 S0.2.1 dX11_reckons_0 rfl (lv_at hl 0 rfl) ?_
  refine lv_iload_n S0.1 S0.2.1 dX11_reckons_1 rfl (lv_at hl 1 rfl) ?_
  refine lv_iload_n S0.1 S0.2.1 dX11_reckons_2 rfl (lv_at hl 2 rfl) ?_
  refine q_pV (n := 2) (rest := []) S0 hK (c_X11_kind l g mo az ap ak ax a1 a2 a3 a4 a5 a6 v1 v2 v3 v4 v5 v6 pm ik ty th mn wt bn wh dp dg Z u k (hu) (by omega)) (subP hW.1 [0, 1] rfl) (trivial) gX11_reckons_X11_kind rfl rfl rfl (by decide +kernel) ⟨Nat.le_of_ble_eq_true rfl, Nat.le_of_ble_eq_true rfl⟩ (q_recv hK hW.1 (ci := 11) (q0 := 0) rfl rfl) rfl rfl hl.1 (Nat.le_of_ble_eq_true rfl) ⟨Nat.le_of_ble_eq_true rfl, Nat.le_of_ble_eq_true rfl⟩ dX11_reckons_3 ?_
  refine W.eq (g2 := F0 m 6 ls [.int (iI (Z (2 + 81 * u + 2 * k).toNat))]) rfl ?_
  refine q_nm (fun kd hkd => ?_)
  rw [((hz.2 u hu).2 (k) (by omega)).1] at hkd
  refine lv_istore_n (lv' := [(3, .int (iI kd)), (0, .ref mo), (1, .int (iI u)), (2, .int (iI k))]) S0.1 S0.2.1 dX11_reckons_6 rfl hl (by decide) rfl (fun ls hl => ?_)
  refine lv_aload_n S0.1 S0.2.1 dX11_reckons_7 rfl (lv_at hl 1 rfl) ?_
  refine lv_iload_n S0.1 S0.2.1 dX11_reckons_8 rfl (lv_at hl 2 rfl) ?_
  refine lv_iload_n S0.1 S0.2.1 dX11_reckons_9 rfl (lv_at hl 3 rfl) ?_
  refine q_pV (n := 2) (rest := []) S0 hK (c_X11_number l g mo az ap ak ax a1 a2 a3 a4 a5 a6 v1 v2 v3 v4 v5 v6 pm ik ty th mn wt bn wh dp dg Z u k (hu) (by omega)) (subP hW.1 [0, 1] rfl) (trivial) gX11_reckons_X11_number rfl rfl rfl (by decide +kernel) ⟨Nat.le_of_ble_eq_true rfl, Nat.le_of_ble_eq_true rfl⟩ (q_recv hK hW.1 (ci := 11) (q0 := 0) rfl rfl) rfl rfl hl.1 (Nat.le_of_ble_eq_true rfl) ⟨Nat.le_of_ble_eq_true rfl, Nat.le_of_ble_eq_true rfl⟩ dX11_reckons_10 ?_
  refine W.eq (g2 := F0 m 13 ls [.int (iI (Z (3 + 81 * u + 2 * k).toNat))]) rfl ?_
  refine q_nm (fun nu hnu => ?_)
  rw [((hz.2 u hu).2 (k) (by omega)).2] at hnu
  refine lv_istore (lv' := [(4, .int (iI nu)), (3, .int (iI kd)), (0, .ref mo), (1, .int (iI u)), (2, .int (iI k))]) S0.1 S0.2.1 dX11_reckons_13 hl (by decide) rfl (fun ls hl => ?_)
  have hkk := kc_cases hK9
  rw [← hkd] at hkk
  refine q_cut (α := Int) (fun gu => F0 m 40 ls (.int (iI gu) :: [])) (fun gu => gu = gv Wv (eL (fE F u.toNat) k.toNat)) (fun gu hgu => ?_) (fun hJ15 => ?_)
  · skip
    refine lv_istore (lv' := [(5, .int (iI gu)), (4, .int (iI nu)), (3, .int (iI kd)), (0, .ref mo), (1, .int (iI u)), (2, .int (iI k))]) S0.1 S0.2.1 dX11_reckons_40 hl (by decide) rfl (fun ls hl => ?_)
    refine q_cut (α := Int) (fun su => F0 m 67 ls (.int (iI su) :: [])) (fun su => su = gv Sv (eL (fE F u.toNat) k.toNat)) (fun su hsu => ?_) (fun hJ42 => ?_)
    · skip
      refine lv_istore (lv' := [(6, .int (iI su)), (5, .int (iI gu)), (4, .int (iI nu)), (3, .int (iI kd)), (0, .ref mo), (1, .int (iI u)), (2, .int (iI k))]) S0.1 S0.2.1 dX11_reckons_67 hl (by decide) rfl (fun ls hl => ?_)
      refine q_cut (α := Int) (fun gw => F0 m 94 ls (.int (iI gw) :: [])) (fun gw => gw = gv Wv (eV (fE F u.toNat) k.toNat)) (fun gw hgw => ?_) (fun hJ69 => ?_)
      · skip
        refine lv_istore (lv' := [(7, .int (iI gw)), (6, .int (iI su)), (5, .int (iI gu)), (4, .int (iI nu)), (3, .int (iI kd)), (0, .ref mo), (1, .int (iI u)), (2, .int (iI k))]) S0.1 S0.2.1 dX11_reckons_94 hl (by decide) rfl (fun ls hl => ?_)
        refine q_cut (α := Int) (fun sw => F0 m 121 ls (.int (iI sw) :: [])) (fun sw => sw = gv Sv (eV (fE F u.toNat) k.toNat)) (fun sw hsw => ?_) (fun hJ96 => ?_)
        · skip
          refine lv_istore (lv' := [(8, .int (iI sw)), (7, .int (iI gw)), (6, .int (iI su)), (5, .int (iI gu)), (4, .int (iI nu)), (3, .int (iI kd)), (0, .ref mo), (1, .int (iI u)), (2, .int (iI k))]) S0.1 S0.2.1 dX11_reckons_121 hl (by decide) rfl (fun ls hl => ?_)
          have rgu := gv_rng (w := Wv) (p := fP F) (i := eL (fE F u.toNat) k.toNat) (k := k.toNat) (by omega) (fun j hj => (hw j (by omega)).1) (by omega) hL9
          have rsu := gv_rng (w := Sv) (p := fP F) (i := eL (fE F u.toNat) k.toNat) (k := k.toNat) (by omega) (fun j hj => (hw j (by omega)).2) (by omega) hL9
          have rgw := gv_rng (w := Wv) (p := fP F) (i := eV (fE F u.toNat) k.toNat) (k := k.toNat) (by omega) (fun j hj => (hw j (by omega)).1) (by omega) hV9
          have rsw := gv_rng (w := Sv) (p := fP F) (i := eV (fE F u.toNat) k.toNat) (k := k.toNat) (by omega) (fun j hj => (hw j (by omega)).2) (by omega) hV9
          rw [← hgu] at rgu
          rw [← hsu] at rsu
          rw [← hgw] at rgw
          rw [← hsw] at rsw
          rw [← hnu] at hU9
          have hnv0 : nv0 F u Wv k.toNat = rkV F u nu gu gw k.toNat := by rw [hnu, hgu, hgw]; exact nv0_rk hkx
          have hns0 : ns0 F u Wv Sv k.toNat = if nv0 F u Wv k.toNat = -1 then 0 else rkS F u nu gu gw su sw k.toNat := by rw [hnu, hgu, hgw, hsu, hsw]; exact ns0_rk hkx
          rw [hnv0] at hns0
          refine lv_iload_n S0.1 S0.2.1 dX11_reckons_123 rfl (lv_at hl 5 rfl) ?_
          refine q_if_ne (tgt := 149) S0 (by omega) dX11_reckons_124 (by decide) (fun c124 => ?_) (fun c124 => ?_)
          · skip
            refine lv_iload_n S0.1 S0.2.1 dX11_reckons_149 rfl (lv_at hl 5 rfl) ?_
            refine q_iconst S0 dX11_reckons_150 ?_
            refine q_icmp_ne (tgt := 183) S0 (by omega) dX11_reckons_151 (by decide) (fun c151 => ?_) (fun c151 => ?_)
            · skip
              refine lv_iload_n S0.1 S0.2.1 dX11_reckons_183 rfl (lv_at hl 5 rfl) ?_
              refine q_iconst S0 dX11_reckons_184 ?_
              refine q_icmp_ne (tgt := 221) S0 (by omega) dX11_reckons_185 (by decide) (fun c185 => ?_) (fun c185 => ?_)
              · skip
                refine lv_iload_n S0.1 S0.2.1 dX11_reckons_221 rfl (lv_at hl 5 rfl) ?_
                refine q_iconst S0 dX11_reckons_222 ?_
                refine q_icmp_ne (tgt := 259) S0 (by omega) dX11_reckons_223 (by decide) (fun c223 => ?_) (fun c223 => ?_)
                · skip
                  refine lv_iload_n S0.1 S0.2.1 dX11_reckons_259 rfl (lv_at hl 5 rfl) ?_
                  refine q_iconst S0 dX11_reckons_260 ?_
                  refine q_icmp_ne (tgt := 303) S0 (by omega) dX11_reckons_261 (by decide) (fun c261 => ?_) (fun c261 => ?_)
                  · skip
                    refine lv_iload_n S0.1 S0.2.1 dX11_reckons_303 rfl (lv_at hl 5 rfl) ?_
                    refine q_bipush S0 (by decide) dX11_reckons_304 ?_
                    refine q_icmp_ne (tgt := 400) S0 (by omega) dX11_reckons_306 (by decide) (fun c306 => ?_) (fun c306 => ?_)
                    · skip
                      refine lv_iload_n S0.1 S0.2.1 dX11_reckons_400 rfl (lv_at hl 5 rfl) ?_
                      refine q_bipush S0 (by decide) dX11_reckons_401 ?_
                      refine q_icmp_ne (tgt := 462) S0 (by omega) dX11_reckons_403 (by decide) (fun c403 => ?_) (fun c403 => ?_)
                      · skip
                        refine lv_iload_n S0.1 S0.2.1 dX11_reckons_462 rfl (lv_at hl 5 rfl) ?_
                        refine q_bipush S0 (by decide) dX11_reckons_463 ?_
                        refine q_icmp_ne (tgt := 569) S0 (by omega) dX11_reckons_465 (by decide) (fun c465 => ?_) (fun c465 => ?_)
                        · skip
                          exact absurd c465 (by omega)
                        · skip
                          refine q_sipush S0 (by decide) dX11_reckons_468 ?_
                          refine lv_iload S0.1 S0.2.1 dX11_reckons_471 (lv_at hl 4 rfl) ?_
                          refine q_imul S0 dX11_reckons_473 ?_
                          refine lv_iload S0.1 S0.2.1 dX11_reckons_474 (lv_at hl 3 rfl) ?_
                          refine q_iadd S0 dX11_reckons_476 ?_
                          refine lv_istore (lv' := [(9, .int (iI ((199 * nu) + gu))), (8, .int (iI sw)), (7, .int (iI gw)), (6, .int (iI su)), (5, .int (iI gu)), (4, .int (iI nu)), (3, .int (iI kd)), (0, .ref mo), (1, .int (iI u)), (2, .int (iI k))]) S0.1 S0.2.1 dX11_reckons_477 hl (by decide) rfl (fun ls hl => ?_)
                          refine lv_aload_n S0.1 S0.2.1 dX11_reckons_479 rfl (lv_at hl 7 rfl) ?_
                          have htb := hTB nu gu (by omega) (by omega) rgu.1 rgu.2
                          have hvr := GF_vv hG (u := nu) (x := gu) (by omega) rgu
                          have hhr := GF_hh hG (f := nu.toNat) (x := gu) (by omega)
                          have hbi := hh_bad_iff hG (f := nu.toNat) (x := gu) (by omega) rgu
                          refine q_cut (α := Int) (fun c9 => F0 m 503 ls (.int (iI c9) :: [.ref mo])) (fun c9 => c9 = if bn = 1 ∨ vv (fP F) (fE F) nu.toNat gu = -1 then (1 : Int) else 0) (fun c9 hc9 => ?_) (fun hJ480 => ?_)
                          · skip
                            refine q_put (C := RX11) (T := TX11) (N := 26) S0 hK hW hinX11 tyX11_ok nmX11 0 rfl rfl 22 (by decide) (List.mem_of_getElem? (i := 5) rfl) rfl rfl (by first | (rw [hb9]; split <;> rfl) | (rw [hc9]; split <;> rfl)) (by first | (rw [hb9]; split <;> rfl) | (rw [hc9]; split <;> rfl)) (Nat.le_of_ble_eq_true rfl) dX11_reckons_503 (fun H locs hW => ?_)
                            have hW : gW g A s.heap H _ [(mo, .inr (11, [.ref az, .ref ap, .int (iI pm), .ref ak, .int (iI ik), .ref ax, .int (iI ty), .int (iI th), .ref a1, .ref a2, .int (iI mn), .ref a3, .int (iI wt), .ref a4, .ref a5, .ref a6, .ref v1, .ref v2, .ref v3, .ref v4, .ref v5, .ref v6, .int (iI c9), .int (iI wh), .int (iI dp), .int (iI dg)])), (az, gI g 325 Z), (a4, gI g 796 VT), (a5, gI g 796 HT), (v1, gI g 41 Wv), (v2, gI g 41 Sv), (v3, gI g 41 L), (v4, gI g 41 V)] := hW
                            refine lv_aload_n S0.1 S0.2.1 dX11_reckons_506 rfl (lv_at hl 7 rfl) ?_
                            refine q_get (C := RX11) (T := TX11) (N := 26) S0 hK hW.1 hinX11 0 rfl rfl 16 (by decide) (List.mem_of_getElem? (i := 2) rfl) rfl rfl dX11_reckons_507 ?_
                            refine lv_iload_n S0.1 S0.2.1 dX11_reckons_510 rfl (lv_at hl 9 rfl) ?_
                            refine q_cut (α := Int) (fun v9 => F0 m 533 ls (.int (iI v9) :: [.int (iI k), .ref v1])) (fun v9 => v9 = if vv (fP F) (fE F) nu.toNat gu = -1 then 0 else vv (fP F) (fE F) nu.toNat gu) (fun v9 hv9 => ?_) (fun hJ511 => ?_)
                            · skip
                              refine q_iast S0 hK hW 4 rfl (by omega) dX11_reckons_533 (fun H locs hW => ?_)
                              have hW : gW g A s.heap H _ [(mo, .inr (11, [.ref az, .ref ap, .int (iI pm), .ref ak, .int (iI ik), .ref ax, .int (iI ty), .int (iI th), .ref a1, .ref a2, .int (iI mn), .ref a3, .int (iI wt), .ref a4, .ref a5, .ref a6, .ref v1, .ref v2, .ref v3, .ref v4, .ref v5, .ref v6, .int (iI c9), .int (iI wh), .int (iI dp), .int (iI dg)])), (az, gI g 325 Z), (a4, gI g 796 VT), (a5, gI g 796 HT), (v1, gI g 41 (up Wv ((k).toNat) v9)), (v2, gI g 41 Sv), (v3, gI g 41 L), (v4, gI g 41 V)] := hW
                              refine lv_aload_n S0.1 S0.2.1 dX11_reckons_534 rfl (lv_at hl 7 rfl) ?_
                              refine q_get (C := RX11) (T := TX11) (N := 26) S0 hK hW.1 hinX11 0 rfl rfl 17 (by decide) (List.mem_of_getElem? (i := 3) rfl) rfl rfl dX11_reckons_535 ?_
                              refine lv_iload_n S0.1 S0.2.1 dX11_reckons_538 rfl (lv_at hl 9 rfl) ?_
                              refine q_cut (α := Int) (fun s9 => F0 m 568 ls (.int (iI s9) :: [.int (iI k), .ref v2])) (fun s9 => s9 = if vv (fP F) (fE F) nu.toNat gu = -1 then 0 else hh (fP F) (fE F) nu.toNat gu * su % fP F) (fun s9 hs9 => ?_) (fun hJ539 => ?_)
                              · skip
                                refine q_iast S0 hK hW 5 rfl (by omega) dX11_reckons_568 (fun H locs hW => ?_)
                                have hW : gW g A s.heap H _ [(mo, .inr (11, [.ref az, .ref ap, .int (iI pm), .ref ak, .int (iI ik), .ref ax, .int (iI ty), .int (iI th), .ref a1, .ref a2, .int (iI mn), .ref a3, .int (iI wt), .ref a4, .ref a5, .ref a6, .ref v1, .ref v2, .ref v3, .ref v4, .ref v5, .ref v6, .int (iI c9), .int (iI wh), .int (iI dp), .int (iI dg)])), (az, gI g 325 Z), (a4, gI g 796 VT), (a5, gI g 796 HT), (v1, gI g 41 (up Wv ((k).toNat) v9)), (v2, gI g 41 (up Sv ((k).toNat) s9)), (v3, gI g 41 L), (v4, gI g 41 V)] := hW
                                have hrv : rkV F u nu gu gw k.toNat = vv (fP F) (fE F) nu.toNat gu := by unfold rkV; (repeat (first | rw [if_pos (by omega)] | rw [if_neg (by omega)])); first | done | rfl
                                have hrs : rkS F u nu gu gw su sw k.toNat = hh (fP F) (fE F) nu.toNat gu * su % fP F := by unfold rkS; (repeat (first | rw [if_pos (by omega)] | rw [if_neg (by omega)])); first | done | rfl
                                have hA9 : zb (nv0 F u Wv k.toNat) = v9 := by rw [hnv0, hrv, hv9]; rfl
                                have hB9 : ns0 F u Wv Sv k.toNat = s9 := by rw [hns0, hrv, hrs, hs9]
                                have hC9 : (if bn = 1 ∨ nv0 F u Wv k.toNat = -1 then (1 : Int) else 0) = c9 := by rw [hnv0, hrv, hc9]
                                exact q_vret S0 hr hlocks () (trivial) rfl (hW.sub [0, 1, 2, 3, 4, 5, 6, 7] rfl (by rw [hA9, hB9, hC9]; rfl)) (Nat.le_of_ble_eq_true rfl) (Nat.le_of_ble_eq_true rfl) dX11_reckons_569
                              · skip
                                refine lv_aload_n S0.1 S0.2.1 dX11_reckons_539 rfl (lv_at hl 7 rfl) ?_
                                refine q_get (C := RX11) (T := TX11) (N := 26) S0 hK hW.1 hinX11 0 rfl rfl 13 (by decide) (List.mem_of_getElem? (i := 6) rfl) rfl rfl dX11_reckons_540 ?_
                                refine lv_iload S0.1 S0.2.1 dX11_reckons_543 (lv_at hl 0 rfl) ?_
                                refine q_iald S0 hK hW.1 2 rfl (by omega) dX11_reckons_545 ?_
                                refine q_topI (b := vv (fP F) (fE F) nu.toNat gu) (htb.1) ?_
                                refine q_iconst S0 dX11_reckons_546 ?_
                                refine q_icmp_ne (tgt := 554) S0 (by omega) dX11_reckons_547 (by decide) (fun c547 => ?_) (fun c547 => ?_)
                                · skip
                                  refine lv_aload_n S0.1 S0.2.1 dX11_reckons_554 rfl (lv_at hl 7 rfl) ?_
                                  refine lv_aload_n S0.1 S0.2.1 dX11_reckons_555 rfl (lv_at hl 7 rfl) ?_
                                  refine q_get (C := RX11) (T := TX11) (N := 26) S0 hK hW.1 hinX11 0 rfl rfl 14 (by decide) (List.mem_of_getElem? (i := 7) rfl) rfl rfl dX11_reckons_556 ?_
                                  refine lv_iload S0.1 S0.2.1 dX11_reckons_559 (lv_at hl 0 rfl) ?_
                                  refine q_iald S0 hK hW.1 3 rfl (by omega) dX11_reckons_561 ?_
                                  refine q_topI (b := hh (fP F) (fE F) nu.toNat gu) (htb.2.1) ?_
                                  refine lv_iload S0.1 S0.2.1 dX11_reckons_562 (lv_at hl 3 rfl) ?_
                                  refine q_imul S0 dX11_reckons_564 ?_
                                  have hm1 := mul_rng (a := hh (fP F) (fE F) nu.toNat gu) (b := su) (n := 200) (k := 200) (by omega) (by omega)
                                  refine q_pV (n := 1) (rest := [.int (iI k), .ref v2]) S0 hK (c_X11_p l g mo az ap ak ax a1 a2 a3 a4 a5 a6 v1 v2 v3 v4 v5 v6 pm ik ty th mn wt c9 wh dp dg Z (fP F) ((hh (fP F) (fE F) nu.toNat gu) * su) (hpr) (hz.1) (by omega)) (subP hW.1 [0, 1] rfl) (trivial) gX11_reckons_X11_p rfl rfl rfl (by decide +kernel) ⟨Nat.le_of_ble_eq_true rfl, Nat.le_of_ble_eq_true rfl⟩ (q_recv hK hW.1 (ci := 11) (q0 := 0) rfl rfl) rfl rfl hl.1 (Nat.le_of_ble_eq_true rfl) ⟨Nat.le_of_ble_eq_true rfl, Nat.le_of_ble_eq_true rfl⟩ dX11_reckons_565 ?_
                                  refine W.eq (g2 := F0 m 568 ls [.int (iI (((hh (fP F) (fE F) nu.toNat gu) * su) % (fP F))), .int (iI k), .ref v2]) rfl ?_
                                  exact hJ539 _ (by first | (rw [if_pos (by omega)]; done) | (rw [if_neg (by omega)]; done) | omega)
                                · skip
                                  refine q_iconst S0 dX11_reckons_550 ?_
                                  refine lv_goto (tgt := 568) S0.1 S0.2.1 dX11_reckons_551 (by decide) ?_
                                  exact hJ539 _ (by first | (rw [if_pos (by omega)]; done) | (rw [if_neg (by omega)]; done) | omega)
                            · skip
                              refine lv_aload_n S0.1 S0.2.1 dX11_reckons_511 rfl (lv_at hl 7 rfl) ?_
                              refine q_get (C := RX11) (T := TX11) (N := 26) S0 hK hW.1 hinX11 0 rfl rfl 13 (by decide) (List.mem_of_getElem? (i := 6) rfl) rfl rfl dX11_reckons_512 ?_
                              refine lv_iload S0.1 S0.2.1 dX11_reckons_515 (lv_at hl 0 rfl) ?_
                              refine q_iald S0 hK hW.1 2 rfl (by omega) dX11_reckons_517 ?_
                              refine q_topI (b := vv (fP F) (fE F) nu.toNat gu) (htb.1) ?_
                              refine q_iconst S0 dX11_reckons_518 ?_
                              refine q_icmp_ne (tgt := 526) S0 (by omega) dX11_reckons_519 (by decide) (fun c519 => ?_) (fun c519 => ?_)
                              · skip
                                refine lv_aload_n S0.1 S0.2.1 dX11_reckons_526 rfl (lv_at hl 7 rfl) ?_
                                refine q_get (C := RX11) (T := TX11) (N := 26) S0 hK hW.1 hinX11 0 rfl rfl 13 (by decide) (List.mem_of_getElem? (i := 6) rfl) rfl rfl dX11_reckons_527 ?_
                                refine lv_iload S0.1 S0.2.1 dX11_reckons_530 (lv_at hl 0 rfl) ?_
                                refine q_iald S0 hK hW.1 2 rfl (by omega) dX11_reckons_532 ?_
                                refine q_topI (b := vv (fP F) (fE F) nu.toNat gu) (htb.1) ?_
                                exact hJ511 _ (by first | (rw [if_pos (by omega)]; done) | (rw [if_neg (by omega)]; done) | omega)
                              · skip
                                refine q_iconst S0 dX11_reckons_522 ?_
                                refine lv_goto (tgt := 533) S0.1 S0.2.1 dX11_reckons_523 (by decide) ?_
                                exact hJ511 _ (by first | (rw [if_pos (by omega)]; done) | (rw [if_neg (by omega)]; done) | omega)
                          · skip
                            refine lv_aload_n S0.1 S0.2.1 dX11_reckons_480 rfl (lv_at hl 7 rfl) ?_
                            refine q_get (C := RX11) (T := TX11) (N := 26) S0 hK hW.1 hinX11 0 rfl rfl 22 (by decide) (List.mem_of_getElem? (i := 5) rfl) rfl rfl dX11_reckons_481 ?_
                            refine q_if_ne (tgt := 498) S0 (by omega) dX11_reckons_484 (by decide) (fun c484 => ?_) (fun c484 => ?_)
                            · skip
                              refine q_iconst S0 dX11_reckons_498 ?_
                              refine lv_goto (tgt := 503) S0.1 S0.2.1 dX11_reckons_499 (by decide) ?_
                              exact hJ480 _ (by first | (rw [if_pos (by omega)]; done) | (rw [if_neg (by omega)]; done) | omega)
                            · skip
                              refine lv_aload_n S0.1 S0.2.1 dX11_reckons_487 rfl (lv_at hl 7 rfl) ?_
                              refine q_get (C := RX11) (T := TX11) (N := 26) S0 hK hW.1 hinX11 0 rfl rfl 13 (by decide) (List.mem_of_getElem? (i := 6) rfl) rfl rfl dX11_reckons_488 ?_
                              refine lv_iload S0.1 S0.2.1 dX11_reckons_491 (lv_at hl 0 rfl) ?_
                              refine q_iald S0 hK hW.1 2 rfl (by omega) dX11_reckons_493 ?_
                              refine q_topI (b := vv (fP F) (fE F) nu.toNat gu) (htb.1) ?_
                              refine q_iconst S0 dX11_reckons_494 ?_
                              refine q_icmp_ne (tgt := 502) S0 (by omega) dX11_reckons_495 (by decide) (fun c495 => ?_) (fun c495 => ?_)
                              · skip
                                refine q_iconst S0 dX11_reckons_502 ?_
                                exact hJ480 _ (by first | (rw [if_pos (by omega)]; done) | (rw [if_neg (by omega)]; done) | omega)
                              · skip
                                refine q_iconst S0 dX11_reckons_498 ?_
                                refine lv_goto (tgt := 503) S0.1 S0.2.1 dX11_reckons_499 (by decide) ?_
                                exact hJ480 _ (by first | (rw [if_pos (by omega)]; done) | (rw [if_neg (by omega)]; done) | omega)
                      · skip
                        refine lv_aload_n S0.1 S0.2.1 dX11_reckons_406 rfl (lv_at hl 6 rfl) ?_
                        refine q_get (C := RX11) (T := TX11) (N := 26) S0 hK hW.1 hinX11 0 rfl rfl 16 (by decide) (List.mem_of_getElem? (i := 2) rfl) rfl rfl dX11_reckons_407 ?_
                        refine lv_iload_n S0.1 S0.2.1 dX11_reckons_410 rfl (lv_at hl 8 rfl) ?_
                        refine lv_aload_n S0.1 S0.2.1 dX11_reckons_411 rfl (lv_at hl 6 rfl) ?_
                        refine lv_iload S0.1 S0.2.1 dX11_reckons_412 (lv_at hl 3 rfl) ?_
                        refine lv_iload S0.1 S0.2.1 dX11_reckons_414 (lv_at hl 4 rfl) ?_
                        refine q_pV (n := 2) (rest := [.int (iI k), .ref v1]) S0 hK (c_X11_power l g mo az ap ak ax a1 a2 a3 a4 a5 a6 v1 v2 v3 v4 v5 v6 pm ik ty th mn wt bn wh dp dg Z (fP F) gu nu (hpr) (hz.1) (by omega) (by omega)) (subP hW.1 [0, 1] rfl) (trivial) gX11_reckons_X11_power rfl rfl rfl (by decide +kernel) ⟨Nat.le_of_ble_eq_true rfl, Nat.le_of_ble_eq_true rfl⟩ (q_recv hK hW.1 (ci := 11) (q0 := 0) rfl rfl) rfl rfl hl.1 (Nat.le_of_ble_eq_true rfl) ⟨Nat.le_of_ble_eq_true rfl, Nat.le_of_ble_eq_true rfl⟩ dX11_reckons_416 ?_
                        refine W.eq (g2 := F0 m 419 ls [.int (iI (gu ^ nu.toNat % (fP F))), .int (iI k), .ref v1]) rfl ?_
                        refine q_iast S0 hK hW 4 rfl (by omega) dX11_reckons_419 (fun H locs hW => ?_)
                        have hW : gW g A s.heap H _ [(mo, .inr (11, [.ref az, .ref ap, .int (iI pm), .ref ak, .int (iI ik), .ref ax, .int (iI ty), .int (iI th), .ref a1, .ref a2, .int (iI mn), .ref a3, .int (iI wt), .ref a4, .ref a5, .ref a6, .ref v1, .ref v2, .ref v3, .ref v4, .ref v5, .ref v6, .int (iI bn), .int (iI wh), .int (iI dp), .int (iI dg)])), (az, gI g 325 Z), (a4, gI g 796 VT), (a5, gI g 796 HT), (v1, gI g 41 (up Wv ((k).toNat) (gu ^ nu.toNat % (fP F)))), (v2, gI g 41 Sv), (v3, gI g 41 L), (v4, gI g 41 V)] := hW
                        refine lv_aload_n S0.1 S0.2.1 dX11_reckons_420 rfl (lv_at hl 6 rfl) ?_
                        refine q_get (C := RX11) (T := TX11) (N := 26) S0 hK hW.1 hinX11 0 rfl rfl 17 (by decide) (List.mem_of_getElem? (i := 3) rfl) rfl rfl dX11_reckons_421 ?_
                        refine lv_iload_n S0.1 S0.2.1 dX11_reckons_424 rfl (lv_at hl 8 rfl) ?_
                        refine q_cut (α := Int) (fun s9 => F0 m 458 ls (.int (iI s9) :: [.int (iI k), .ref v2])) (fun s9 => s9 = if nu = 0 then 0 else nu * (gu ^ (nu - 1).toNat % fP F) % fP F * su % fP F) (fun s9 hs9 => ?_) (fun hJ425 => ?_)
                        · skip
                          refine q_iast S0 hK hW 5 rfl (by omega) dX11_reckons_458 (fun H locs hW => ?_)
                          have hW : gW g A s.heap H _ [(mo, .inr (11, [.ref az, .ref ap, .int (iI pm), .ref ak, .int (iI ik), .ref ax, .int (iI ty), .int (iI th), .ref a1, .ref a2, .int (iI mn), .ref a3, .int (iI wt), .ref a4, .ref a5, .ref a6, .ref v1, .ref v2, .ref v3, .ref v4, .ref v5, .ref v6, .int (iI bn), .int (iI wh), .int (iI dp), .int (iI dg)])), (az, gI g 325 Z), (a4, gI g 796 VT), (a5, gI g 796 HT), (v1, gI g 41 (up Wv ((k).toNat) (gu ^ nu.toNat % (fP F)))), (v2, gI g 41 (up Sv ((k).toNat) s9)), (v3, gI g 41 L), (v4, gI g 41 V)] := hW
                          refine lv_goto (tgt := 569) S0.1 S0.2.1 dX11_reckons_459 (by decide) ?_
                          have hne : ¬ rkV F u nu gu gw k.toNat = -1 := by unfold rkV; (repeat (first | rw [if_pos (by omega)] | rw [if_neg (by omega)])); exact mod_ne (by omega)
                          have hA9 : zb (nv0 F u Wv k.toNat) = gu ^ nu.toNat % (fP F) := by rw [hnv0]; unfold rkV; (repeat (first | rw [if_pos (by omega)] | rw [if_neg (by omega)])); first | exact zb_mod (by omega) | (rw [Int.zero_sub]; exact zb_mod (by omega))
                          have hC9 : (if bn = 1 ∨ nv0 F u Wv k.toNat = -1 then (1 : Int) else 0) = bn := by
                            rw [hnv0]
                            rcases hbn with q | q
                            · rw [if_neg (by intro y; rcases y with y | y; omega; exact hne y), q]
                            · rw [if_pos (Or.inl q), q]
                          have hB9 : ns0 F u Wv Sv k.toNat = s9 := by
                            rw [hns0, if_neg hne, hs9]
                            unfold rkS
                            (repeat (first | rw [if_pos (by omega)] | rw [if_neg (by omega)]))
                            by_cases q : nu = 0
                            · rw [if_pos q, q, Int.zero_mul, Int.zero_emod, Int.zero_mul, Int.zero_emod]
                            · rw [if_neg q]
                          exact q_vret S0 hr hlocks () (trivial) rfl (hW.sub [0, 1, 2, 3, 4, 5, 6, 7] rfl (by rw [hA9, hB9, hC9]; rfl)) (Nat.le_of_ble_eq_true rfl) (Nat.le_of_ble_eq_true rfl) dX11_reckons_569
                        · skip
                          refine lv_iload S0.1 S0.2.1 dX11_reckons_425 (lv_at hl 4 rfl) ?_
                          refine q_if_ne (tgt := 434) S0 (by omega) dX11_reckons_427 (by decide) (fun c427 => ?_) (fun c427 => ?_)
                          · skip
                            refine lv_aload_n S0.1 S0.2.1 dX11_reckons_434 rfl (lv_at hl 6 rfl) ?_
                            refine lv_aload_n S0.1 S0.2.1 dX11_reckons_435 rfl (lv_at hl 6 rfl) ?_
                            refine lv_iload S0.1 S0.2.1 dX11_reckons_436 (lv_at hl 4 rfl) ?_
                            refine lv_aload_n S0.1 S0.2.1 dX11_reckons_438 rfl (lv_at hl 6 rfl) ?_
                            refine lv_iload S0.1 S0.2.1 dX11_reckons_439 (lv_at hl 3 rfl) ?_
                            refine lv_iload S0.1 S0.2.1 dX11_reckons_441 (lv_at hl 4 rfl) ?_
                            refine q_iconst S0 dX11_reckons_443 ?_
                            refine q_isub S0 dX11_reckons_444 ?_
                            refine q_pV (n := 2) (rest := [.int (iI nu), .ref mo, .ref mo, .int (iI k), .ref v2]) S0 hK (c_X11_power l g mo az ap ak ax a1 a2 a3 a4 a5 a6 v1 v2 v3 v4 v5 v6 pm ik ty th mn wt bn wh dp dg Z (fP F) gu (nu - 1) (hpr) (hz.1) (by omega) (by omega)) (subP hW.1 [0, 1] rfl) (trivial) gX11_reckons_X11_power rfl rfl rfl (by decide +kernel) ⟨Nat.le_of_ble_eq_true rfl, Nat.le_of_ble_eq_true rfl⟩ (q_recv hK hW.1 (ci := 11) (q0 := 0) rfl rfl) rfl rfl hl.1 (Nat.le_of_ble_eq_true rfl) ⟨Nat.le_of_ble_eq_true rfl, Nat.le_of_ble_eq_true rfl⟩ dX11_reckons_445 ?_
                            refine W.eq (g2 := F0 m 448 ls [.int (iI (gu ^ (nu - 1).toNat % (fP F))), .int (iI nu), .ref mo, .ref mo, .int (iI k), .ref v2]) rfl ?_
                            refine q_imul S0 dX11_reckons_448 ?_
                            have he1 := emod_rng (gu ^ (nu - 1).toNat) (p := fP F) (by omega)
                            have hm1 := mul_rng (a := nu) (b := gu ^ (nu - 1).toNat % fP F) (n := 200) (k := 200) (by omega) (by omega)
                            refine q_pV (n := 1) (rest := [.ref mo, .int (iI k), .ref v2]) S0 hK (c_X11_p l g mo az ap ak ax a1 a2 a3 a4 a5 a6 v1 v2 v3 v4 v5 v6 pm ik ty th mn wt bn wh dp dg Z (fP F) (nu * (gu ^ (nu - 1).toNat % (fP F))) (hpr) (hz.1) (by omega)) (subP hW.1 [0, 1] rfl) (trivial) gX11_reckons_X11_p rfl rfl rfl (by decide +kernel) ⟨Nat.le_of_ble_eq_true rfl, Nat.le_of_ble_eq_true rfl⟩ (q_recv hK hW.1 (ci := 11) (q0 := 0) rfl rfl) rfl rfl hl.1 (Nat.le_of_ble_eq_true rfl) ⟨Nat.le_of_ble_eq_true rfl, Nat.le_of_ble_eq_true rfl⟩ dX11_reckons_449 ?_
                            refine W.eq (g2 := F0 m 452 ls [.int (iI ((nu * (gu ^ (nu - 1).toNat % (fP F))) % (fP F))), .ref mo, .int (iI k), .ref v2]) rfl ?_
                            refine lv_iload S0.1 S0.2.1 dX11_reckons_452 (lv_at hl 2 rfl) ?_
                            refine q_imul S0 dX11_reckons_454 ?_
                            have he2 := emod_rng (nu * (gu ^ (nu - 1).toNat % fP F)) (p := fP F) (by omega)
                            have hm2 := mul_rng (a := nu * (gu ^ (nu - 1).toNat % fP F) % fP F) (b := su) (n := 200) (k := 200) (by omega) (by omega)
                            refine q_pV (n := 1) (rest := [.int (iI k), .ref v2]) S0 hK (c_X11_p l g mo az ap ak ax a1 a2 a3 a4 a5 a6 v1 v2 v3 v4 v5 v6 pm ik ty th mn wt bn wh dp dg Z (fP F) (((nu * (gu ^ (nu - 1).toNat % (fP F))) % (fP F)) * su) (hpr) (hz.1) (by omega)) (subP hW.1 [0, 1] rfl) (trivial) gX11_reckons_X11_p rfl rfl rfl (by decide +kernel) ⟨Nat.le_of_ble_eq_true rfl, Nat.le_of_ble_eq_true rfl⟩ (q_recv hK hW.1 (ci := 11) (q0 := 0) rfl rfl) rfl rfl hl.1 (Nat.le_of_ble_eq_true rfl) ⟨Nat.le_of_ble_eq_true rfl, Nat.le_of_ble_eq_true rfl⟩ dX11_reckons_455 ?_
                            refine W.eq (g2 := F0 m 458 ls [.int (iI ((((nu * (gu ^ (nu - 1).toNat % (fP F))) % (fP F)) * su) % (fP F))), .int (iI k), .ref v2]) rfl ?_
                            exact hJ425 _ (by first | (rw [if_pos (by omega)]; done) | (rw [if_neg (by omega)]; done) | omega)
                          · skip
                            refine q_iconst S0 dX11_reckons_430 ?_
                            refine lv_goto (tgt := 458) S0.1 S0.2.1 dX11_reckons_431 (by decide) ?_
                            exact hJ425 _ (by first | (rw [if_pos (by omega)]; done) | (rw [if_neg (by omega)]; done) | omega)
                    · skip
                      refine lv_aload_n S0.1 S0.2.1 dX11_reckons_309 rfl (lv_at hl 6 rfl) ?_
                      refine q_cut (α := Int) (fun b9 => F0 m 327 ls (.int (iI b9) :: [.ref mo])) (fun b9 => b9 = if bn = 1 ∨ gw = 0 then (1 : Int) else 0) (fun b9 hb9 => ?_) (fun hJ310 => ?_)
                      · skip
                        refine q_put (C := RX11) (T := TX11) (N := 26) S0 hK hW hinX11 tyX11_ok nmX11 0 rfl rfl 22 (by decide) (List.mem_of_getElem? (i := 5) rfl) rfl rfl (by first | (rw [hb9]; split <;> rfl) | (rw [hc9]; split <;> rfl)) (by first | (rw [hb9]; split <;> rfl) | (rw [hc9]; split <;> rfl)) (Nat.le_of_ble_eq_true rfl) dX11_reckons_327 (fun H locs hW => ?_)
                        have hW : gW g A s.heap H _ [(mo, .inr (11, [.ref az, .ref ap, .int (iI pm), .ref ak, .int (iI ik), .ref ax, .int (iI ty), .int (iI th), .ref a1, .ref a2, .int (iI mn), .ref a3, .int (iI wt), .ref a4, .ref a5, .ref a6, .ref v1, .ref v2, .ref v3, .ref v4, .ref v5, .ref v6, .int (iI b9), .int (iI wh), .int (iI dp), .int (iI dg)])), (az, gI g 325 Z), (a4, gI g 796 VT), (a5, gI g 796 HT), (v1, gI g 41 Wv), (v2, gI g 41 Sv), (v3, gI g 41 L), (v4, gI g 41 V)] := hW
                        refine q_cut (α := Int) (fun iv => F0 m 345 ls (.int (iI iv) :: [])) (fun iv => iv = if gw = 0 then 0 else inv' (fP F) gw) (fun iv hiv => ?_) (fun hJ330 => ?_)
                        · skip
                          refine lv_istore (lv' := [(9, .int (iI iv)), (8, .int (iI sw)), (7, .int (iI gw)), (6, .int (iI su)), (5, .int (iI gu)), (4, .int (iI nu)), (3, .int (iI kd)), (0, .ref mo), (1, .int (iI u)), (2, .int (iI k))]) S0.1 S0.2.1 dX11_reckons_345 hl (by decide) rfl (fun ls hl => ?_)
                          have hivr : 0 ≤ iv ∧ iv < fP F := by rw [hiv]; split; omega; exact ⟨by have := inv_pos hG.1 (v := gw) (by omega); omega, (inv_pos hG.1 (v := gw) (by omega)).2⟩
                          have hm1 := mul_rng (a := gu) (b := iv) (n := 200) (k := 200) (by omega) (by omega)
                          have hm2 := mul_rng (a := su) (b := gw) (n := 200) (k := 200) (by omega) (by omega)
                          have hm3 := mul_rng (a := gu) (b := sw) (n := 200) (k := 200) (by omega) (by omega)
                          have hm4 := mul_rng (a := iv) (b := iv) (n := 200) (k := 200) (by omega) (by omega)
                          have he1 := emod_rng (su * gw - gu * sw) (p := fP F) (by omega)
                          have he2 := emod_rng (iv * iv) (p := fP F) (by omega)
                          have hm5 := mul_rng (a := (su * gw - gu * sw) % fP F) (b := iv * iv % fP F) (n := 200) (k := 200) (by omega) (by omega)
                          refine lv_aload_n S0.1 S0.2.1 dX11_reckons_347 rfl (lv_at hl 7 rfl) ?_
                          refine q_get (C := RX11) (T := TX11) (N := 26) S0 hK hW.1 hinX11 0 rfl rfl 16 (by decide) (List.mem_of_getElem? (i := 2) rfl) rfl rfl dX11_reckons_348 ?_
                          refine lv_iload_n S0.1 S0.2.1 dX11_reckons_351 rfl (lv_at hl 9 rfl) ?_
                          refine lv_aload_n S0.1 S0.2.1 dX11_reckons_352 rfl (lv_at hl 7 rfl) ?_
                          refine lv_iload S0.1 S0.2.1 dX11_reckons_353 (lv_at hl 4 rfl) ?_
                          refine lv_iload S0.1 S0.2.1 dX11_reckons_355 (lv_at hl 0 rfl) ?_
                          refine q_imul S0 dX11_reckons_357 ?_
                          refine q_pV (n := 1) (rest := [.int (iI k), .ref v1]) S0 hK (c_X11_p l g mo az ap ak ax a1 a2 a3 a4 a5 a6 v1 v2 v3 v4 v5 v6 pm ik ty th mn wt b9 wh dp dg Z (fP F) (gu * iv) (hpr) (hz.1) (by omega)) (subP hW.1 [0, 1] rfl) (trivial) gX11_reckons_X11_p rfl rfl rfl (by decide +kernel) ⟨Nat.le_of_ble_eq_true rfl, Nat.le_of_ble_eq_true rfl⟩ (q_recv hK hW.1 (ci := 11) (q0 := 0) rfl rfl) rfl rfl hl.1 (Nat.le_of_ble_eq_true rfl) ⟨Nat.le_of_ble_eq_true rfl, Nat.le_of_ble_eq_true rfl⟩ dX11_reckons_358 ?_
                          refine W.eq (g2 := F0 m 361 ls [.int (iI ((gu * iv) % (fP F))), .int (iI k), .ref v1]) rfl ?_
                          refine q_iast S0 hK hW 4 rfl (by omega) dX11_reckons_361 (fun H locs hW => ?_)
                          have hW : gW g A s.heap H _ [(mo, .inr (11, [.ref az, .ref ap, .int (iI pm), .ref ak, .int (iI ik), .ref ax, .int (iI ty), .int (iI th), .ref a1, .ref a2, .int (iI mn), .ref a3, .int (iI wt), .ref a4, .ref a5, .ref a6, .ref v1, .ref v2, .ref v3, .ref v4, .ref v5, .ref v6, .int (iI b9), .int (iI wh), .int (iI dp), .int (iI dg)])), (az, gI g 325 Z), (a4, gI g 796 VT), (a5, gI g 796 HT), (v1, gI g 41 (up Wv ((k).toNat) ((gu * iv) % (fP F)))), (v2, gI g 41 Sv), (v3, gI g 41 L), (v4, gI g 41 V)] := hW
                          refine lv_aload_n S0.1 S0.2.1 dX11_reckons_362 rfl (lv_at hl 7 rfl) ?_
                          refine q_get (C := RX11) (T := TX11) (N := 26) S0 hK hW.1 hinX11 0 rfl rfl 17 (by decide) (List.mem_of_getElem? (i := 3) rfl) rfl rfl dX11_reckons_363 ?_
                          refine lv_iload_n S0.1 S0.2.1 dX11_reckons_366 rfl (lv_at hl 9 rfl) ?_
                          refine lv_aload_n S0.1 S0.2.1 dX11_reckons_367 rfl (lv_at hl 7 rfl) ?_
                          refine lv_aload_n S0.1 S0.2.1 dX11_reckons_368 rfl (lv_at hl 7 rfl) ?_
                          refine lv_iload S0.1 S0.2.1 dX11_reckons_369 (lv_at hl 3 rfl) ?_
                          refine lv_iload S0.1 S0.2.1 dX11_reckons_371 (lv_at hl 2 rfl) ?_
                          refine q_imul S0 dX11_reckons_373 ?_
                          refine lv_iload S0.1 S0.2.1 dX11_reckons_374 (lv_at hl 4 rfl) ?_
                          refine lv_iload S0.1 S0.2.1 dX11_reckons_376 (lv_at hl 1 rfl) ?_
                          refine q_imul S0 dX11_reckons_378 ?_
                          refine q_isub S0 dX11_reckons_379 ?_
                          refine q_pV (n := 1) (rest := [.ref mo, .int (iI k), .ref v2]) S0 hK (c_X11_p l g mo az ap ak ax a1 a2 a3 a4 a5 a6 v1 v2 v3 v4 v5 v6 pm ik ty th mn wt b9 wh dp dg Z (fP F) ((su * gw) - (gu * sw)) (hpr) (hz.1) (by omega)) (subP hW.1 [0, 1] rfl) (trivial) gX11_reckons_X11_p rfl rfl rfl (by decide +kernel) ⟨Nat.le_of_ble_eq_true rfl, Nat.le_of_ble_eq_true rfl⟩ (q_recv hK hW.1 (ci := 11) (q0 := 0) rfl rfl) rfl rfl hl.1 (Nat.le_of_ble_eq_true rfl) ⟨Nat.le_of_ble_eq_true rfl, Nat.le_of_ble_eq_true rfl⟩ dX11_reckons_380 ?_
                          refine W.eq (g2 := F0 m 383 ls [.int (iI (((su * gw) - (gu * sw)) % (fP F))), .ref mo, .int (iI k), .ref v2]) rfl ?_
                          refine lv_aload_n S0.1 S0.2.1 dX11_reckons_383 rfl (lv_at hl 7 rfl) ?_
                          refine lv_iload S0.1 S0.2.1 dX11_reckons_384 (lv_at hl 0 rfl) ?_
                          refine lv_iload S0.1 S0.2.1 dX11_reckons_386 (lv_at hl 0 rfl) ?_
                          refine q_imul S0 dX11_reckons_388 ?_
                          refine q_pV (n := 1) (rest := [.int (iI (((su * gw) - (gu * sw)) % (fP F))), .ref mo, .int (iI k), .ref v2]) S0 hK (c_X11_p l g mo az ap ak ax a1 a2 a3 a4 a5 a6 v1 v2 v3 v4 v5 v6 pm ik ty th mn wt b9 wh dp dg Z (fP F) (iv * iv) (hpr) (hz.1) (by omega)) (subP hW.1 [0, 1] rfl) (trivial) gX11_reckons_X11_p rfl rfl rfl (by decide +kernel) ⟨Nat.le_of_ble_eq_true rfl, Nat.le_of_ble_eq_true rfl⟩ (q_recv hK hW.1 (ci := 11) (q0 := 0) rfl rfl) rfl rfl hl.1 (Nat.le_of_ble_eq_true rfl) ⟨Nat.le_of_ble_eq_true rfl, Nat.le_of_ble_eq_true rfl⟩ dX11_reckons_389 ?_
                          refine W.eq (g2 := F0 m 392 ls [.int (iI ((iv * iv) % (fP F))), .int (iI (((su * gw) - (gu * sw)) % (fP F))), .ref mo, .int (iI k), .ref v2]) rfl ?_
                          refine q_imul S0 dX11_reckons_392 ?_
                          refine q_pV (n := 1) (rest := [.int (iI k), .ref v2]) S0 hK (c_X11_p l g mo az ap ak ax a1 a2 a3 a4 a5 a6 v1 v2 v3 v4 v5 v6 pm ik ty th mn wt b9 wh dp dg Z (fP F) ((((su * gw) - (gu * sw)) % (fP F)) * ((iv * iv) % (fP F))) (hpr) (hz.1) (by omega)) (subP hW.1 [0, 1] rfl) (trivial) gX11_reckons_X11_p rfl rfl rfl (by decide +kernel) ⟨Nat.le_of_ble_eq_true rfl, Nat.le_of_ble_eq_true rfl⟩ (q_recv hK hW.1 (ci := 11) (q0 := 0) rfl rfl) rfl rfl hl.1 (Nat.le_of_ble_eq_true rfl) ⟨Nat.le_of_ble_eq_true rfl, Nat.le_of_ble_eq_true rfl⟩ dX11_reckons_393 ?_
                          refine W.eq (g2 := F0 m 396 ls [.int (iI (((((su * gw) - (gu * sw)) % (fP F)) * ((iv * iv) % (fP F))) % (fP F))), .int (iI k), .ref v2]) rfl ?_
                          refine q_iast S0 hK hW 5 rfl (by omega) dX11_reckons_396 (fun H locs hW => ?_)
                          have hW : gW g A s.heap H _ [(mo, .inr (11, [.ref az, .ref ap, .int (iI pm), .ref ak, .int (iI ik), .ref ax, .int (iI ty), .int (iI th), .ref a1, .ref a2, .int (iI mn), .ref a3, .int (iI wt), .ref a4, .ref a5, .ref a6, .ref v1, .ref v2, .ref v3, .ref v4, .ref v5, .ref v6, .int (iI b9), .int (iI wh), .int (iI dp), .int (iI dg)])), (az, gI g 325 Z), (a4, gI g 796 VT), (a5, gI g 796 HT), (v1, gI g 41 (up Wv ((k).toNat) ((gu * iv) % (fP F)))), (v2, gI g 41 (up Sv ((k).toNat) (((((su * gw) - (gu * sw)) % (fP F)) * ((iv * iv) % (fP F))) % (fP F)))), (v3, gI g 41 L), (v4, gI g 41 V)] := hW
                          refine lv_goto (tgt := 569) S0.1 S0.2.1 dX11_reckons_397 (by decide) ?_
                          have hrv : rkV F u nu gu gw k.toNat = if gw = 0 then -1 else gu * inv' (fP F) gw % fP F := by unfold rkV; (repeat (first | rw [if_pos (by omega)] | rw [if_neg (by omega)])); first | done | rfl
                          have hrs : rkS F u nu gu gw su sw k.toNat = ((su * gw - gu * sw) % fP F) * inv' (fP F) (gw * gw % fP F) % fP F := by unfold rkS; (repeat (first | rw [if_pos (by omega)] | rw [if_neg (by omega)])); first | done | rfl
                          have hA9 : zb (nv0 F u Wv k.toNat) = (gu * iv) % (fP F) := by
                            rw [hnv0, hrv, hiv]
                            by_cases q : gw = 0
                            · rw [if_pos q, if_pos q, Int.mul_zero, Int.zero_emod]; rfl
                            · rw [if_neg q, if_neg q]; exact zb_mod (by omega)
                          have hB9 : ns0 F u Wv Sv k.toNat = ((((su * gw) - (gu * sw)) % (fP F)) * ((iv * iv) % (fP F))) % (fP F) := by
                            rw [hns0, hrv, hrs, hiv]
                            by_cases q : gw = 0
                            · rw [if_pos q, if_pos rfl, if_pos q, Int.zero_mul, Int.zero_emod, Int.mul_zero, Int.zero_emod]
                            · rw [if_neg q, if_neg (mod_ne (by omega)), if_neg q, inv_sq hG.1 (by omega)]
                          have hC9 : (if bn = 1 ∨ nv0 F u Wv k.toNat = -1 then (1 : Int) else 0) = b9 := by
                            rw [hnv0, hrv, hb9]
                            by_cases q : gw = 0
                            · rw [if_pos q, if_pos (Or.inr rfl), if_pos (Or.inr q)]
                            · rw [if_neg q]; rcases hbn with z | z
                              · rw [if_neg (by intro y; rcases y with y | y; omega; exact mod_ne (by omega) y), if_neg (by omega)]
                              · rw [if_pos (Or.inl z), if_pos (Or.inl z)]
                          exact q_vret S0 hr hlocks () (trivial) rfl (hW.sub [0, 1, 2, 3, 4, 5, 6, 7] rfl (by rw [hA9, hB9, hC9]; rfl)) (Nat.le_of_ble_eq_true rfl) (Nat.le_of_ble_eq_true rfl) dX11_reckons_569
                        · skip
                          refine lv_iload S0.1 S0.2.1 dX11_reckons_330 (lv_at hl 1 rfl) ?_
                          refine q_if_ne (tgt := 339) S0 (by omega) dX11_reckons_332 (by decide) (fun c332 => ?_) (fun c332 => ?_)
                          · skip
                            refine lv_aload_n S0.1 S0.2.1 dX11_reckons_339 rfl (lv_at hl 6 rfl) ?_
                            refine lv_iload S0.1 S0.2.1 dX11_reckons_340 (lv_at hl 1 rfl) ?_
                            refine q_pV (n := 1) (rest := []) S0 hK (c_X11_inverse l g mo az ap ak ax a1 a2 a3 a4 a5 a6 v1 v2 v3 v4 v5 v6 pm ik ty th mn wt b9 wh dp dg Z (fP F) gw (hG.1) (hz.1) (by omega)) (subP hW.1 [0, 1] rfl) (trivial) gX11_reckons_X11_inverse rfl rfl rfl (by decide +kernel) ⟨Nat.le_of_ble_eq_true rfl, Nat.le_of_ble_eq_true rfl⟩ (q_recv hK hW.1 (ci := 11) (q0 := 0) rfl rfl) rfl rfl hl.1 (Nat.le_of_ble_eq_true rfl) ⟨Nat.le_of_ble_eq_true rfl, Nat.le_of_ble_eq_true rfl⟩ dX11_reckons_342 ?_
                            refine W.eq (g2 := F0 m 345 ls [.int (iI (inv' (fP F) gw))]) rfl ?_
                            exact hJ330 _ (by first | (rw [if_pos (by omega)]; done) | (rw [if_neg (by omega)]; done) | omega)
                          · skip
                            refine q_iconst S0 dX11_reckons_335 ?_
                            refine lv_goto (tgt := 345) S0.1 S0.2.1 dX11_reckons_336 (by decide) ?_
                            exact hJ330 _ (by first | (rw [if_pos (by omega)]; done) | (rw [if_neg (by omega)]; done) | omega)
                      · skip
                        refine lv_aload_n S0.1 S0.2.1 dX11_reckons_310 rfl (lv_at hl 6 rfl) ?_
                        refine q_get (C := RX11) (T := TX11) (N := 26) S0 hK hW.1 hinX11 0 rfl rfl 22 (by decide) (List.mem_of_getElem? (i := 5) rfl) rfl rfl dX11_reckons_311 ?_
                        refine q_if_ne (tgt := 322) S0 (by omega) dX11_reckons_314 (by decide) (fun c314 => ?_) (fun c314 => ?_)
                        · skip
                          refine q_iconst S0 dX11_reckons_322 ?_
                          refine lv_goto (tgt := 327) S0.1 S0.2.1 dX11_reckons_323 (by decide) ?_
                          exact hJ310 _ (by first | (rw [if_pos (by omega)]; done) | (rw [if_neg (by omega)]; done) | omega)
                        · skip
                          refine lv_iload S0.1 S0.2.1 dX11_reckons_317 (lv_at hl 1 rfl) ?_
                          refine q_if_ne (tgt := 326) S0 (by omega) dX11_reckons_319 (by decide) (fun c319 => ?_) (fun c319 => ?_)
                          · skip
                            refine q_iconst S0 dX11_reckons_326 ?_
                            exact hJ310 _ (by first | (rw [if_pos (by omega)]; done) | (rw [if_neg (by omega)]; done) | omega)
                          · skip
                            refine q_iconst S0 dX11_reckons_322 ?_
                            refine lv_goto (tgt := 327) S0.1 S0.2.1 dX11_reckons_323 (by decide) ?_
                            exact hJ310 _ (by first | (rw [if_pos (by omega)]; done) | (rw [if_neg (by omega)]; done) | omega)
                  · skip
                    refine lv_aload_n S0.1 S0.2.1 dX11_reckons_264 rfl (lv_at hl 6 rfl) ?_
                    refine q_get (C := RX11) (T := TX11) (N := 26) S0 hK hW.1 hinX11 0 rfl rfl 16 (by decide) (List.mem_of_getElem? (i := 2) rfl) rfl rfl dX11_reckons_265 ?_
                    refine lv_iload_n S0.1 S0.2.1 dX11_reckons_268 rfl (lv_at hl 8 rfl) ?_
                    refine lv_aload_n S0.1 S0.2.1 dX11_reckons_269 rfl (lv_at hl 6 rfl) ?_
                    refine lv_iload S0.1 S0.2.1 dX11_reckons_270 (lv_at hl 3 rfl) ?_
                    refine lv_iload S0.1 S0.2.1 dX11_reckons_272 (lv_at hl 1 rfl) ?_
                    refine q_imul S0 dX11_reckons_274 ?_
                    have hm1 := mul_rng (a := gu) (b := gw) (n := 200) (k := 200) (by omega) (by omega)
                    refine q_pV (n := 1) (rest := [.int (iI k), .ref v1]) S0 hK (c_X11_p l g mo az ap ak ax a1 a2 a3 a4 a5 a6 v1 v2 v3 v4 v5 v6 pm ik ty th mn wt bn wh dp dg Z (fP F) (gu * gw) (hpr) (hz.1) (by omega)) (subP hW.1 [0, 1] rfl) (trivial) gX11_reckons_X11_p rfl rfl rfl (by decide +kernel) ⟨Nat.le_of_ble_eq_true rfl, Nat.le_of_ble_eq_true rfl⟩ (q_recv hK hW.1 (ci := 11) (q0 := 0) rfl rfl) rfl rfl hl.1 (Nat.le_of_ble_eq_true rfl) ⟨Nat.le_of_ble_eq_true rfl, Nat.le_of_ble_eq_true rfl⟩ dX11_reckons_275 ?_
                    refine W.eq (g2 := F0 m 278 ls [.int (iI ((gu * gw) % (fP F))), .int (iI k), .ref v1]) rfl ?_
                    refine q_iast S0 hK hW 4 rfl (by omega) dX11_reckons_278 (fun H locs hW => ?_)
                    have hW : gW g A s.heap H _ [(mo, .inr (11, [.ref az, .ref ap, .int (iI pm), .ref ak, .int (iI ik), .ref ax, .int (iI ty), .int (iI th), .ref a1, .ref a2, .int (iI mn), .ref a3, .int (iI wt), .ref a4, .ref a5, .ref a6, .ref v1, .ref v2, .ref v3, .ref v4, .ref v5, .ref v6, .int (iI bn), .int (iI wh), .int (iI dp), .int (iI dg)])), (az, gI g 325 Z), (a4, gI g 796 VT), (a5, gI g 796 HT), (v1, gI g 41 (up Wv ((k).toNat) ((gu * gw) % (fP F)))), (v2, gI g 41 Sv), (v3, gI g 41 L), (v4, gI g 41 V)] := hW
                    refine lv_aload_n S0.1 S0.2.1 dX11_reckons_279 rfl (lv_at hl 6 rfl) ?_
                    refine q_get (C := RX11) (T := TX11) (N := 26) S0 hK hW.1 hinX11 0 rfl rfl 17 (by decide) (List.mem_of_getElem? (i := 3) rfl) rfl rfl dX11_reckons_280 ?_
                    refine lv_iload_n S0.1 S0.2.1 dX11_reckons_283 rfl (lv_at hl 8 rfl) ?_
                    refine lv_aload_n S0.1 S0.2.1 dX11_reckons_284 rfl (lv_at hl 6 rfl) ?_
                    refine lv_iload S0.1 S0.2.1 dX11_reckons_285 (lv_at hl 2 rfl) ?_
                    refine lv_iload S0.1 S0.2.1 dX11_reckons_287 (lv_at hl 1 rfl) ?_
                    refine q_imul S0 dX11_reckons_289 ?_
                    refine lv_iload S0.1 S0.2.1 dX11_reckons_290 (lv_at hl 3 rfl) ?_
                    refine lv_iload S0.1 S0.2.1 dX11_reckons_292 (lv_at hl 0 rfl) ?_
                    refine q_imul S0 dX11_reckons_294 ?_
                    refine q_iadd S0 dX11_reckons_295 ?_
                    have hm1 := mul_rng (a := gu) (b := gw) (n := 200) (k := 200) (by omega) (by omega)
                    have hm2 := mul_rng (a := su) (b := gw) (n := 200) (k := 200) (by omega) (by omega)
                    have hm3 := mul_rng (a := gu) (b := sw) (n := 200) (k := 200) (by omega) (by omega)
                    refine q_pV (n := 1) (rest := [.int (iI k), .ref v2]) S0 hK (c_X11_p l g mo az ap ak ax a1 a2 a3 a4 a5 a6 v1 v2 v3 v4 v5 v6 pm ik ty th mn wt bn wh dp dg Z (fP F) ((su * gw) + (gu * sw)) (hpr) (hz.1) (by omega)) (subP hW.1 [0, 1] rfl) (trivial) gX11_reckons_X11_p rfl rfl rfl (by decide +kernel) ⟨Nat.le_of_ble_eq_true rfl, Nat.le_of_ble_eq_true rfl⟩ (q_recv hK hW.1 (ci := 11) (q0 := 0) rfl rfl) rfl rfl hl.1 (Nat.le_of_ble_eq_true rfl) ⟨Nat.le_of_ble_eq_true rfl, Nat.le_of_ble_eq_true rfl⟩ dX11_reckons_296 ?_
                    refine W.eq (g2 := F0 m 299 ls [.int (iI (((su * gw) + (gu * sw)) % (fP F))), .int (iI k), .ref v2]) rfl ?_
                    refine q_iast S0 hK hW 5 rfl (by omega) dX11_reckons_299 (fun H locs hW => ?_)
                    have hW : gW g A s.heap H _ [(mo, .inr (11, [.ref az, .ref ap, .int (iI pm), .ref ak, .int (iI ik), .ref ax, .int (iI ty), .int (iI th), .ref a1, .ref a2, .int (iI mn), .ref a3, .int (iI wt), .ref a4, .ref a5, .ref a6, .ref v1, .ref v2, .ref v3, .ref v4, .ref v5, .ref v6, .int (iI bn), .int (iI wh), .int (iI dp), .int (iI dg)])), (az, gI g 325 Z), (a4, gI g 796 VT), (a5, gI g 796 HT), (v1, gI g 41 (up Wv ((k).toNat) ((gu * gw) % (fP F)))), (v2, gI g 41 (up Sv ((k).toNat) (((su * gw) + (gu * sw)) % (fP F)))), (v3, gI g 41 L), (v4, gI g 41 V)] := hW
                    refine lv_goto (tgt := 569) S0.1 S0.2.1 dX11_reckons_300 (by decide) ?_
                    have hne : ¬ rkV F u nu gu gw k.toNat = -1 := by unfold rkV; (repeat (first | rw [if_pos (by omega)] | rw [if_neg (by omega)])); exact mod_ne (by omega)
                    have hA9 : zb (nv0 F u Wv k.toNat) = (gu * gw) % (fP F) := by rw [hnv0]; unfold rkV; (repeat (first | rw [if_pos (by omega)] | rw [if_neg (by omega)])); first | exact zb_mod (by omega) | (rw [Int.zero_sub]; exact zb_mod (by omega))
                    have hC9 : (if bn = 1 ∨ nv0 F u Wv k.toNat = -1 then (1 : Int) else 0) = bn := by
                      rw [hnv0]
                      rcases hbn with q | q
                      · rw [if_neg (by intro y; rcases y with y | y; omega; exact hne y), q]
                      · rw [if_pos (Or.inl q), q]
                    have hB9 : ns0 F u Wv Sv k.toNat = ((su * gw) + (gu * sw)) % (fP F) := by rw [hns0, if_neg hne]; unfold rkS; (repeat (first | rw [if_pos (by omega)] | rw [if_neg (by omega)])); first | done | rfl | rw [Int.zero_sub]
                    exact q_vret S0 hr hlocks () (trivial) rfl (hW.sub [0, 1, 2, 3, 4, 5, 6, 7] rfl (by rw [hA9, hB9, hC9]; rfl)) (Nat.le_of_ble_eq_true rfl) (Nat.le_of_ble_eq_true rfl) dX11_reckons_569
                · skip
                  refine lv_aload_n S0.1 S0.2.1 dX11_reckons_226 rfl (lv_at hl 6 rfl) ?_
                  refine q_get (C := RX11) (T := TX11) (N := 26) S0 hK hW.1 hinX11 0 rfl rfl 16 (by decide) (List.mem_of_getElem? (i := 2) rfl) rfl rfl dX11_reckons_227 ?_
                  refine lv_iload_n S0.1 S0.2.1 dX11_reckons_230 rfl (lv_at hl 8 rfl) ?_
                  refine lv_aload_n S0.1 S0.2.1 dX11_reckons_231 rfl (lv_at hl 6 rfl) ?_
                  refine lv_iload S0.1 S0.2.1 dX11_reckons_232 (lv_at hl 3 rfl) ?_
                  refine lv_iload S0.1 S0.2.1 dX11_reckons_234 (lv_at hl 1 rfl) ?_
                  refine q_isub S0 dX11_reckons_236 ?_
                  refine q_pV (n := 1) (rest := [.int (iI k), .ref v1]) S0 hK (c_X11_p l g mo az ap ak ax a1 a2 a3 a4 a5 a6 v1 v2 v3 v4 v5 v6 pm ik ty th mn wt bn wh dp dg Z (fP F) (gu - gw) (hpr) (hz.1) (by omega)) (subP hW.1 [0, 1] rfl) (trivial) gX11_reckons_X11_p rfl rfl rfl (by decide +kernel) ⟨Nat.le_of_ble_eq_true rfl, Nat.le_of_ble_eq_true rfl⟩ (q_recv hK hW.1 (ci := 11) (q0 := 0) rfl rfl) rfl rfl hl.1 (Nat.le_of_ble_eq_true rfl) ⟨Nat.le_of_ble_eq_true rfl, Nat.le_of_ble_eq_true rfl⟩ dX11_reckons_237 ?_
                  refine W.eq (g2 := F0 m 240 ls [.int (iI ((gu - gw) % (fP F))), .int (iI k), .ref v1]) rfl ?_
                  refine q_iast S0 hK hW 4 rfl (by omega) dX11_reckons_240 (fun H locs hW => ?_)
                  have hW : gW g A s.heap H _ [(mo, .inr (11, [.ref az, .ref ap, .int (iI pm), .ref ak, .int (iI ik), .ref ax, .int (iI ty), .int (iI th), .ref a1, .ref a2, .int (iI mn), .ref a3, .int (iI wt), .ref a4, .ref a5, .ref a6, .ref v1, .ref v2, .ref v3, .ref v4, .ref v5, .ref v6, .int (iI bn), .int (iI wh), .int (iI dp), .int (iI dg)])), (az, gI g 325 Z), (a4, gI g 796 VT), (a5, gI g 796 HT), (v1, gI g 41 (up Wv ((k).toNat) ((gu - gw) % (fP F)))), (v2, gI g 41 Sv), (v3, gI g 41 L), (v4, gI g 41 V)] := hW
                  refine lv_aload_n S0.1 S0.2.1 dX11_reckons_241 rfl (lv_at hl 6 rfl) ?_
                  refine q_get (C := RX11) (T := TX11) (N := 26) S0 hK hW.1 hinX11 0 rfl rfl 17 (by decide) (List.mem_of_getElem? (i := 3) rfl) rfl rfl dX11_reckons_242 ?_
                  refine lv_iload_n S0.1 S0.2.1 dX11_reckons_245 rfl (lv_at hl 8 rfl) ?_
                  refine lv_aload_n S0.1 S0.2.1 dX11_reckons_246 rfl (lv_at hl 6 rfl) ?_
                  refine lv_iload S0.1 S0.2.1 dX11_reckons_247 (lv_at hl 2 rfl) ?_
                  refine lv_iload S0.1 S0.2.1 dX11_reckons_249 (lv_at hl 0 rfl) ?_
                  refine q_isub S0 dX11_reckons_251 ?_
                  refine q_pV (n := 1) (rest := [.int (iI k), .ref v2]) S0 hK (c_X11_p l g mo az ap ak ax a1 a2 a3 a4 a5 a6 v1 v2 v3 v4 v5 v6 pm ik ty th mn wt bn wh dp dg Z (fP F) (su - sw) (hpr) (hz.1) (by omega)) (subP hW.1 [0, 1] rfl) (trivial) gX11_reckons_X11_p rfl rfl rfl (by decide +kernel) ⟨Nat.le_of_ble_eq_true rfl, Nat.le_of_ble_eq_true rfl⟩ (q_recv hK hW.1 (ci := 11) (q0 := 0) rfl rfl) rfl rfl hl.1 (Nat.le_of_ble_eq_true rfl) ⟨Nat.le_of_ble_eq_true rfl, Nat.le_of_ble_eq_true rfl⟩ dX11_reckons_252 ?_
                  refine W.eq (g2 := F0 m 255 ls [.int (iI ((su - sw) % (fP F))), .int (iI k), .ref v2]) rfl ?_
                  refine q_iast S0 hK hW 5 rfl (by omega) dX11_reckons_255 (fun H locs hW => ?_)
                  have hW : gW g A s.heap H _ [(mo, .inr (11, [.ref az, .ref ap, .int (iI pm), .ref ak, .int (iI ik), .ref ax, .int (iI ty), .int (iI th), .ref a1, .ref a2, .int (iI mn), .ref a3, .int (iI wt), .ref a4, .ref a5, .ref a6, .ref v1, .ref v2, .ref v3, .ref v4, .ref v5, .ref v6, .int (iI bn), .int (iI wh), .int (iI dp), .int (iI dg)])), (az, gI g 325 Z), (a4, gI g 796 VT), (a5, gI g 796 HT), (v1, gI g 41 (up Wv ((k).toNat) ((gu - gw) % (fP F)))), (v2, gI g 41 (up Sv ((k).toNat) ((su - sw) % (fP F)))), (v3, gI g 41 L), (v4, gI g 41 V)] := hW
                  refine lv_goto (tgt := 569) S0.1 S0.2.1 dX11_reckons_256 (by decide) ?_
                  have hne : ¬ rkV F u nu gu gw k.toNat = -1 := by unfold rkV; (repeat (first | rw [if_pos (by omega)] | rw [if_neg (by omega)])); exact mod_ne (by omega)
                  have hA9 : zb (nv0 F u Wv k.toNat) = (gu - gw) % (fP F) := by rw [hnv0]; unfold rkV; (repeat (first | rw [if_pos (by omega)] | rw [if_neg (by omega)])); first | exact zb_mod (by omega) | (rw [Int.zero_sub]; exact zb_mod (by omega))
                  have hC9 : (if bn = 1 ∨ nv0 F u Wv k.toNat = -1 then (1 : Int) else 0) = bn := by
                    rw [hnv0]
                    rcases hbn with q | q
                    · rw [if_neg (by intro y; rcases y with y | y; omega; exact hne y), q]
                    · rw [if_pos (Or.inl q), q]
                  have hB9 : ns0 F u Wv Sv k.toNat = (su - sw) % (fP F) := by rw [hns0, if_neg hne]; unfold rkS; (repeat (first | rw [if_pos (by omega)] | rw [if_neg (by omega)])); first | done | rfl | rw [Int.zero_sub]
                  exact q_vret S0 hr hlocks () (trivial) rfl (hW.sub [0, 1, 2, 3, 4, 5, 6, 7] rfl (by rw [hA9, hB9, hC9]; rfl)) (Nat.le_of_ble_eq_true rfl) (Nat.le_of_ble_eq_true rfl) dX11_reckons_569
              · skip
                refine lv_aload_n S0.1 S0.2.1 dX11_reckons_188 rfl (lv_at hl 6 rfl) ?_
                refine q_get (C := RX11) (T := TX11) (N := 26) S0 hK hW.1 hinX11 0 rfl rfl 16 (by decide) (List.mem_of_getElem? (i := 2) rfl) rfl rfl dX11_reckons_189 ?_
                refine lv_iload_n S0.1 S0.2.1 dX11_reckons_192 rfl (lv_at hl 8 rfl) ?_
                refine lv_aload_n S0.1 S0.2.1 dX11_reckons_193 rfl (lv_at hl 6 rfl) ?_
                refine lv_iload S0.1 S0.2.1 dX11_reckons_194 (lv_at hl 3 rfl) ?_
                refine lv_iload S0.1 S0.2.1 dX11_reckons_196 (lv_at hl 1 rfl) ?_
                refine q_iadd S0 dX11_reckons_198 ?_
                refine q_pV (n := 1) (rest := [.int (iI k), .ref v1]) S0 hK (c_X11_p l g mo az ap ak ax a1 a2 a3 a4 a5 a6 v1 v2 v3 v4 v5 v6 pm ik ty th mn wt bn wh dp dg Z (fP F) (gu + gw) (hpr) (hz.1) (by omega)) (subP hW.1 [0, 1] rfl) (trivial) gX11_reckons_X11_p rfl rfl rfl (by decide +kernel) ⟨Nat.le_of_ble_eq_true rfl, Nat.le_of_ble_eq_true rfl⟩ (q_recv hK hW.1 (ci := 11) (q0 := 0) rfl rfl) rfl rfl hl.1 (Nat.le_of_ble_eq_true rfl) ⟨Nat.le_of_ble_eq_true rfl, Nat.le_of_ble_eq_true rfl⟩ dX11_reckons_199 ?_
                refine W.eq (g2 := F0 m 202 ls [.int (iI ((gu + gw) % (fP F))), .int (iI k), .ref v1]) rfl ?_
                refine q_iast S0 hK hW 4 rfl (by omega) dX11_reckons_202 (fun H locs hW => ?_)
                have hW : gW g A s.heap H _ [(mo, .inr (11, [.ref az, .ref ap, .int (iI pm), .ref ak, .int (iI ik), .ref ax, .int (iI ty), .int (iI th), .ref a1, .ref a2, .int (iI mn), .ref a3, .int (iI wt), .ref a4, .ref a5, .ref a6, .ref v1, .ref v2, .ref v3, .ref v4, .ref v5, .ref v6, .int (iI bn), .int (iI wh), .int (iI dp), .int (iI dg)])), (az, gI g 325 Z), (a4, gI g 796 VT), (a5, gI g 796 HT), (v1, gI g 41 (up Wv ((k).toNat) ((gu + gw) % (fP F)))), (v2, gI g 41 Sv), (v3, gI g 41 L), (v4, gI g 41 V)] := hW
                refine lv_aload_n S0.1 S0.2.1 dX11_reckons_203 rfl (lv_at hl 6 rfl) ?_
                refine q_get (C := RX11) (T := TX11) (N := 26) S0 hK hW.1 hinX11 0 rfl rfl 17 (by decide) (List.mem_of_getElem? (i := 3) rfl) rfl rfl dX11_reckons_204 ?_
                refine lv_iload_n S0.1 S0.2.1 dX11_reckons_207 rfl (lv_at hl 8 rfl) ?_
                refine lv_aload_n S0.1 S0.2.1 dX11_reckons_208 rfl (lv_at hl 6 rfl) ?_
                refine lv_iload S0.1 S0.2.1 dX11_reckons_209 (lv_at hl 2 rfl) ?_
                refine lv_iload S0.1 S0.2.1 dX11_reckons_211 (lv_at hl 0 rfl) ?_
                refine q_iadd S0 dX11_reckons_213 ?_
                refine q_pV (n := 1) (rest := [.int (iI k), .ref v2]) S0 hK (c_X11_p l g mo az ap ak ax a1 a2 a3 a4 a5 a6 v1 v2 v3 v4 v5 v6 pm ik ty th mn wt bn wh dp dg Z (fP F) (su + sw) (hpr) (hz.1) (by omega)) (subP hW.1 [0, 1] rfl) (trivial) gX11_reckons_X11_p rfl rfl rfl (by decide +kernel) ⟨Nat.le_of_ble_eq_true rfl, Nat.le_of_ble_eq_true rfl⟩ (q_recv hK hW.1 (ci := 11) (q0 := 0) rfl rfl) rfl rfl hl.1 (Nat.le_of_ble_eq_true rfl) ⟨Nat.le_of_ble_eq_true rfl, Nat.le_of_ble_eq_true rfl⟩ dX11_reckons_214 ?_
                refine W.eq (g2 := F0 m 217 ls [.int (iI ((su + sw) % (fP F))), .int (iI k), .ref v2]) rfl ?_
                refine q_iast S0 hK hW 5 rfl (by omega) dX11_reckons_217 (fun H locs hW => ?_)
                have hW : gW g A s.heap H _ [(mo, .inr (11, [.ref az, .ref ap, .int (iI pm), .ref ak, .int (iI ik), .ref ax, .int (iI ty), .int (iI th), .ref a1, .ref a2, .int (iI mn), .ref a3, .int (iI wt), .ref a4, .ref a5, .ref a6, .ref v1, .ref v2, .ref v3, .ref v4, .ref v5, .ref v6, .int (iI bn), .int (iI wh), .int (iI dp), .int (iI dg)])), (az, gI g 325 Z), (a4, gI g 796 VT), (a5, gI g 796 HT), (v1, gI g 41 (up Wv ((k).toNat) ((gu + gw) % (fP F)))), (v2, gI g 41 (up Sv ((k).toNat) ((su + sw) % (fP F)))), (v3, gI g 41 L), (v4, gI g 41 V)] := hW
                refine lv_goto (tgt := 569) S0.1 S0.2.1 dX11_reckons_218 (by decide) ?_
                have hne : ¬ rkV F u nu gu gw k.toNat = -1 := by unfold rkV; (repeat (first | rw [if_pos (by omega)] | rw [if_neg (by omega)])); exact mod_ne (by omega)
                have hA9 : zb (nv0 F u Wv k.toNat) = (gu + gw) % (fP F) := by rw [hnv0]; unfold rkV; (repeat (first | rw [if_pos (by omega)] | rw [if_neg (by omega)])); first | exact zb_mod (by omega) | (rw [Int.zero_sub]; exact zb_mod (by omega))
                have hC9 : (if bn = 1 ∨ nv0 F u Wv k.toNat = -1 then (1 : Int) else 0) = bn := by
                  rw [hnv0]
                  rcases hbn with q | q
                  · rw [if_neg (by intro y; rcases y with y | y; omega; exact hne y), q]
                  · rw [if_pos (Or.inl q), q]
                have hB9 : ns0 F u Wv Sv k.toNat = (su + sw) % (fP F) := by rw [hns0, if_neg hne]; unfold rkS; (repeat (first | rw [if_pos (by omega)] | rw [if_neg (by omega)])); first | done | rfl | rw [Int.zero_sub]
                exact q_vret S0 hr hlocks () (trivial) rfl (hW.sub [0, 1, 2, 3, 4, 5, 6, 7] rfl (by rw [hA9, hB9, hC9]; rfl)) (Nat.le_of_ble_eq_true rfl) (Nat.le_of_ble_eq_true rfl) dX11_reckons_569
            · skip
              refine lv_aload_n S0.1 S0.2.1 dX11_reckons_154 rfl (lv_at hl 6 rfl) ?_
              refine q_get (C := RX11) (T := TX11) (N := 26) S0 hK hW.1 hinX11 0 rfl rfl 16 (by decide) (List.mem_of_getElem? (i := 2) rfl) rfl rfl dX11_reckons_155 ?_
              refine lv_iload_n S0.1 S0.2.1 dX11_reckons_158 rfl (lv_at hl 8 rfl) ?_
              refine lv_aload_n S0.1 S0.2.1 dX11_reckons_159 rfl (lv_at hl 6 rfl) ?_
              refine lv_iload S0.1 S0.2.1 dX11_reckons_160 (lv_at hl 3 rfl) ?_
              refine q_ineg S0 dX11_reckons_162 ?_
              refine q_pV (n := 1) (rest := [.int (iI k), .ref v1]) S0 hK (c_X11_p l g mo az ap ak ax a1 a2 a3 a4 a5 a6 v1 v2 v3 v4 v5 v6 pm ik ty th mn wt bn wh dp dg Z (fP F) (-gu) (hpr) (hz.1) (by omega)) (subP hW.1 [0, 1] rfl) (trivial) gX11_reckons_X11_p rfl rfl rfl (by decide +kernel) ⟨Nat.le_of_ble_eq_true rfl, Nat.le_of_ble_eq_true rfl⟩ (q_recv hK hW.1 (ci := 11) (q0 := 0) rfl rfl) rfl rfl hl.1 (Nat.le_of_ble_eq_true rfl) ⟨Nat.le_of_ble_eq_true rfl, Nat.le_of_ble_eq_true rfl⟩ dX11_reckons_163 ?_
              refine W.eq (g2 := F0 m 166 ls [.int (iI ((-gu) % (fP F))), .int (iI k), .ref v1]) rfl ?_
              refine q_iast S0 hK hW 4 rfl (by omega) dX11_reckons_166 (fun H locs hW => ?_)
              have hW : gW g A s.heap H _ [(mo, .inr (11, [.ref az, .ref ap, .int (iI pm), .ref ak, .int (iI ik), .ref ax, .int (iI ty), .int (iI th), .ref a1, .ref a2, .int (iI mn), .ref a3, .int (iI wt), .ref a4, .ref a5, .ref a6, .ref v1, .ref v2, .ref v3, .ref v4, .ref v5, .ref v6, .int (iI bn), .int (iI wh), .int (iI dp), .int (iI dg)])), (az, gI g 325 Z), (a4, gI g 796 VT), (a5, gI g 796 HT), (v1, gI g 41 (up Wv ((k).toNat) ((-gu) % (fP F)))), (v2, gI g 41 Sv), (v3, gI g 41 L), (v4, gI g 41 V)] := hW
              refine lv_aload_n S0.1 S0.2.1 dX11_reckons_167 rfl (lv_at hl 6 rfl) ?_
              refine q_get (C := RX11) (T := TX11) (N := 26) S0 hK hW.1 hinX11 0 rfl rfl 17 (by decide) (List.mem_of_getElem? (i := 3) rfl) rfl rfl dX11_reckons_168 ?_
              refine lv_iload_n S0.1 S0.2.1 dX11_reckons_171 rfl (lv_at hl 8 rfl) ?_
              refine lv_aload_n S0.1 S0.2.1 dX11_reckons_172 rfl (lv_at hl 6 rfl) ?_
              refine lv_iload S0.1 S0.2.1 dX11_reckons_173 (lv_at hl 2 rfl) ?_
              refine q_ineg S0 dX11_reckons_175 ?_
              refine q_pV (n := 1) (rest := [.int (iI k), .ref v2]) S0 hK (c_X11_p l g mo az ap ak ax a1 a2 a3 a4 a5 a6 v1 v2 v3 v4 v5 v6 pm ik ty th mn wt bn wh dp dg Z (fP F) (-su) (hpr) (hz.1) (by omega)) (subP hW.1 [0, 1] rfl) (trivial) gX11_reckons_X11_p rfl rfl rfl (by decide +kernel) ⟨Nat.le_of_ble_eq_true rfl, Nat.le_of_ble_eq_true rfl⟩ (q_recv hK hW.1 (ci := 11) (q0 := 0) rfl rfl) rfl rfl hl.1 (Nat.le_of_ble_eq_true rfl) ⟨Nat.le_of_ble_eq_true rfl, Nat.le_of_ble_eq_true rfl⟩ dX11_reckons_176 ?_
              refine W.eq (g2 := F0 m 179 ls [.int (iI ((-su) % (fP F))), .int (iI k), .ref v2]) rfl ?_
              refine q_iast S0 hK hW 5 rfl (by omega) dX11_reckons_179 (fun H locs hW => ?_)
              have hW : gW g A s.heap H _ [(mo, .inr (11, [.ref az, .ref ap, .int (iI pm), .ref ak, .int (iI ik), .ref ax, .int (iI ty), .int (iI th), .ref a1, .ref a2, .int (iI mn), .ref a3, .int (iI wt), .ref a4, .ref a5, .ref a6, .ref v1, .ref v2, .ref v3, .ref v4, .ref v5, .ref v6, .int (iI bn), .int (iI wh), .int (iI dp), .int (iI dg)])), (az, gI g 325 Z), (a4, gI g 796 VT), (a5, gI g 796 HT), (v1, gI g 41 (up Wv ((k).toNat) ((-gu) % (fP F)))), (v2, gI g 41 (up Sv ((k).toNat) ((-su) % (fP F)))), (v3, gI g 41 L), (v4, gI g 41 V)] := hW
              refine lv_goto (tgt := 569) S0.1 S0.2.1 dX11_reckons_180 (by decide) ?_
              have hne : ¬ rkV F u nu gu gw k.toNat = -1 := by unfold rkV; (repeat (first | rw [if_pos (by omega)] | rw [if_neg (by omega)])); exact mod_ne (by omega)
              have hA9 : zb (nv0 F u Wv k.toNat) = (-gu) % (fP F) := by rw [hnv0]; unfold rkV; (repeat (first | rw [if_pos (by omega)] | rw [if_neg (by omega)])); first | exact zb_mod (by omega) | (rw [Int.zero_sub]; exact zb_mod (by omega))
              have hC9 : (if bn = 1 ∨ nv0 F u Wv k.toNat = -1 then (1 : Int) else 0) = bn := by
                rw [hnv0]
                rcases hbn with q | q
                · rw [if_neg (by intro y; rcases y with y | y; omega; exact hne y), q]
                · rw [if_pos (Or.inl q), q]
              have hB9 : ns0 F u Wv Sv k.toNat = (-su) % (fP F) := by rw [hns0, if_neg hne]; unfold rkS; (repeat (first | rw [if_pos (by omega)] | rw [if_neg (by omega)])); first | done | rfl | rw [Int.zero_sub]
              exact q_vret S0 hr hlocks () (trivial) rfl (hW.sub [0, 1, 2, 3, 4, 5, 6, 7] rfl (by rw [hA9, hB9, hC9]; rfl)) (Nat.le_of_ble_eq_true rfl) (Nat.le_of_ble_eq_true rfl) dX11_reckons_569
          · skip
            refine lv_aload_n S0.1 S0.2.1 dX11_reckons_127 rfl (lv_at hl 6 rfl) ?_
            refine q_get (C := RX11) (T := TX11) (N := 26) S0 hK hW.1 hinX11 0 rfl rfl 16 (by decide) (List.mem_of_getElem? (i := 2) rfl) rfl rfl dX11_reckons_128 ?_
            refine lv_iload_n S0.1 S0.2.1 dX11_reckons_131 rfl (lv_at hl 8 rfl) ?_
            refine lv_aload_n S0.1 S0.2.1 dX11_reckons_132 rfl (lv_at hl 6 rfl) ?_
            refine lv_iload S0.1 S0.2.1 dX11_reckons_133 (lv_at hl 4 rfl) ?_
            refine q_pV (n := 1) (rest := [.int (iI k), .ref v1]) S0 hK (c_X11_p l g mo az ap ak ax a1 a2 a3 a4 a5 a6 v1 v2 v3 v4 v5 v6 pm ik ty th mn wt bn wh dp dg Z (fP F) nu (hpr) (hz.1) (by omega)) (subP hW.1 [0, 1] rfl) (trivial) gX11_reckons_X11_p rfl rfl rfl (by decide +kernel) ⟨Nat.le_of_ble_eq_true rfl, Nat.le_of_ble_eq_true rfl⟩ (q_recv hK hW.1 (ci := 11) (q0 := 0) rfl rfl) rfl rfl hl.1 (Nat.le_of_ble_eq_true rfl) ⟨Nat.le_of_ble_eq_true rfl, Nat.le_of_ble_eq_true rfl⟩ dX11_reckons_135 ?_
            refine W.eq (g2 := F0 m 138 ls [.int (iI (nu % (fP F))), .int (iI k), .ref v1]) rfl ?_
            refine q_iast S0 hK hW 4 rfl (by omega) dX11_reckons_138 (fun H locs hW => ?_)
            have hW : gW g A s.heap H _ [(mo, .inr (11, [.ref az, .ref ap, .int (iI pm), .ref ak, .int (iI ik), .ref ax, .int (iI ty), .int (iI th), .ref a1, .ref a2, .int (iI mn), .ref a3, .int (iI wt), .ref a4, .ref a5, .ref a6, .ref v1, .ref v2, .ref v3, .ref v4, .ref v5, .ref v6, .int (iI bn), .int (iI wh), .int (iI dp), .int (iI dg)])), (az, gI g 325 Z), (a4, gI g 796 VT), (a5, gI g 796 HT), (v1, gI g 41 (up Wv ((k).toNat) (nu % (fP F)))), (v2, gI g 41 Sv), (v3, gI g 41 L), (v4, gI g 41 V)] := hW
            refine lv_aload_n S0.1 S0.2.1 dX11_reckons_139 rfl (lv_at hl 6 rfl) ?_
            refine q_get (C := RX11) (T := TX11) (N := 26) S0 hK hW.1 hinX11 0 rfl rfl 17 (by decide) (List.mem_of_getElem? (i := 3) rfl) rfl rfl dX11_reckons_140 ?_
            refine lv_iload_n S0.1 S0.2.1 dX11_reckons_143 rfl (lv_at hl 8 rfl) ?_
            refine q_iconst S0 dX11_reckons_144 ?_
            refine q_iast S0 hK hW 5 rfl (by omega) dX11_reckons_145 (fun H locs hW => ?_)
            have hW : gW g A s.heap H _ [(mo, .inr (11, [.ref az, .ref ap, .int (iI pm), .ref ak, .int (iI ik), .ref ax, .int (iI ty), .int (iI th), .ref a1, .ref a2, .int (iI mn), .ref a3, .int (iI wt), .ref a4, .ref a5, .ref a6, .ref v1, .ref v2, .ref v3, .ref v4, .ref v5, .ref v6, .int (iI bn), .int (iI wh), .int (iI dp), .int (iI dg)])), (az, gI g 325 Z), (a4, gI g 796 VT), (a5, gI g 796 HT), (v1, gI g 41 (up Wv ((k).toNat) (nu % (fP F)))), (v2, gI g 41 (up Sv ((k).toNat) 0)), (v3, gI g 41 L), (v4, gI g 41 V)] := hW
            refine lv_goto (tgt := 569) S0.1 S0.2.1 dX11_reckons_146 (by decide) ?_
            have hne : ¬ rkV F u nu gu gw k.toNat = -1 := by unfold rkV; (repeat (first | rw [if_pos (by omega)] | rw [if_neg (by omega)])); exact mod_ne (by omega)
            have hA9 : zb (nv0 F u Wv k.toNat) = nu % (fP F) := by rw [hnv0]; unfold rkV; (repeat (first | rw [if_pos (by omega)] | rw [if_neg (by omega)])); first | exact zb_mod (by omega) | (rw [Int.zero_sub]; exact zb_mod (by omega))
            have hC9 : (if bn = 1 ∨ nv0 F u Wv k.toNat = -1 then (1 : Int) else 0) = bn := by
              rw [hnv0]
              rcases hbn with q | q
              · rw [if_neg (by intro y; rcases y with y | y; omega; exact hne y), q]
              · rw [if_pos (Or.inl q), q]
            have hB9 : ns0 F u Wv Sv k.toNat = 0 := by rw [hns0, if_neg hne]; unfold rkS; (repeat (first | rw [if_pos (by omega)] | rw [if_neg (by omega)])); first | done | rfl | rw [Int.zero_sub]
            exact q_vret S0 hr hlocks () (trivial) rfl (hW.sub [0, 1, 2, 3, 4, 5, 6, 7] rfl (by rw [hA9, hB9, hC9]; rfl)) (Nat.le_of_ble_eq_true rfl) (Nat.le_of_ble_eq_true rfl) dX11_reckons_569
        · skip
          refine lv_aload_n S0.1 S0.2.1 dX11_reckons_96 rfl (lv_at hl 5 rfl) ?_
          refine q_get (C := RX11) (T := TX11) (N := 26) S0 hK hW.1 hinX11 0 rfl rfl 19 (by decide) (List.mem_of_getElem? (i := 4) rfl) rfl rfl dX11_reckons_97 ?_
          refine lv_iload_n S0.1 S0.2.1 dX11_reckons_100 rfl (lv_at hl 7 rfl) ?_
          refine q_iald S0 hK hW.1 7 rfl (by omega) dX11_reckons_101 ?_
          refine q_iconst S0 dX11_reckons_102 ?_
          refine q_icmp_ne (tgt := 110) S0 (by omega) dX11_reckons_103 (by decide) (fun c103 => ?_) (fun c103 => ?_)
          · skip
            refine lv_aload_n S0.1 S0.2.1 dX11_reckons_110 rfl (lv_at hl 5 rfl) ?_
            refine q_get (C := RX11) (T := TX11) (N := 26) S0 hK hW.1 hinX11 0 rfl rfl 17 (by decide) (List.mem_of_getElem? (i := 3) rfl) rfl rfl dX11_reckons_111 ?_
            refine lv_aload_n S0.1 S0.2.1 dX11_reckons_114 rfl (lv_at hl 5 rfl) ?_
            refine q_get (C := RX11) (T := TX11) (N := 26) S0 hK hW.1 hinX11 0 rfl rfl 19 (by decide) (List.mem_of_getElem? (i := 4) rfl) rfl rfl dX11_reckons_115 ?_
            refine lv_iload_n S0.1 S0.2.1 dX11_reckons_118 rfl (lv_at hl 7 rfl) ?_
            refine q_iald S0 hK hW.1 7 rfl (by omega) dX11_reckons_119 ?_
            refine q_iald S0 hK hW.1 5 rfl (by omega) dX11_reckons_120 ?_
            exact hJ96 _ (by first | (rw [show eV (fE F u.toNat) k.toNat = -1 by omega, gv_neg]; done) | (rw [gv_of (by omega), hVk]; done))
          · skip
            refine q_iconst S0 dX11_reckons_106 ?_
            refine lv_goto (tgt := 121) S0.1 S0.2.1 dX11_reckons_107 (by decide) ?_
            exact hJ96 _ (by first | (rw [show eV (fE F u.toNat) k.toNat = -1 by omega, gv_neg]; done) | (rw [gv_of (by omega), hVk]; done))
      · skip
        refine lv_aload_n S0.1 S0.2.1 dX11_reckons_69 rfl (lv_at hl 4 rfl) ?_
        refine q_get (C := RX11) (T := TX11) (N := 26) S0 hK hW.1 hinX11 0 rfl rfl 19 (by decide) (List.mem_of_getElem? (i := 4) rfl) rfl rfl dX11_reckons_70 ?_
        refine lv_iload_n S0.1 S0.2.1 dX11_reckons_73 rfl (lv_at hl 6 rfl) ?_
        refine q_iald S0 hK hW.1 7 rfl (by omega) dX11_reckons_74 ?_
        refine q_iconst S0 dX11_reckons_75 ?_
        refine q_icmp_ne (tgt := 83) S0 (by omega) dX11_reckons_76 (by decide) (fun c76 => ?_) (fun c76 => ?_)
        · skip
          refine lv_aload_n S0.1 S0.2.1 dX11_reckons_83 rfl (lv_at hl 4 rfl) ?_
          refine q_get (C := RX11) (T := TX11) (N := 26) S0 hK hW.1 hinX11 0 rfl rfl 16 (by decide) (List.mem_of_getElem? (i := 2) rfl) rfl rfl dX11_reckons_84 ?_
          refine lv_aload_n S0.1 S0.2.1 dX11_reckons_87 rfl (lv_at hl 4 rfl) ?_
          refine q_get (C := RX11) (T := TX11) (N := 26) S0 hK hW.1 hinX11 0 rfl rfl 19 (by decide) (List.mem_of_getElem? (i := 4) rfl) rfl rfl dX11_reckons_88 ?_
          refine lv_iload_n S0.1 S0.2.1 dX11_reckons_91 rfl (lv_at hl 6 rfl) ?_
          refine q_iald S0 hK hW.1 7 rfl (by omega) dX11_reckons_92 ?_
          refine q_iald S0 hK hW.1 4 rfl (by omega) dX11_reckons_93 ?_
          exact hJ69 _ (by first | (rw [show eV (fE F u.toNat) k.toNat = -1 by omega, gv_neg]; done) | (rw [gv_of (by omega), hVk]; done))
        · skip
          refine q_iconst S0 dX11_reckons_79 ?_
          refine lv_goto (tgt := 94) S0.1 S0.2.1 dX11_reckons_80 (by decide) ?_
          exact hJ69 _ (by first | (rw [show eV (fE F u.toNat) k.toNat = -1 by omega, gv_neg]; done) | (rw [gv_of (by omega), hVk]; done))
    · skip
      refine lv_aload_n S0.1 S0.2.1 dX11_reckons_42 rfl (lv_at hl 3 rfl) ?_
      refine q_get (C := RX11) (T := TX11) (N := 26) S0 hK hW.1 hinX11 0 rfl rfl 18 (by decide) (List.mem_of_getElem? (i := 1) rfl) rfl rfl dX11_reckons_43 ?_
      refine lv_iload_n S0.1 S0.2.1 dX11_reckons_46 rfl (lv_at hl 5 rfl) ?_
      refine q_iald S0 hK hW.1 6 rfl (by omega) dX11_reckons_47 ?_
      refine q_iconst S0 dX11_reckons_48 ?_
      refine q_icmp_ne (tgt := 56) S0 (by omega) dX11_reckons_49 (by decide) (fun c49 => ?_) (fun c49 => ?_)
      · skip
        refine lv_aload_n S0.1 S0.2.1 dX11_reckons_56 rfl (lv_at hl 3 rfl) ?_
        refine q_get (C := RX11) (T := TX11) (N := 26) S0 hK hW.1 hinX11 0 rfl rfl 17 (by decide) (List.mem_of_getElem? (i := 3) rfl) rfl rfl dX11_reckons_57 ?_
        refine lv_aload_n S0.1 S0.2.1 dX11_reckons_60 rfl (lv_at hl 3 rfl) ?_
        refine q_get (C := RX11) (T := TX11) (N := 26) S0 hK hW.1 hinX11 0 rfl rfl 18 (by decide) (List.mem_of_getElem? (i := 1) rfl) rfl rfl dX11_reckons_61 ?_
        refine lv_iload_n S0.1 S0.2.1 dX11_reckons_64 rfl (lv_at hl 5 rfl) ?_
        refine q_iald S0 hK hW.1 6 rfl (by omega) dX11_reckons_65 ?_
        refine q_iald S0 hK hW.1 5 rfl (by omega) dX11_reckons_66 ?_
        exact hJ42 _ (by first | (rw [show eL (fE F u.toNat) k.toNat = -1 by omega, gv_neg]; done) | (rw [gv_of (by omega), hLk]; done))
      · skip
        refine q_iconst S0 dX11_reckons_52 ?_
        refine lv_goto (tgt := 67) S0.1 S0.2.1 dX11_reckons_53 (by decide) ?_
        exact hJ42 _ (by first | (rw [show eL (fE F u.toNat) k.toNat = -1 by omega, gv_neg]; done) | (rw [gv_of (by omega), hLk]; done))
  · skip
    refine lv_aload_n S0.1 S0.2.1 dX11_reckons_15 rfl (lv_at hl 2 rfl) ?_
    refine q_get (C := RX11) (T := TX11) (N := 26) S0 hK hW.1 hinX11 0 rfl rfl 18 (by decide) (List.mem_of_getElem? (i := 1) rfl) rfl rfl dX11_reckons_16 ?_
    refine lv_iload_n S0.1 S0.2.1 dX11_reckons_19 rfl (lv_at hl 4 rfl) ?_
    refine q_iald S0 hK hW.1 6 rfl (by omega) dX11_reckons_20 ?_
    refine q_iconst S0 dX11_reckons_21 ?_
    refine q_icmp_ne (tgt := 29) S0 (by omega) dX11_reckons_22 (by decide) (fun c22 => ?_) (fun c22 => ?_)
    · skip
      refine lv_aload_n S0.1 S0.2.1 dX11_reckons_29 rfl (lv_at hl 2 rfl) ?_
      refine q_get (C := RX11) (T := TX11) (N := 26) S0 hK hW.1 hinX11 0 rfl rfl 16 (by decide) (List.mem_of_getElem? (i := 2) rfl) rfl rfl dX11_reckons_30 ?_
      refine lv_aload_n S0.1 S0.2.1 dX11_reckons_33 rfl (lv_at hl 2 rfl) ?_
      refine q_get (C := RX11) (T := TX11) (N := 26) S0 hK hW.1 hinX11 0 rfl rfl 18 (by decide) (List.mem_of_getElem? (i := 1) rfl) rfl rfl dX11_reckons_34 ?_
      refine lv_iload_n S0.1 S0.2.1 dX11_reckons_37 rfl (lv_at hl 4 rfl) ?_
      refine q_iald S0 hK hW.1 6 rfl (by omega) dX11_reckons_38 ?_
      refine q_iald S0 hK hW.1 4 rfl (by omega) dX11_reckons_39 ?_
      exact hJ15 _ (by first | (rw [show eL (fE F u.toNat) k.toNat = -1 by omega, gv_neg]; done) | (rw [gv_of (by omega), hLk]; done))
    · skip
      refine q_iconst S0 dX11_reckons_25 ?_
      refine lv_goto (tgt := 40) S0.1 S0.2.1 dX11_reckons_26 (by decide) ?_
      exact hJ15 _ (by first | (rw [show eL (fE F u.toNat) k.toNat = -1 by omega, gv_neg]; done) | (rw [gv_of (by omega), hLk]; done))
