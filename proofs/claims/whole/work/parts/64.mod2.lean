set_option maxHeartbeats 4000000 in
set_option maxRecDepth 100000 in
theorem c_X11_endsNumber (l : Launch) (g : GG) (mo az ap ak ax a1 a2 a3 a4 a5 a6 v1 v2 v3 v4 v5 v6 : Nat) (pm ik ty th bn : Int) (N : NT) (i : Int) (hR : RN i N) (hi : nWh N = 1 → nN N + nP N + 1 ≤ i) (hq : ∀ j, -2147483648 ≤ nQ N j ∧ nQ N j < 2147483648) (hw : 0 ≤ nWh N ∧ nWh N ≤ 5) : qMet l yX11_endsNumber wsX11_endsNumber ({ frames := 3, cells := 0, slots := 0, locals := 62 }) g [.ref mo] [(mo, .inr (11, [.ref az, .ref ap, .int (iI pm), .ref ak, .int (iI ik), .ref ax, .int (iI ty), .int (iI th), .ref a1, .ref a2, .int (iI (nN N)), .ref a3, .int (iI (nP N)), .ref a4, .ref a5, .ref a6, .ref v1, .ref v2, .ref v3, .ref v4, .ref v5, .ref v6, .int (iI bn), .int (iI (nWh N)), .int (iI (nD N)), .int (iI (nG N))])), (a1, gI g 41 (nK N)), (a2, gI g 41 (nU N)), (a3, gI g 90 (nQ N))] (fun _ => True) (fun _ => True) (S := Unit) (fun _ => none) (fun _ => [(mo, .inr (11, [.ref az, .ref ap, .int (iI pm), .ref ak, .int (iI ik), .ref ax, .int (iI ty), .int (iI th), .ref a1, .ref a2, .int (iI (nN (mEnds N))), .ref a3, .int (iI (nP (mEnds N))), .ref a4, .ref a5, .ref a6, .ref v1, .ref v2, .ref v3, .ref v4, .ref v5, .ref v6, .int (iI bn), .int (iI (nWh (mEnds N))), .int (iI (nD (mEnds N))), .int (iI (nG (mEnds N)))])), (a1, gI g 41 (nK (mEnds N))), (a2, gI g 41 (nU (mEnds N))), (a3, gI g 90 (nQ (mEnds N)))]) (fun _ => True) 0 0 := by
  refine q_ofW (cc := cX11_endsNumber) (maxL := 1) (ret := none) (fun sz h => h.self) (by decide) rfl (Nat.le_of_ble_eq_true rfl) ?_
  intro p e s m args below meth c A ls S0 hr hlocks hnme hK hA hAe hW hD0 hX hl
  have hW : gW g A s.heap s.heap [] [(mo, .inr (11, [.ref az, .ref ap, .int (iI pm), .ref ak, .int (iI ik), .ref ax, .int (iI ty), .int (iI th), .ref a1, .ref a2, .int (iI (nN N)), .ref a3, .int (iI (nP N)), .ref a4, .ref a5, .ref a6, .ref v1, .ref v2, .ref v3, .ref v4, .ref v5, .ref v6, .int (iI bn), .int (iI (nWh N)), .int (iI (nD N)), .int (iI (nG N))])), (a1, gI g 41 (nK N)), (a2, gI g 41 (nU N)), (a3, gI g 90 (nQ N))] := hW
  have hl : lv_has ls 1 [(0, .ref mo)] := hl
  have hinX11 : ∀ w ∈ wsX110, w ∈ wsX11_endsNumber := fun w h => List.mem_cons_of_mem _ (List.mem_append_right _ h)
  have hR2 := hR
  unfold RN at hR2
  refine lv_aload_n S0.1 S0.2.1 dX11_endsNumber_0 rfl (lv_at hl 0 rfl) ?_
  refine q_get (C := RX11) (T := TX11) (N := 26) S0 hK hW.1 hinX11 0 rfl rfl 23 (by decide) (List.mem_of_getElem? (i := 1) rfl) rfl rfl dX11_endsNumber_1 ?_
  refine q_iconst S0 dX11_endsNumber_4 ?_
  refine q_icmp_ne (tgt := 26) S0 (by omega) dX11_endsNumber_5 (by decide) (fun c5 => ?_) (fun c5 => ?_)
  · skip
    exact q_vret S0 hr hlocks () (trivial) rfl (hW.sub [0, 1, 2, 3] rfl (by unfold mEnds; first | (rw [if_pos (by omega)]; rfl) | (rw [if_neg (by omega)]; rfl))) (Nat.le_of_ble_eq_true rfl) (Nat.le_of_ble_eq_true rfl) dX11_endsNumber_26
  · skip
    have hi9 := hi c5
    refine lv_aload_n S0.1 S0.2.1 dX11_endsNumber_8 rfl (lv_at hl 0 rfl) ?_
    refine q_iconst S0 dX11_endsNumber_9 ?_
    refine lv_aload_n S0.1 S0.2.1 dX11_endsNumber_10 rfl (lv_at hl 0 rfl) ?_
    refine q_get (C := RX11) (T := TX11) (N := 26) S0 hK hW.1 hinX11 0 rfl rfl 25 (by decide) (List.mem_of_getElem? (i := 2) rfl) rfl rfl dX11_endsNumber_11 ?_
    refine q_cV (n := 2) (rest := []) (wr := [(a3, gI g 90 (nQ N))]) S0 hK hA hW (c_X11_node l g mo az ap ak ax a1 a2 a3 a4 a5 a6 v1 v2 v3 v4 v5 v6 pm ik ty th bn N 0 (nG N) (by omega)) gX11_endsNumber_X11_node rfl rfl rfl (by decide +kernel) ⟨Nat.le_of_ble_eq_true rfl, Nat.le_of_ble_eq_true rfl⟩ [0, 1, 2] [3] rfl rfl rfl rfl (by decide) (q_recv hK hW.1 (ci := 11) (q0 := 0) rfl rfl) (fun _ _ => trivial) (trivial) rfl rfl hl.1 (Nat.le_of_ble_eq_true rfl) ⟨Nat.le_of_ble_eq_true rfl, Nat.le_of_ble_eq_true rfl⟩ dX11_endsNumber_14 (fun _ H locs _ hW => ?_)
    have hW : gW g A s.heap H _ [(a3, gI g 90 (nQ N)), (mo, .inr (11, [.ref az, .ref ap, .int (iI pm), .ref ak, .int (iI ik), .ref ax, .int (iI ty), .int (iI th), .ref a1, .ref a2, .int (iI (nN (mNode N 0 (nG N)))), .ref a3, .int (iI (nP (mNode N 0 (nG N)))), .ref a4, .ref a5, .ref a6, .ref v1, .ref v2, .ref v3, .ref v4, .ref v5, .ref v6, .int (iI bn), .int (iI (nWh (mNode N 0 (nG N)))), .int (iI (nD (mNode N 0 (nG N)))), .int (iI (nG (mNode N 0 (nG N))))])), (a1, gI g 41 (nK (mNode N 0 (nG N)))), (a2, gI g 41 (nU (mNode N 0 (nG N))))] := hW
    refine W.eq (g2 := F0 m 17 ls []) rfl ?_
    refine lv_aload_n S0.1 S0.2.1 dX11_endsNumber_17 rfl (lv_at hl 0 rfl) ?_
    refine q_cV (n := 0) (rest := []) (wr := []) S0 hK hA hW (c_X11_atom l g mo az ap ak ax a1 a2 a3 a4 a5 a6 v1 v2 v3 v4 v5 v6 pm ik ty th bn (mNode N 0 (nG N)) i (RN_node1 hR hi9) (hq)) gX11_endsNumber_X11_atom rfl rfl rfl (by decide +kernel) ⟨Nat.le_of_ble_eq_true rfl, Nat.le_of_ble_eq_true rfl⟩ [1, 2, 3, 0] [] rfl rfl rfl rfl (by decide) (q_recv hK hW.1 (ci := 11) (q0 := 1) rfl rfl) (fun _ _ => trivial) (trivial) rfl rfl hl.1 (Nat.le_of_ble_eq_true rfl) ⟨Nat.le_of_ble_eq_true rfl, Nat.le_of_ble_eq_true rfl⟩ dX11_endsNumber_18 (fun _ H locs _ hW => ?_)
    have hW : gW g A s.heap H _ [(mo, .inr (11, [.ref az, .ref ap, .int (iI pm), .ref ak, .int (iI ik), .ref ax, .int (iI ty), .int (iI th), .ref a1, .ref a2, .int (iI (nN (mAtom (mNode N 0 (nG N))))), .ref a3, .int (iI (nP (mAtom (mNode N 0 (nG N))))), .ref a4, .ref a5, .ref a6, .ref v1, .ref v2, .ref v3, .ref v4, .ref v5, .ref v6, .int (iI bn), .int (iI (nWh (mAtom (mNode N 0 (nG N))))), .int (iI (nD (mAtom (mNode N 0 (nG N))))), .int (iI (nG (mAtom (mNode N 0 (nG N)))))])), (a1, gI g 41 (nK (mAtom (mNode N 0 (nG N))))), (a2, gI g 41 (nU (mAtom (mNode N 0 (nG N))))), (a3, gI g 90 (nQ (mAtom (mNode N 0 (nG N)))))] := hW
    refine W.eq (g2 := F0 m 21 ls []) rfl ?_
    refine lv_aload_n S0.1 S0.2.1 dX11_endsNumber_21 rfl (lv_at hl 0 rfl) ?_
    refine q_iconst S0 dX11_endsNumber_22 ?_
    refine q_put (C := RX11) (T := TX11) (N := 26) S0 hK hW hinX11 tyX11_ok nmX11 0 rfl rfl 23 (by decide) (List.mem_of_getElem? (i := 1) rfl) rfl rfl rfl rfl (Nat.le_of_ble_eq_true rfl) dX11_endsNumber_23 (fun H locs hW => ?_)
    have hW : gW g A s.heap H _ [(mo, .inr (11, [.ref az, .ref ap, .int (iI pm), .ref ak, .int (iI ik), .ref ax, .int (iI ty), .int (iI th), .ref a1, .ref a2, .int (iI (nN (mAtom (mNode N 0 (nG N))))), .ref a3, .int (iI (nP (mAtom (mNode N 0 (nG N))))), .ref a4, .ref a5, .ref a6, .ref v1, .ref v2, .ref v3, .ref v4, .ref v5, .ref v6, .int (iI bn), .int (iI 2), .int (iI (nD (mAtom (mNode N 0 (nG N))))), .int (iI (nG (mAtom (mNode N 0 (nG N)))))])), (a1, gI g 41 (nK (mAtom (mNode N 0 (nG N))))), (a2, gI g 41 (nU (mAtom (mNode N 0 (nG N))))), (a3, gI g 90 (nQ (mAtom (mNode N 0 (nG N)))))] := hW
    exact q_vret S0 hr hlocks () (trivial) rfl (hW.sub [0, 1, 2, 3] rfl (by unfold mEnds; first | (rw [if_pos (by omega)]; rfl) | (rw [if_neg (by omega)]; rfl))) (Nat.le_of_ble_eq_true rfl) (Nat.le_of_ble_eq_true rfl) dX11_endsNumber_26
set_option maxHeartbeats 4000000 in
set_option maxRecDepth 100000 in
theorem c_X11_follows (l : Launch) (g : GG) (mo az ap ak ax a1 a2 a3 a4 a5 a6 v1 v2 v3 v4 v5 v6 : Nat) (pm ik ty th bn : Int) (N : NT) (i ch : Int) (hB : WB i N) (hi : i ≤ 39) (hc : 0 ≤ ch ∧ ch ≤ 65535) : qMet l yX11_follows wsX11_follows ({ frames := 3, cells := 0, slots := 0, locals := 63 }) g [.ref mo, .int (iI ch)] [(mo, .inr (11, [.ref az, .ref ap, .int (iI pm), .ref ak, .int (iI ik), .ref ax, .int (iI ty), .int (iI th), .ref a1, .ref a2, .int (iI (nN N)), .ref a3, .int (iI (nP N)), .ref a4, .ref a5, .ref a6, .ref v1, .ref v2, .ref v3, .ref v4, .ref v5, .ref v6, .int (iI bn), .int (iI (nWh N)), .int (iI (nD N)), .int (iI (nG N))])), (a1, gI g 41 (nK N)), (a2, gI g 41 (nU N)), (a3, gI g 90 (nQ N))] (fun _ => True) (fun _ => True) (S := Unit) (fun _ => some (.int (iI ((mFollows N ch).2)))) (fun _ => [(mo, .inr (11, [.ref az, .ref ap, .int (iI pm), .ref ak, .int (iI ik), .ref ax, .int (iI ty), .int (iI th), .ref a1, .ref a2, .int (iI (nN ((mFollows N ch).1))), .ref a3, .int (iI (nP ((mFollows N ch).1))), .ref a4, .ref a5, .ref a6, .ref v1, .ref v2, .ref v3, .ref v4, .ref v5, .ref v6, .int (iI bn), .int (iI (nWh ((mFollows N ch).1))), .int (iI (nD ((mFollows N ch).1))), .int (iI (nG ((mFollows N ch).1)))])), (a1, gI g 41 (nK ((mFollows N ch).1))), (a2, gI g 41 (nU ((mFollows N ch).1))), (a3, gI g 90 (nQ ((mFollows N ch).1)))]) (fun _ => True) 0 0 := by
  refine q_ofW (cc := cX11_follows) (maxL := 3) (ret := (some .boolean)) (fun sz h => h.self) (by decide) rfl (Nat.le_of_ble_eq_true rfl) ?_
  intro p e s m args below meth c A ls S0 hr hlocks hnme hK hA hAe hW hD0 hX hl
  have hW : gW g A s.heap s.heap [] [(mo, .inr (11, [.ref az, .ref ap, .int (iI pm), .ref ak, .int (iI ik), .ref ax, .int (iI ty), .int (iI th), .ref a1, .ref a2, .int (iI (nN N)), .ref a3, .int (iI (nP N)), .ref a4, .ref a5, .ref a6, .ref v1, .ref v2, .ref v3, .ref v4, .ref v5, .ref v6, .int (iI bn), .int (iI (nWh N)), .int (iI (nD N)), .int (iI (nG N))])), (a1, gI g 41 (nK N)), (a2, gI g 41 (nU N)), (a3, gI g 90 (nQ N))] := hW
  have hl : lv_has ls 3 [(0, .ref mo), (1, .int (iI ch))] := hl
  have hinX11 : ∀ w ∈ wsX110, w ∈ wsX11_follows := fun w h => List.mem_cons_of_mem _ (List.mem_append_right _ h)
  obtain ⟨hR, hZ, hD9, hS9, hw9⟩ := id hB
  have hck := c9_sk N
  have hcn := c9_nn (sk N)
  have hR2 := hR
  unfold RN at hR2
  have hq := WZ_q hZ
  refine q_cut (α := Unit) (fun _ => F0 m 21 ls []) (fun _ => ¬ (ch = 94 ∧ nWh N = 2)) (fun _ p21 => ?_) (fun hJ21 => ?_)
  · skip
    refine q_cut (α := Unit) (fun _ => F0 m 83 ls []) (fun _ => ¬ (ch = 41 ∧ 0 < nD N)) (fun _ p83 => ?_) (fun hJ83 => ?_)
    · skip
      refine lv_iload_n S0.1 S0.2.1 dX11_follows_83 rfl (lv_at hl 1 rfl) ?_
      refine q_bipush S0 (by decide) dX11_follows_84 ?_
      refine q_icmp_eq (tgt := 95) S0 (by omega) dX11_follows_86 (by decide) (fun c86 => ?_) (fun c86 => ?_)
      · skip
        refine q_iconst S0 dX11_follows_95 ?_
        refine lv_goto (tgt := 100) S0.1 S0.2.1 dX11_follows_96 (by decide) ?_
        refine lv_istore_n (lv' := [(2, .int (iI 1)), (0, .ref mo), (1, .int (iI ch))]) S0.1 S0.2.1 dX11_follows_100 rfl hl (by decide) rfl (fun ls hl => ?_)
        refine lv_iload_n S0.1 S0.2.1 dX11_follows_101 rfl (lv_at hl 0 rfl) ?_
        refine q_if_ne (tgt := 117) S0 (by omega) dX11_follows_102 (by decide) (fun c102 => ?_) (fun c102 => ?_)
        · skip
          refine lv_aload_n S0.1 S0.2.1 dX11_follows_117 rfl (lv_at hl 1 rfl) ?_
          refine lv_iload_n S0.1 S0.2.1 dX11_follows_118 rfl (lv_at hl 0 rfl) ?_
          refine q_cV (n := 1) (rest := []) (wr := []) S0 hK hA hW (c_X11_binds l g mo az ap ak ax a1 a2 a3 a4 a5 a6 v1 v2 v3 v4 v5 v6 pm ik ty th bn N i 1 (hR) (hq) (by omega)) gX11_follows_X11_binds rfl rfl rfl (by decide +kernel) ⟨Nat.le_of_ble_eq_true rfl, Nat.le_of_ble_eq_true rfl⟩ [0, 1, 2, 3] [] rfl rfl rfl rfl (by decide) (q_recv hK hW.1 (ci := 11) (q0 := 0) rfl rfl) (fun _ _ => trivial) (trivial) rfl rfl hl.1 (Nat.le_of_ble_eq_true rfl) ⟨Nat.le_of_ble_eq_true rfl, Nat.le_of_ble_eq_true rfl⟩ dX11_follows_119 (fun _ H locs _ hW => ?_)
          have hW : gW g A s.heap H _ [(mo, .inr (11, [.ref az, .ref ap, .int (iI pm), .ref ak, .int (iI ik), .ref ax, .int (iI ty), .int (iI th), .ref a1, .ref a2, .int (iI (nN (mBinds 1 N))), .ref a3, .int (iI (nP (mBinds 1 N))), .ref a4, .ref a5, .ref a6, .ref v1, .ref v2, .ref v3, .ref v4, .ref v5, .ref v6, .int (iI bn), .int (iI (nWh (mBinds 1 N))), .int (iI (nD (mBinds 1 N))), .int (iI (nG (mBinds 1 N)))])), (a1, gI g 41 (nK (mBinds 1 N))), (a2, gI g 41 (nU (mBinds 1 N))), (a3, gI g 90 (nQ (mBinds 1 N)))] := hW
          refine W.eq (g2 := F0 m 122 ls []) rfl ?_
          refine lv_aload_n S0.1 S0.2.1 dX11_follows_122 rfl (lv_at hl 1 rfl) ?_
          refine q_cut (α := Int) (fun sg9 => F0 m 155 ls (.int (iI sg9) :: [.ref mo])) (fun sg9 => sg9 = mSg ch) (fun sg9 hsg9 => ?_) (fun hJ123 => ?_)
          · skip
            refine q_iconst S0 dX11_follows_155 ?_
            have hrb := RN_binds (t := 1) hR
            have hrc := RN_binds (t := 0) hR
            unfold RN at hrb hrc
            refine q_cV (n := 2) (rest := []) (wr := [(a1, gI g 41 (nK (mBinds 1 N))), (a2, gI g 41 (nU (mBinds 1 N)))]) S0 hK hA hW (c_X11_waitsFor l g mo az ap ak ax a1 a2 a3 a4 a5 a6 v1 v2 v3 v4 v5 v6 pm ik ty th bn (mBinds 1 N) sg9 0 (by omega)) gX11_follows_X11_waitsFor rfl rfl rfl (by decide +kernel) ⟨Nat.le_of_ble_eq_true rfl, Nat.le_of_ble_eq_true rfl⟩ [0, 3] [1, 2] rfl rfl rfl rfl (by decide) (q_recv hK hW.1 (ci := 11) (q0 := 0) rfl rfl) (fun _ _ => trivial) (trivial) rfl rfl hl.1 (Nat.le_of_ble_eq_true rfl) ⟨Nat.le_of_ble_eq_true rfl, Nat.le_of_ble_eq_true rfl⟩ dX11_follows_156 (fun _ H locs _ hW => ?_)
            have hW : gW g A s.heap H _ [(a1, gI g 41 (nK (mBinds 1 N))), (a2, gI g 41 (nU (mBinds 1 N))), (mo, .inr (11, [.ref az, .ref ap, .int (iI pm), .ref ak, .int (iI ik), .ref ax, .int (iI ty), .int (iI th), .ref a1, .ref a2, .int (iI (nN (mWait (mBinds 1 N) sg9 0))), .ref a3, .int (iI (nP (mWait (mBinds 1 N) sg9 0))), .ref a4, .ref a5, .ref a6, .ref v1, .ref v2, .ref v3, .ref v4, .ref v5, .ref v6, .int (iI bn), .int (iI (nWh (mWait (mBinds 1 N) sg9 0))), .int (iI (nD (mWait (mBinds 1 N) sg9 0))), .int (iI (nG (mWait (mBinds 1 N) sg9 0)))])), (a3, gI g 90 (nQ (mWait (mBinds 1 N) sg9 0)))] := hW
            refine W.eq (g2 := F0 m 159 ls []) rfl ?_
            refine lv_aload_n S0.1 S0.2.1 dX11_follows_159 rfl (lv_at hl 1 rfl) ?_
            refine q_iconst S0 dX11_follows_160 ?_
            refine q_put (C := RX11) (T := TX11) (N := 26) S0 hK hW hinX11 tyX11_ok nmX11 2 rfl rfl 23 (by decide) (List.mem_of_getElem? (i := 1) rfl) rfl rfl rfl rfl (Nat.le_of_ble_eq_true rfl) dX11_follows_161 (fun H locs hW => ?_)
            have hW : gW g A s.heap H _ [(a1, gI g 41 (nK (mBinds 1 N))), (a2, gI g 41 (nU (mBinds 1 N))), (mo, .inr (11, [.ref az, .ref ap, .int (iI pm), .ref ak, .int (iI ik), .ref ax, .int (iI ty), .int (iI th), .ref a1, .ref a2, .int (iI (nN (mWait (mBinds 1 N) sg9 0))), .ref a3, .int (iI (nP (mWait (mBinds 1 N) sg9 0))), .ref a4, .ref a5, .ref a6, .ref v1, .ref v2, .ref v3, .ref v4, .ref v5, .ref v6, .int (iI bn), .int (iI 0), .int (iI (nD (mWait (mBinds 1 N) sg9 0))), .int (iI (nG (mWait (mBinds 1 N) sg9 0)))])), (a3, gI g 90 (nQ (mWait (mBinds 1 N) sg9 0)))] := hW
            refine q_iconst S0 dX11_follows_164 ?_
            exact q_zret S0 hr hlocks () (trivial) (by first | exact Or.inl rfl | exact Or.inr rfl | omega) (by first | (exfalso; omega) | unfold mFollows; (repeat (first | rw [if_pos (by omega)] | rw [if_neg (by omega)])); first | done | rfl | (unfold mClose mCl1; first | (rw [if_pos c65]; rfl) | (rw [if_neg c65]; rfl))) (hW.sub [2, 0, 1, 3] rfl (by first | (exfalso; omega) | (try rw [hsg9]); unfold mFollows; (repeat (first | rw [if_pos (by omega)] | rw [if_neg (by omega)])); first | done | rfl | (unfold mClose mCl1; first | (rw [if_pos c65]; rfl) | (rw [if_neg c65]; rfl)))) (Nat.le_of_ble_eq_true rfl) (Nat.le_of_ble_eq_true rfl) dX11_follows_165
          · skip
            refine lv_iload_n S0.1 S0.2.1 dX11_follows_123 rfl (lv_at hl 2 rfl) ?_
            refine q_bipush S0 (by decide) dX11_follows_124 ?_
            refine q_icmp_ne (tgt := 133) S0 (by omega) dX11_follows_126 (by decide) (fun c126 => ?_) (fun c126 => ?_)
            · skip
              refine lv_iload_n S0.1 S0.2.1 dX11_follows_133 rfl (lv_at hl 2 rfl) ?_
              refine q_bipush S0 (by decide) dX11_follows_134 ?_
              refine q_icmp_ne (tgt := 143) S0 (by omega) dX11_follows_136 (by decide) (fun c136 => ?_) (fun c136 => ?_)
              · skip
                refine lv_iload_n S0.1 S0.2.1 dX11_follows_143 rfl (lv_at hl 2 rfl) ?_
                refine q_bipush S0 (by decide) dX11_follows_144 ?_
                refine q_icmp_ne (tgt := 153) S0 (by omega) dX11_follows_146 (by decide) (fun c146 => ?_) (fun c146 => ?_)
                · skip
                  refine q_bipush S0 (by decide) dX11_follows_153 ?_
                  exact hJ123 _ (by first | (exfalso; omega) | unfold mSg; (repeat (first | rw [if_pos (by omega)] | rw [if_neg (by omega)])); done)
                · skip
                  refine q_iconst S0 dX11_follows_149 ?_
                  refine lv_goto (tgt := 155) S0.1 S0.2.1 dX11_follows_150 (by decide) ?_
                  exact hJ123 _ (by first | (exfalso; omega) | unfold mSg; (repeat (first | rw [if_pos (by omega)] | rw [if_neg (by omega)])); done)
              · skip
                refine q_iconst S0 dX11_follows_139 ?_
                refine lv_goto (tgt := 155) S0.1 S0.2.1 dX11_follows_140 (by decide) ?_
                exact hJ123 _ (by first | (exfalso; omega) | unfold mSg; (repeat (first | rw [if_pos (by omega)] | rw [if_neg (by omega)])); done)
            · skip
              refine q_iconst S0 dX11_follows_129 ?_
              refine lv_goto (tgt := 155) S0.1 S0.2.1 dX11_follows_130 (by decide) ?_
              exact hJ123 _ (by first | (exfalso; omega) | unfold mSg; (repeat (first | rw [if_pos (by omega)] | rw [if_neg (by omega)])); done)
        · skip
          exact absurd c102 (by omega)
      · skip
        refine lv_iload_n S0.1 S0.2.1 dX11_follows_89 rfl (lv_at hl 1 rfl) ?_
        refine q_bipush S0 (by decide) dX11_follows_90 ?_
        refine q_icmp_ne (tgt := 99) S0 (by omega) dX11_follows_92 (by decide) (fun c92 => ?_) (fun c92 => ?_)
        · skip
          refine q_iconst S0 dX11_follows_99 ?_
          refine lv_istore_n (lv' := [(2, .int (iI 0)), (0, .ref mo), (1, .int (iI ch))]) S0.1 S0.2.1 dX11_follows_100 rfl hl (by decide) rfl (fun ls hl => ?_)
          refine lv_iload_n S0.1 S0.2.1 dX11_follows_101 rfl (lv_at hl 0 rfl) ?_
          refine q_if_ne (tgt := 117) S0 (by omega) dX11_follows_102 (by decide) (fun c102 => ?_) (fun c102 => ?_)
          · skip
            exact absurd c102 (by omega)
          · skip
            refine lv_iload_n S0.1 S0.2.1 dX11_follows_105 rfl (lv_at hl 2 rfl) ?_
            refine q_bipush S0 (by decide) dX11_follows_106 ?_
            refine q_icmp_eq (tgt := 117) S0 (by omega) dX11_follows_108 (by decide) (fun c108 => ?_) (fun c108 => ?_)
            · skip
              refine lv_aload_n S0.1 S0.2.1 dX11_follows_117 rfl (lv_at hl 1 rfl) ?_
              refine lv_iload_n S0.1 S0.2.1 dX11_follows_118 rfl (lv_at hl 0 rfl) ?_
              refine q_cV (n := 1) (rest := []) (wr := []) S0 hK hA hW (c_X11_binds l g mo az ap ak ax a1 a2 a3 a4 a5 a6 v1 v2 v3 v4 v5 v6 pm ik ty th bn N i 0 (hR) (hq) (by omega)) gX11_follows_X11_binds rfl rfl rfl (by decide +kernel) ⟨Nat.le_of_ble_eq_true rfl, Nat.le_of_ble_eq_true rfl⟩ [0, 1, 2, 3] [] rfl rfl rfl rfl (by decide) (q_recv hK hW.1 (ci := 11) (q0 := 0) rfl rfl) (fun _ _ => trivial) (trivial) rfl rfl hl.1 (Nat.le_of_ble_eq_true rfl) ⟨Nat.le_of_ble_eq_true rfl, Nat.le_of_ble_eq_true rfl⟩ dX11_follows_119 (fun _ H locs _ hW => ?_)
              have hW : gW g A s.heap H _ [(mo, .inr (11, [.ref az, .ref ap, .int (iI pm), .ref ak, .int (iI ik), .ref ax, .int (iI ty), .int (iI th), .ref a1, .ref a2, .int (iI (nN (mBinds 0 N))), .ref a3, .int (iI (nP (mBinds 0 N))), .ref a4, .ref a5, .ref a6, .ref v1, .ref v2, .ref v3, .ref v4, .ref v5, .ref v6, .int (iI bn), .int (iI (nWh (mBinds 0 N))), .int (iI (nD (mBinds 0 N))), .int (iI (nG (mBinds 0 N)))])), (a1, gI g 41 (nK (mBinds 0 N))), (a2, gI g 41 (nU (mBinds 0 N))), (a3, gI g 90 (nQ (mBinds 0 N)))] := hW
              refine W.eq (g2 := F0 m 122 ls []) rfl ?_
              refine lv_aload_n S0.1 S0.2.1 dX11_follows_122 rfl (lv_at hl 1 rfl) ?_
              refine q_cut (α := Int) (fun sg9 => F0 m 155 ls (.int (iI sg9) :: [.ref mo])) (fun sg9 => sg9 = mSg ch) (fun sg9 hsg9 => ?_) (fun hJ123 => ?_)
              · skip
                refine q_iconst S0 dX11_follows_155 ?_
                have hrb := RN_binds (t := 1) hR
                have hrc := RN_binds (t := 0) hR
                unfold RN at hrb hrc
                refine q_cV (n := 2) (rest := []) (wr := [(a1, gI g 41 (nK (mBinds 0 N))), (a2, gI g 41 (nU (mBinds 0 N)))]) S0 hK hA hW (c_X11_waitsFor l g mo az ap ak ax a1 a2 a3 a4 a5 a6 v1 v2 v3 v4 v5 v6 pm ik ty th bn (mBinds 0 N) sg9 0 (by omega)) gX11_follows_X11_waitsFor rfl rfl rfl (by decide +kernel) ⟨Nat.le_of_ble_eq_true rfl, Nat.le_of_ble_eq_true rfl⟩ [0, 3] [1, 2] rfl rfl rfl rfl (by decide) (q_recv hK hW.1 (ci := 11) (q0 := 0) rfl rfl) (fun _ _ => trivial) (trivial) rfl rfl hl.1 (Nat.le_of_ble_eq_true rfl) ⟨Nat.le_of_ble_eq_true rfl, Nat.le_of_ble_eq_true rfl⟩ dX11_follows_156 (fun _ H locs _ hW => ?_)
                have hW : gW g A s.heap H _ [(a1, gI g 41 (nK (mBinds 0 N))), (a2, gI g 41 (nU (mBinds 0 N))), (mo, .inr (11, [.ref az, .ref ap, .int (iI pm), .ref ak, .int (iI ik), .ref ax, .int (iI ty), .int (iI th), .ref a1, .ref a2, .int (iI (nN (mWait (mBinds 0 N) sg9 0))), .ref a3, .int (iI (nP (mWait (mBinds 0 N) sg9 0))), .ref a4, .ref a5, .ref a6, .ref v1, .ref v2, .ref v3, .ref v4, .ref v5, .ref v6, .int (iI bn), .int (iI (nWh (mWait (mBinds 0 N) sg9 0))), .int (iI (nD (mWait (mBinds 0 N) sg9 0))), .int (iI (nG (mWait (mBinds 0 N) sg9 0)))])), (a3, gI g 90 (nQ (mWait (mBinds 0 N) sg9 0)))] := hW
                refine W.eq (g2 := F0 m 159 ls []) rfl ?_
                refine lv_aload_n S0.1 S0.2.1 dX11_follows_159 rfl (lv_at hl 1 rfl) ?_
                refine q_iconst S0 dX11_follows_160 ?_
                refine q_put (C := RX11) (T := TX11) (N := 26) S0 hK hW hinX11 tyX11_ok nmX11 2 rfl rfl 23 (by decide) (List.mem_of_getElem? (i := 1) rfl) rfl rfl rfl rfl (Nat.le_of_ble_eq_true rfl) dX11_follows_161 (fun H locs hW => ?_)
                have hW : gW g A s.heap H _ [(a1, gI g 41 (nK (mBinds 0 N))), (a2, gI g 41 (nU (mBinds 0 N))), (mo, .inr (11, [.ref az, .ref ap, .int (iI pm), .ref ak, .int (iI ik), .ref ax, .int (iI ty), .int (iI th), .ref a1, .ref a2, .int (iI (nN (mWait (mBinds 0 N) sg9 0))), .ref a3, .int (iI (nP (mWait (mBinds 0 N) sg9 0))), .ref a4, .ref a5, .ref a6, .ref v1, .ref v2, .ref v3, .ref v4, .ref v5, .ref v6, .int (iI bn), .int (iI 0), .int (iI (nD (mWait (mBinds 0 N) sg9 0))), .int (iI (nG (mWait (mBinds 0 N) sg9 0)))])), (a3, gI g 90 (nQ (mWait (mBinds 0 N) sg9 0)))] := hW
                refine q_iconst S0 dX11_follows_164 ?_
                exact q_zret S0 hr hlocks () (trivial) (by first | exact Or.inl rfl | exact Or.inr rfl | omega) (by first | (exfalso; omega) | unfold mFollows; (repeat (first | rw [if_pos (by omega)] | rw [if_neg (by omega)])); first | done | rfl | (unfold mClose mCl1; first | (rw [if_pos c65]; rfl) | (rw [if_neg c65]; rfl))) (hW.sub [2, 0, 1, 3] rfl (by first | (exfalso; omega) | (try rw [hsg9]); unfold mFollows; (repeat (first | rw [if_pos (by omega)] | rw [if_neg (by omega)])); first | done | rfl | (unfold mClose mCl1; first | (rw [if_pos c65]; rfl) | (rw [if_neg c65]; rfl)))) (Nat.le_of_ble_eq_true rfl) (Nat.le_of_ble_eq_true rfl) dX11_follows_165
              · skip
                refine lv_iload_n S0.1 S0.2.1 dX11_follows_123 rfl (lv_at hl 2 rfl) ?_
                refine q_bipush S0 (by decide) dX11_follows_124 ?_
                refine q_icmp_ne (tgt := 133) S0 (by omega) dX11_follows_126 (by decide) (fun c126 => ?_) (fun c126 => ?_)
                · skip
                  refine lv_iload_n S0.1 S0.2.1 dX11_follows_133 rfl (lv_at hl 2 rfl) ?_
                  refine q_bipush S0 (by decide) dX11_follows_134 ?_
                  refine q_icmp_ne (tgt := 143) S0 (by omega) dX11_follows_136 (by decide) (fun c136 => ?_) (fun c136 => ?_)
                  · skip
                    refine lv_iload_n S0.1 S0.2.1 dX11_follows_143 rfl (lv_at hl 2 rfl) ?_
                    refine q_bipush S0 (by decide) dX11_follows_144 ?_
                    refine q_icmp_ne (tgt := 153) S0 (by omega) dX11_follows_146 (by decide) (fun c146 => ?_) (fun c146 => ?_)
                    · skip
                      refine q_bipush S0 (by decide) dX11_follows_153 ?_
                      exact hJ123 _ (by first | (exfalso; omega) | unfold mSg; (repeat (first | rw [if_pos (by omega)] | rw [if_neg (by omega)])); done)
                    · skip
                      refine q_iconst S0 dX11_follows_149 ?_
                      refine lv_goto (tgt := 155) S0.1 S0.2.1 dX11_follows_150 (by decide) ?_
                      exact hJ123 _ (by first | (exfalso; omega) | unfold mSg; (repeat (first | rw [if_pos (by omega)] | rw [if_neg (by omega)])); done)
                  · skip
                    refine q_iconst S0 dX11_follows_139 ?_
                    refine lv_goto (tgt := 155) S0.1 S0.2.1 dX11_follows_140 (by decide) ?_
                    exact hJ123 _ (by first | (exfalso; omega) | unfold mSg; (repeat (first | rw [if_pos (by omega)] | rw [if_neg (by omega)])); done)
                · skip
                  refine q_iconst S0 dX11_follows_129 ?_
                  refine lv_goto (tgt := 155) S0.1 S0.2.1 dX11_follows_130 (by decide) ?_
                  exact hJ123 _ (by first | (exfalso; omega) | unfold mSg; (repeat (first | rw [if_pos (by omega)] | rw [if_neg (by omega)])); done)
            · skip
              refine lv_iload_n S0.1 S0.2.1 dX11_follows_111 rfl (lv_at hl 2 rfl) ?_
              refine q_bipush S0 (by decide) dX11_follows_112 ?_
              refine q_icmp_ne (tgt := 166) S0 (by omega) dX11_follows_114 (by decide) (fun c114 => ?_) (fun c114 => ?_)
              · skip
                refine q_iconst S0 dX11_follows_166 ?_
                exact q_zret S0 hr hlocks () (trivial) (by first | exact Or.inl rfl | exact Or.inr rfl | omega) (by first | (exfalso; omega) | unfold mFollows; (repeat (first | rw [if_pos (by omega)] | rw [if_neg (by omega)])); first | done | rfl | (unfold mClose mCl1; first | (rw [if_pos c65]; rfl) | (rw [if_neg c65]; rfl))) (hW.sub [0, 1, 2, 3] rfl (by first | (exfalso; omega) | (try rw [hsg9]); unfold mFollows; (repeat (first | rw [if_pos (by omega)] | rw [if_neg (by omega)])); first | done | rfl | (unfold mClose mCl1; first | (rw [if_pos c65]; rfl) | (rw [if_neg c65]; rfl)))) (Nat.le_of_ble_eq_true rfl) (Nat.le_of_ble_eq_true rfl) dX11_follows_167
              · skip
                refine lv_aload_n S0.1 S0.2.1 dX11_follows_117 rfl (lv_at hl 1 rfl) ?_
                refine lv_iload_n S0.1 S0.2.1 dX11_follows_118 rfl (lv_at hl 0 rfl) ?_
                refine q_cV (n := 1) (rest := []) (wr := []) S0 hK hA hW (c_X11_binds l g mo az ap ak ax a1 a2 a3 a4 a5 a6 v1 v2 v3 v4 v5 v6 pm ik ty th bn N i 0 (hR) (hq) (by omega)) gX11_follows_X11_binds rfl rfl rfl (by decide +kernel) ⟨Nat.le_of_ble_eq_true rfl, Nat.le_of_ble_eq_true rfl⟩ [0, 1, 2, 3] [] rfl rfl rfl rfl (by decide) (q_recv hK hW.1 (ci := 11) (q0 := 0) rfl rfl) (fun _ _ => trivial) (trivial) rfl rfl hl.1 (Nat.le_of_ble_eq_true rfl) ⟨Nat.le_of_ble_eq_true rfl, Nat.le_of_ble_eq_true rfl⟩ dX11_follows_119 (fun _ H locs _ hW => ?_)
                have hW : gW g A s.heap H _ [(mo, .inr (11, [.ref az, .ref ap, .int (iI pm), .ref ak, .int (iI ik), .ref ax, .int (iI ty), .int (iI th), .ref a1, .ref a2, .int (iI (nN (mBinds 0 N))), .ref a3, .int (iI (nP (mBinds 0 N))), .ref a4, .ref a5, .ref a6, .ref v1, .ref v2, .ref v3, .ref v4, .ref v5, .ref v6, .int (iI bn), .int (iI (nWh (mBinds 0 N))), .int (iI (nD (mBinds 0 N))), .int (iI (nG (mBinds 0 N)))])), (a1, gI g 41 (nK (mBinds 0 N))), (a2, gI g 41 (nU (mBinds 0 N))), (a3, gI g 90 (nQ (mBinds 0 N)))] := hW
                refine W.eq (g2 := F0 m 122 ls []) rfl ?_
                refine lv_aload_n S0.1 S0.2.1 dX11_follows_122 rfl (lv_at hl 1 rfl) ?_
                refine q_cut (α := Int) (fun sg9 => F0 m 155 ls (.int (iI sg9) :: [.ref mo])) (fun sg9 => sg9 = mSg ch) (fun sg9 hsg9 => ?_) (fun hJ123 => ?_)
                · skip
                  refine q_iconst S0 dX11_follows_155 ?_
                  have hrb := RN_binds (t := 1) hR
                  have hrc := RN_binds (t := 0) hR
                  unfold RN at hrb hrc
                  refine q_cV (n := 2) (rest := []) (wr := [(a1, gI g 41 (nK (mBinds 0 N))), (a2, gI g 41 (nU (mBinds 0 N)))]) S0 hK hA hW (c_X11_waitsFor l g mo az ap ak ax a1 a2 a3 a4 a5 a6 v1 v2 v3 v4 v5 v6 pm ik ty th bn (mBinds 0 N) sg9 0 (by omega)) gX11_follows_X11_waitsFor rfl rfl rfl (by decide +kernel) ⟨Nat.le_of_ble_eq_true rfl, Nat.le_of_ble_eq_true rfl⟩ [0, 3] [1, 2] rfl rfl rfl rfl (by decide) (q_recv hK hW.1 (ci := 11) (q0 := 0) rfl rfl) (fun _ _ => trivial) (trivial) rfl rfl hl.1 (Nat.le_of_ble_eq_true rfl) ⟨Nat.le_of_ble_eq_true rfl, Nat.le_of_ble_eq_true rfl⟩ dX11_follows_156 (fun _ H locs _ hW => ?_)
                  have hW : gW g A s.heap H _ [(a1, gI g 41 (nK (mBinds 0 N))), (a2, gI g 41 (nU (mBinds 0 N))), (mo, .inr (11, [.ref az, .ref ap, .int (iI pm), .ref ak, .int (iI ik), .ref ax, .int (iI ty), .int (iI th), .ref a1, .ref a2, .int (iI (nN (mWait (mBinds 0 N) sg9 0))), .ref a3, .int (iI (nP (mWait (mBinds 0 N) sg9 0))), .ref a4, .ref a5, .ref a6, .ref v1, .ref v2, .ref v3, .ref v4, .ref v5, .ref v6, .int (iI bn), .int (iI (nWh (mWait (mBinds 0 N) sg9 0))), .int (iI (nD (mWait (mBinds 0 N) sg9 0))), .int (iI (nG (mWait (mBinds 0 N) sg9 0)))])), (a3, gI g 90 (nQ (mWait (mBinds 0 N) sg9 0)))] := hW
                  refine W.eq (g2 := F0 m 159 ls []) rfl ?_
                  refine lv_aload_n S0.1 S0.2.1 dX11_follows_159 rfl (lv_at hl 1 rfl) ?_
                  refine q_iconst S0 dX11_follows_160 ?_
                  refine q_put (C := RX11) (T := TX11) (N := 26) S0 hK hW hinX11 tyX11_ok nmX11 2 rfl rfl 23 (by decide) (List.mem_of_getElem? (i := 1) rfl) rfl rfl rfl rfl (Nat.le_of_ble_eq_true rfl) dX11_follows_161 (fun H locs hW => ?_)
                  have hW : gW g A s.heap H _ [(a1, gI g 41 (nK (mBinds 0 N))), (a2, gI g 41 (nU (mBinds 0 N))), (mo, .inr (11, [.ref az, .ref ap, .int (iI pm), .ref ak, .int (iI ik), .ref ax, .int (iI ty), .int (iI th), .ref a1, .ref a2, .int (iI (nN (mWait (mBinds 0 N) sg9 0))), .ref a3, .int (iI (nP (mWait (mBinds 0 N) sg9 0))), .ref a4, .ref a5, .ref a6, .ref v1, .ref v2, .ref v3, .ref v4, .ref v5, .ref v6, .int (iI bn), .int (iI 0), .int (iI (nD (mWait (mBinds 0 N) sg9 0))), .int (iI (nG (mWait (mBinds 0 N) sg9 0)))])), (a3, gI g 90 (nQ (mWait (mBinds 0 N) sg9 0)))] := hW
                  refine q_iconst S0 dX11_follows_164 ?_
                  exact q_zret S0 hr hlocks () (trivial) (by first | exact Or.inl rfl | exact Or.inr rfl | omega) (by first | (exfalso; omega) | unfold mFollows; (repeat (first | rw [if_pos (by omega)] | rw [if_neg (by omega)])); first | done | rfl | (unfold mClose mCl1; first | (rw [if_pos c65]; rfl) | (rw [if_neg c65]; rfl))) (hW.sub [2, 0, 1, 3] rfl (by first | (exfalso; omega) | (try rw [hsg9]); unfold mFollows; (repeat (first | rw [if_pos (by omega)] | rw [if_neg (by omega)])); first | done | rfl | (unfold mClose mCl1; first | (rw [if_pos c65]; rfl) | (rw [if_neg c65]; rfl)))) (Nat.le_of_ble_eq_true rfl) (Nat.le_of_ble_eq_true rfl) dX11_follows_165
                · skip
                  refine lv_iload_n S0.1 S0.2.1 dX11_follows_123 rfl (lv_at hl 2 rfl) ?_
                  refine q_bipush S0 (by decide) dX11_follows_124 ?_
                  refine q_icmp_ne (tgt := 133) S0 (by omega) dX11_follows_126 (by decide) (fun c126 => ?_) (fun c126 => ?_)
                  · skip
                    refine lv_iload_n S0.1 S0.2.1 dX11_follows_133 rfl (lv_at hl 2 rfl) ?_
                    refine q_bipush S0 (by decide) dX11_follows_134 ?_
                    refine q_icmp_ne (tgt := 143) S0 (by omega) dX11_follows_136 (by decide) (fun c136 => ?_) (fun c136 => ?_)
                    · skip
                      refine lv_iload_n S0.1 S0.2.1 dX11_follows_143 rfl (lv_at hl 2 rfl) ?_
                      refine q_bipush S0 (by decide) dX11_follows_144 ?_
                      refine q_icmp_ne (tgt := 153) S0 (by omega) dX11_follows_146 (by decide) (fun c146 => ?_) (fun c146 => ?_)
                      · skip
                        refine q_bipush S0 (by decide) dX11_follows_153 ?_
                        exact hJ123 _ (by first | (exfalso; omega) | unfold mSg; (repeat (first | rw [if_pos (by omega)] | rw [if_neg (by omega)])); done)
                      · skip
                        refine q_iconst S0 dX11_follows_149 ?_
                        refine lv_goto (tgt := 155) S0.1 S0.2.1 dX11_follows_150 (by decide) ?_
                        exact hJ123 _ (by first | (exfalso; omega) | unfold mSg; (repeat (first | rw [if_pos (by omega)] | rw [if_neg (by omega)])); done)
                    · skip
                      refine q_iconst S0 dX11_follows_139 ?_
                      refine lv_goto (tgt := 155) S0.1 S0.2.1 dX11_follows_140 (by decide) ?_
                      exact hJ123 _ (by first | (exfalso; omega) | unfold mSg; (repeat (first | rw [if_pos (by omega)] | rw [if_neg (by omega)])); done)
                  · skip
                    refine q_iconst S0 dX11_follows_129 ?_
                    refine lv_goto (tgt := 155) S0.1 S0.2.1 dX11_follows_130 (by decide) ?_
                    exact hJ123 _ (by first | (exfalso; omega) | unfold mSg; (repeat (first | rw [if_pos (by omega)] | rw [if_neg (by omega)])); done)
        · skip
          refine q_iconst S0 dX11_follows_95 ?_
          refine lv_goto (tgt := 100) S0.1 S0.2.1 dX11_follows_96 (by decide) ?_
          refine lv_istore_n (lv' := [(2, .int (iI 1)), (0, .ref mo), (1, .int (iI ch))]) S0.1 S0.2.1 dX11_follows_100 rfl hl (by decide) rfl (fun ls hl => ?_)
          refine lv_iload_n S0.1 S0.2.1 dX11_follows_101 rfl (lv_at hl 0 rfl) ?_
          refine q_if_ne (tgt := 117) S0 (by omega) dX11_follows_102 (by decide) (fun c102 => ?_) (fun c102 => ?_)
          · skip
            refine lv_aload_n S0.1 S0.2.1 dX11_follows_117 rfl (lv_at hl 1 rfl) ?_
            refine lv_iload_n S0.1 S0.2.1 dX11_follows_118 rfl (lv_at hl 0 rfl) ?_
            refine q_cV (n := 1) (rest := []) (wr := []) S0 hK hA hW (c_X11_binds l g mo az ap ak ax a1 a2 a3 a4 a5 a6 v1 v2 v3 v4 v5 v6 pm ik ty th bn N i 1 (hR) (hq) (by omega)) gX11_follows_X11_binds rfl rfl rfl (by decide +kernel) ⟨Nat.le_of_ble_eq_true rfl, Nat.le_of_ble_eq_true rfl⟩ [0, 1, 2, 3] [] rfl rfl rfl rfl (by decide) (q_recv hK hW.1 (ci := 11) (q0 := 0) rfl rfl) (fun _ _ => trivial) (trivial) rfl rfl hl.1 (Nat.le_of_ble_eq_true rfl) ⟨Nat.le_of_ble_eq_true rfl, Nat.le_of_ble_eq_true rfl⟩ dX11_follows_119 (fun _ H locs _ hW => ?_)
            have hW : gW g A s.heap H _ [(mo, .inr (11, [.ref az, .ref ap, .int (iI pm), .ref ak, .int (iI ik), .ref ax, .int (iI ty), .int (iI th), .ref a1, .ref a2, .int (iI (nN (mBinds 1 N))), .ref a3, .int (iI (nP (mBinds 1 N))), .ref a4, .ref a5, .ref a6, .ref v1, .ref v2, .ref v3, .ref v4, .ref v5, .ref v6, .int (iI bn), .int (iI (nWh (mBinds 1 N))), .int (iI (nD (mBinds 1 N))), .int (iI (nG (mBinds 1 N)))])), (a1, gI g 41 (nK (mBinds 1 N))), (a2, gI g 41 (nU (mBinds 1 N))), (a3, gI g 90 (nQ (mBinds 1 N)))] := hW
            refine W.eq (g2 := F0 m 122 ls []) rfl ?_
            refine lv_aload_n S0.1 S0.2.1 dX11_follows_122 rfl (lv_at hl 1 rfl) ?_
            refine q_cut (α := Int) (fun sg9 => F0 m 155 ls (.int (iI sg9) :: [.ref mo])) (fun sg9 => sg9 = mSg ch) (fun sg9 hsg9 => ?_) (fun hJ123 => ?_)
            · skip
              refine q_iconst S0 dX11_follows_155 ?_
              have hrb := RN_binds (t := 1) hR
              have hrc := RN_binds (t := 0) hR
              unfold RN at hrb hrc
              refine q_cV (n := 2) (rest := []) (wr := [(a1, gI g 41 (nK (mBinds 1 N))), (a2, gI g 41 (nU (mBinds 1 N)))]) S0 hK hA hW (c_X11_waitsFor l g mo az ap ak ax a1 a2 a3 a4 a5 a6 v1 v2 v3 v4 v5 v6 pm ik ty th bn (mBinds 1 N) sg9 0 (by omega)) gX11_follows_X11_waitsFor rfl rfl rfl (by decide +kernel) ⟨Nat.le_of_ble_eq_true rfl, Nat.le_of_ble_eq_true rfl⟩ [0, 3] [1, 2] rfl rfl rfl rfl (by decide) (q_recv hK hW.1 (ci := 11) (q0 := 0) rfl rfl) (fun _ _ => trivial) (trivial) rfl rfl hl.1 (Nat.le_of_ble_eq_true rfl) ⟨Nat.le_of_ble_eq_true rfl, Nat.le_of_ble_eq_true rfl⟩ dX11_follows_156 (fun _ H locs _ hW => ?_)
              have hW : gW g A s.heap H _ [(a1, gI g 41 (nK (mBinds 1 N))), (a2, gI g 41 (nU (mBinds 1 N))), (mo, .inr (11, [.ref az, .ref ap, .int (iI pm), .ref ak, .int (iI ik), .ref ax, .int (iI ty), .int (iI th), .ref a1, .ref a2, .int (iI (nN (mWait (mBinds 1 N) sg9 0))), .ref a3, .int (iI (nP (mWait (mBinds 1 N) sg9 0))), .ref a4, .ref a5, .ref a6, .ref v1, .ref v2, .ref v3, .ref v4, .ref v5, .ref v6, .int (iI bn), .int (iI (nWh (mWait (mBinds 1 N) sg9 0))), .int (iI (nD (mWait (mBinds 1 N) sg9 0))), .int (iI (nG (mWait (mBinds 1 N) sg9 0)))])), (a3, gI g 90 (nQ (mWait (mBinds 1 N) sg9 0)))] := hW
              refine W.eq (g2 := F0 m 159 ls []) rfl ?_
              refine lv_aload_n S0.1 S0.2.1 dX11_follows_159 rfl (lv_at hl 1 rfl) ?_
              refine q_iconst S0 dX11_follows_160 ?_
              refine q_put (C := RX11) (T := TX11) (N := 26) S0 hK hW hinX11 tyX11_ok nmX11 2 rfl rfl 23 (by decide) (List.mem_of_getElem? (i := 1) rfl) rfl rfl rfl rfl (Nat.le_of_ble_eq_true rfl) dX11_follows_161 (fun H locs hW => ?_)
              have hW : gW g A s.heap H _ [(a1, gI g 41 (nK (mBinds 1 N))), (a2, gI g 41 (nU (mBinds 1 N))), (mo, .inr (11, [.ref az, .ref ap, .int (iI pm), .ref ak, .int (iI ik), .ref ax, .int (iI ty), .int (iI th), .ref a1, .ref a2, .int (iI (nN (mWait (mBinds 1 N) sg9 0))), .ref a3, .int (iI (nP (mWait (mBinds 1 N) sg9 0))), .ref a4, .ref a5, .ref a6, .ref v1, .ref v2, .ref v3, .ref v4, .ref v5, .ref v6, .int (iI bn), .int (iI 0), .int (iI (nD (mWait (mBinds 1 N) sg9 0))), .int (iI (nG (mWait (mBinds 1 N) sg9 0)))])), (a3, gI g 90 (nQ (mWait (mBinds 1 N) sg9 0)))] := hW
              refine q_iconst S0 dX11_follows_164 ?_
              exact q_zret S0 hr hlocks () (trivial) (by first | exact Or.inl rfl | exact Or.inr rfl | omega) (by first | (exfalso; omega) | unfold mFollows; (repeat (first | rw [if_pos (by omega)] | rw [if_neg (by omega)])); first | done | rfl | (unfold mClose mCl1; first | (rw [if_pos c65]; rfl) | (rw [if_neg c65]; rfl))) (hW.sub [2, 0, 1, 3] rfl (by first | (exfalso; omega) | (try rw [hsg9]); unfold mFollows; (repeat (first | rw [if_pos (by omega)] | rw [if_neg (by omega)])); first | done | rfl | (unfold mClose mCl1; first | (rw [if_pos c65]; rfl) | (rw [if_neg c65]; rfl)))) (Nat.le_of_ble_eq_true rfl) (Nat.le_of_ble_eq_true rfl) dX11_follows_165
            · skip
              refine lv_iload_n S0.1 S0.2.1 dX11_follows_123 rfl (lv_at hl 2 rfl) ?_
              refine q_bipush S0 (by decide) dX11_follows_124 ?_
              refine q_icmp_ne (tgt := 133) S0 (by omega) dX11_follows_126 (by decide) (fun c126 => ?_) (fun c126 => ?_)
              · skip
                refine lv_iload_n S0.1 S0.2.1 dX11_follows_133 rfl (lv_at hl 2 rfl) ?_
                refine q_bipush S0 (by decide) dX11_follows_134 ?_
                refine q_icmp_ne (tgt := 143) S0 (by omega) dX11_follows_136 (by decide) (fun c136 => ?_) (fun c136 => ?_)
                · skip
                  refine lv_iload_n S0.1 S0.2.1 dX11_follows_143 rfl (lv_at hl 2 rfl) ?_
                  refine q_bipush S0 (by decide) dX11_follows_144 ?_
                  refine q_icmp_ne (tgt := 153) S0 (by omega) dX11_follows_146 (by decide) (fun c146 => ?_) (fun c146 => ?_)
                  · skip
                    refine q_bipush S0 (by decide) dX11_follows_153 ?_
                    exact hJ123 _ (by first | (exfalso; omega) | unfold mSg; (repeat (first | rw [if_pos (by omega)] | rw [if_neg (by omega)])); done)
                  · skip
                    refine q_iconst S0 dX11_follows_149 ?_
                    refine lv_goto (tgt := 155) S0.1 S0.2.1 dX11_follows_150 (by decide) ?_
                    exact hJ123 _ (by first | (exfalso; omega) | unfold mSg; (repeat (first | rw [if_pos (by omega)] | rw [if_neg (by omega)])); done)
                · skip
                  refine q_iconst S0 dX11_follows_139 ?_
                  refine lv_goto (tgt := 155) S0.1 S0.2.1 dX11_follows_140 (by decide) ?_
                  exact hJ123 _ (by first | (exfalso; omega) | unfold mSg; (repeat (first | rw [if_pos (by omega)] | rw [if_neg (by omega)])); done)
              · skip
                refine q_iconst S0 dX11_follows_129 ?_
                refine lv_goto (tgt := 155) S0.1 S0.2.1 dX11_follows_130 (by decide) ?_
                exact hJ123 _ (by first | (exfalso; omega) | unfold mSg; (repeat (first | rw [if_pos (by omega)] | rw [if_neg (by omega)])); done)
          · skip
            exact absurd c102 (by omega)
    · skip
      refine lv_iload_n S0.1 S0.2.1 dX11_follows_21 rfl (lv_at hl 1 rfl) ?_
      refine q_bipush S0 (by decide) dX11_follows_22 ?_
      refine q_icmp_ne (tgt := 83) S0 (by omega) dX11_follows_24 (by decide) (fun c24 => ?_) (fun c24 => ?_)
      · skip
        exact hJ83 () (by omega)
      · skip
        refine lv_aload_n S0.1 S0.2.1 dX11_follows_27 rfl (lv_at hl 0 rfl) ?_
        refine q_get (C := RX11) (T := TX11) (N := 26) S0 hK hW.1 hinX11 0 rfl rfl 24 (by decide) (List.mem_of_getElem? (i := 2) rfl) rfl rfl dX11_follows_28 ?_
        refine q_if_le (tgt := 83) S0 (by omega) dX11_follows_31 (by decide) (fun c31 => ?_) (fun c31 => ?_)
        · skip
          exact hJ83 () (by omega)
        · skip
          refine lv_aload_n S0.1 S0.2.1 dX11_follows_34 rfl (lv_at hl 0 rfl) ?_
          refine q_iconst S0 dX11_follows_35 ?_
          have hop := sk_open (by omega) hS9 (by omega)
          have hp9 := hop.1
          have hRb : RN i (mBinds 1 N) := RN_binds hR
          have hRb2 := hRb
          unfold RN at hRb2
          have hR0 : RN i (mCl0 N) := by
            unfold RN
            show 0 ≤ nN (mBinds 1 N) ∧ 0 ≤ nP (mBinds 1 N) - 1 ∧ nN (mBinds 1 N) + (nP (mBinds 1 N) - 1) ≤ i ∧ i ≤ 40
            omega
          have hZ0 : WZ (mCl0 N) := WZ_bnd (t := 1) (nP N).toNat N hZ
          have hD0 := (mBnd_keep (t := 1) (nP N).toNat N).2.1
          have hD01 : nD (mBinds 1 N) = nD N := hD0
          have hlq := mLast_rng (WZ_q hZ0)
          have hR02 := hR0
          unfold RN at hR02
          refine q_cV (n := 1) (rest := []) (wr := []) S0 hK hA hW (c_X11_binds l g mo az ap ak ax a1 a2 a3 a4 a5 a6 v1 v2 v3 v4 v5 v6 pm ik ty th bn N i 1 (hR) (hq) (by omega)) gX11_follows_X11_binds rfl rfl rfl (by decide +kernel) ⟨Nat.le_of_ble_eq_true rfl, Nat.le_of_ble_eq_true rfl⟩ [0, 1, 2, 3] [] rfl rfl rfl rfl (by decide) (q_recv hK hW.1 (ci := 11) (q0 := 0) rfl rfl) (fun _ _ => trivial) (trivial) rfl rfl hl.1 (Nat.le_of_ble_eq_true rfl) ⟨Nat.le_of_ble_eq_true rfl, Nat.le_of_ble_eq_true rfl⟩ dX11_follows_36 (fun _ H locs _ hW => ?_)
          have hW : gW g A s.heap H _ [(mo, .inr (11, [.ref az, .ref ap, .int (iI pm), .ref ak, .int (iI ik), .ref ax, .int (iI ty), .int (iI th), .ref a1, .ref a2, .int (iI (nN (mBinds 1 N))), .ref a3, .int (iI (nP (mBinds 1 N))), .ref a4, .ref a5, .ref a6, .ref v1, .ref v2, .ref v3, .ref v4, .ref v5, .ref v6, .int (iI bn), .int (iI (nWh (mBinds 1 N))), .int (iI (nD (mBinds 1 N))), .int (iI (nG (mBinds 1 N)))])), (a1, gI g 41 (nK (mBinds 1 N))), (a2, gI g 41 (nU (mBinds 1 N))), (a3, gI g 90 (nQ (mBinds 1 N)))] := hW
          refine W.eq (g2 := F0 m 39 ls []) rfl ?_
          refine lv_aload_n S0.1 S0.2.1 dX11_follows_39 rfl (lv_at hl 0 rfl) ?_
          refine lv_dup S0.1 S0.2.1 dX11_follows_40 rfl ?_
          refine q_get (C := RX11) (T := TX11) (N := 26) S0 hK hW.1 hinX11 0 rfl rfl 12 (by decide) (List.mem_of_getElem? (i := 3) rfl) rfl rfl dX11_follows_41 ?_
          refine q_iconst S0 dX11_follows_44 ?_
          refine q_isub S0 dX11_follows_45 ?_
          refine q_put (C := RX11) (T := TX11) (N := 26) S0 hK hW hinX11 tyX11_ok nmX11 0 rfl rfl 12 (by decide) (List.mem_of_getElem? (i := 3) rfl) rfl rfl rfl rfl (Nat.le_of_ble_eq_true rfl) dX11_follows_46 (fun H locs hW => ?_)
          have hW : gW g A s.heap H _ [(mo, .inr (11, [.ref az, .ref ap, .int (iI pm), .ref ak, .int (iI ik), .ref ax, .int (iI ty), .int (iI th), .ref a1, .ref a2, .int (iI (nN (mBinds 1 N))), .ref a3, .int (iI ((nP (mBinds 1 N)) - 1)), .ref a4, .ref a5, .ref a6, .ref v1, .ref v2, .ref v3, .ref v4, .ref v5, .ref v6, .int (iI bn), .int (iI (nWh (mBinds 1 N))), .int (iI (nD (mBinds 1 N))), .int (iI (nG (mBinds 1 N)))])), (a1, gI g 41 (nK (mBinds 1 N))), (a2, gI g 41 (nU (mBinds 1 N))), (a3, gI g 90 (nQ (mBinds 1 N)))] := hW
          refine lv_aload_n S0.1 S0.2.1 dX11_follows_49 rfl (lv_at hl 0 rfl) ?_
          refine lv_dup S0.1 S0.2.1 dX11_follows_50 rfl ?_
          refine q_get (C := RX11) (T := TX11) (N := 26) S0 hK hW.1 hinX11 0 rfl rfl 24 (by decide) (List.mem_of_getElem? (i := 2) rfl) rfl rfl dX11_follows_51 ?_
          refine q_iconst S0 dX11_follows_54 ?_
          refine q_isub S0 dX11_follows_55 ?_
          refine q_put (C := RX11) (T := TX11) (N := 26) S0 hK hW hinX11 tyX11_ok nmX11 0 rfl rfl 24 (by decide) (List.mem_of_getElem? (i := 2) rfl) rfl rfl rfl rfl (Nat.le_of_ble_eq_true rfl) dX11_follows_56 (fun H locs hW => ?_)
          have hW : gW g A s.heap H _ [(mo, .inr (11, [.ref az, .ref ap, .int (iI pm), .ref ak, .int (iI ik), .ref ax, .int (iI ty), .int (iI th), .ref a1, .ref a2, .int (iI (nN (mBinds 1 N))), .ref a3, .int (iI ((nP (mBinds 1 N)) - 1)), .ref a4, .ref a5, .ref a6, .ref v1, .ref v2, .ref v3, .ref v4, .ref v5, .ref v6, .int (iI bn), .int (iI (nWh (mBinds 1 N))), .int (iI ((nD (mBinds 1 N)) - 1)), .int (iI (nG (mBinds 1 N)))])), (a1, gI g 41 (nK (mBinds 1 N))), (a2, gI g 41 (nU (mBinds 1 N))), (a3, gI g 90 (nQ (mBinds 1 N)))] := hW
          refine lv_aload_n S0.1 S0.2.1 dX11_follows_59 rfl (lv_at hl 0 rfl) ?_
          refine q_pV (n := 0) (rest := []) S0 hK (c_X11_last l g mo az ap ak ax a1 a2 a3 a4 a5 a6 v1 v2 v3 v4 v5 v6 pm ik ty th bn (mCl0 N) (by omega)) (subP hW.1 [0, 3] rfl) (trivial) gX11_follows_X11_last rfl rfl rfl (by decide +kernel) ⟨Nat.le_of_ble_eq_true rfl, Nat.le_of_ble_eq_true rfl⟩ (q_recv hK hW.1 (ci := 11) (q0 := 0) rfl rfl) rfl rfl hl.1 (Nat.le_of_ble_eq_true rfl) ⟨Nat.le_of_ble_eq_true rfl, Nat.le_of_ble_eq_true rfl⟩ dX11_follows_60 ?_
          refine W.eq (g2 := F0 m 63 ls [.int (iI (mLast (mCl0 N)))]) rfl ?_
          refine q_bipush S0 (by decide) dX11_follows_63 ?_
          refine q_icmp_ne (tgt := 72) S0 (by omega) dX11_follows_65 (by decide) (fun c65 => ?_) (fun c65 => ?_)
          · skip
            refine lv_aload_n S0.1 S0.2.1 dX11_follows_72 rfl (lv_at hl 0 rfl) ?_
            refine q_cV (n := 0) (rest := []) (wr := []) S0 hK hA hW (c_X11_atom l g mo az ap ak ax a1 a2 a3 a4 a5 a6 v1 v2 v3 v4 v5 v6 pm ik ty th bn (mCl0 N) i (by first | exact RN_come hR0 hpp | exact hR0) (fun j => WZ_q hZ0 j)) gX11_follows_X11_atom rfl rfl rfl (by decide +kernel) ⟨Nat.le_of_ble_eq_true rfl, Nat.le_of_ble_eq_true rfl⟩ [0, 1, 2, 3] [] rfl rfl rfl rfl (by decide) (q_recv hK hW.1 (ci := 11) (q0 := 0) rfl rfl) (fun _ _ => trivial) (trivial) rfl rfl hl.1 (Nat.le_of_ble_eq_true rfl) ⟨Nat.le_of_ble_eq_true rfl, Nat.le_of_ble_eq_true rfl⟩ dX11_follows_73 (fun _ H locs _ hW => ?_)
            have hW : gW g A s.heap H _ [(mo, .inr (11, [.ref az, .ref ap, .int (iI pm), .ref ak, .int (iI ik), .ref ax, .int (iI ty), .int (iI th), .ref a1, .ref a2, .int (iI (nN (mAtom (mCl0 N)))), .ref a3, .int (iI (nP (mAtom (mCl0 N)))), .ref a4, .ref a5, .ref a6, .ref v1, .ref v2, .ref v3, .ref v4, .ref v5, .ref v6, .int (iI bn), .int (iI (nWh (mAtom (mCl0 N)))), .int (iI (nD (mAtom (mCl0 N)))), .int (iI (nG (mAtom (mCl0 N))))])), (a1, gI g 41 (nK (mAtom (mCl0 N)))), (a2, gI g 41 (nU (mAtom (mCl0 N)))), (a3, gI g 90 (nQ (mAtom (mCl0 N))))] := hW
            refine W.eq (g2 := F0 m 76 ls []) rfl ?_
            refine lv_aload_n S0.1 S0.2.1 dX11_follows_76 rfl (lv_at hl 0 rfl) ?_
            refine q_iconst S0 dX11_follows_77 ?_
            refine q_put (C := RX11) (T := TX11) (N := 26) S0 hK hW hinX11 tyX11_ok nmX11 0 rfl rfl 23 (by decide) (List.mem_of_getElem? (i := 1) rfl) rfl rfl rfl rfl (Nat.le_of_ble_eq_true rfl) dX11_follows_78 (fun H locs hW => ?_)
            have hW : gW g A s.heap H _ [(mo, .inr (11, [.ref az, .ref ap, .int (iI pm), .ref ak, .int (iI ik), .ref ax, .int (iI ty), .int (iI th), .ref a1, .ref a2, .int (iI (nN (mAtom (mCl0 N)))), .ref a3, .int (iI (nP (mAtom (mCl0 N)))), .ref a4, .ref a5, .ref a6, .ref v1, .ref v2, .ref v3, .ref v4, .ref v5, .ref v6, .int (iI bn), .int (iI 2), .int (iI (nD (mAtom (mCl0 N)))), .int (iI (nG (mAtom (mCl0 N))))])), (a1, gI g 41 (nK (mAtom (mCl0 N)))), (a2, gI g 41 (nU (mAtom (mCl0 N)))), (a3, gI g 90 (nQ (mAtom (mCl0 N))))] := hW
            refine q_iconst S0 dX11_follows_81 ?_
            exact q_zret S0 hr hlocks () (trivial) (by first | exact Or.inl rfl | exact Or.inr rfl | omega) (by first | (exfalso; omega) | unfold mFollows; (repeat (first | rw [if_pos (by omega)] | rw [if_neg (by omega)])); first | done | rfl | (unfold mClose mCl1; first | (rw [if_pos c65]; rfl) | (rw [if_neg c65]; rfl))) (hW.sub [0, 1, 2, 3] rfl (by first | (exfalso; omega) | (try rw [hsg9]); unfold mFollows; (repeat (first | rw [if_pos (by omega)] | rw [if_neg (by omega)])); first | done | rfl | (unfold mClose mCl1; first | (rw [if_pos c65]; rfl) | (rw [if_neg c65]; rfl)))) (Nat.le_of_ble_eq_true rfl) (Nat.le_of_ble_eq_true rfl) dX11_follows_82
          · skip
            have hpp := mLast_pos (N := mCl0 N) (by omega)
            refine lv_aload_n S0.1 S0.2.1 dX11_follows_68 rfl (lv_at hl 0 rfl) ?_
            refine q_cV (n := 0) (rest := []) (wr := []) S0 hK hA hW (c_X11_comes l g mo az ap ak ax a1 a2 a3 a4 a5 a6 v1 v2 v3 v4 v5 v6 pm ik ty th bn (mCl0 N) (by omega) (by omega)) gX11_follows_X11_comes rfl rfl rfl (by decide +kernel) ⟨Nat.le_of_ble_eq_true rfl, Nat.le_of_ble_eq_true rfl⟩ [0, 1, 2, 3] [] rfl rfl rfl rfl (by decide) (q_recv hK hW.1 (ci := 11) (q0 := 0) rfl rfl) (fun _ _ => trivial) (trivial) rfl rfl hl.1 (Nat.le_of_ble_eq_true rfl) ⟨Nat.le_of_ble_eq_true rfl, Nat.le_of_ble_eq_true rfl⟩ dX11_follows_69 (fun _ H locs _ hW => ?_)
            have hW : gW g A s.heap H _ [(mo, .inr (11, [.ref az, .ref ap, .int (iI pm), .ref ak, .int (iI ik), .ref ax, .int (iI ty), .int (iI th), .ref a1, .ref a2, .int (iI (nN (mCome (mCl0 N)))), .ref a3, .int (iI (nP (mCome (mCl0 N)))), .ref a4, .ref a5, .ref a6, .ref v1, .ref v2, .ref v3, .ref v4, .ref v5, .ref v6, .int (iI bn), .int (iI (nWh (mCome (mCl0 N)))), .int (iI (nD (mCome (mCl0 N)))), .int (iI (nG (mCome (mCl0 N))))])), (a1, gI g 41 (nK (mCome (mCl0 N)))), (a2, gI g 41 (nU (mCome (mCl0 N)))), (a3, gI g 90 (nQ (mCome (mCl0 N))))] := hW
            refine W.eq (g2 := F0 m 72 ls []) rfl ?_
            refine lv_aload_n S0.1 S0.2.1 dX11_follows_72 rfl (lv_at hl 0 rfl) ?_
            refine q_cV (n := 0) (rest := []) (wr := []) S0 hK hA hW (c_X11_atom l g mo az ap ak ax a1 a2 a3 a4 a5 a6 v1 v2 v3 v4 v5 v6 pm ik ty th bn (mCome (mCl0 N)) i (by first | exact RN_come hR0 hpp | exact hR0) (fun j => WZ_q hZ0 j)) gX11_follows_X11_atom rfl rfl rfl (by decide +kernel) ⟨Nat.le_of_ble_eq_true rfl, Nat.le_of_ble_eq_true rfl⟩ [0, 1, 2, 3] [] rfl rfl rfl rfl (by decide) (q_recv hK hW.1 (ci := 11) (q0 := 0) rfl rfl) (fun _ _ => trivial) (trivial) rfl rfl hl.1 (Nat.le_of_ble_eq_true rfl) ⟨Nat.le_of_ble_eq_true rfl, Nat.le_of_ble_eq_true rfl⟩ dX11_follows_73 (fun _ H locs _ hW => ?_)
            have hW : gW g A s.heap H _ [(mo, .inr (11, [.ref az, .ref ap, .int (iI pm), .ref ak, .int (iI ik), .ref ax, .int (iI ty), .int (iI th), .ref a1, .ref a2, .int (iI (nN (mAtom (mCome (mCl0 N))))), .ref a3, .int (iI (nP (mAtom (mCome (mCl0 N))))), .ref a4, .ref a5, .ref a6, .ref v1, .ref v2, .ref v3, .ref v4, .ref v5, .ref v6, .int (iI bn), .int (iI (nWh (mAtom (mCome (mCl0 N))))), .int (iI (nD (mAtom (mCome (mCl0 N))))), .int (iI (nG (mAtom (mCome (mCl0 N)))))])), (a1, gI g 41 (nK (mAtom (mCome (mCl0 N))))), (a2, gI g 41 (nU (mAtom (mCome (mCl0 N))))), (a3, gI g 90 (nQ (mAtom (mCome (mCl0 N)))))] := hW
            refine W.eq (g2 := F0 m 76 ls []) rfl ?_
            refine lv_aload_n S0.1 S0.2.1 dX11_follows_76 rfl (lv_at hl 0 rfl) ?_
            refine q_iconst S0 dX11_follows_77 ?_
            refine q_put (C := RX11) (T := TX11) (N := 26) S0 hK hW hinX11 tyX11_ok nmX11 0 rfl rfl 23 (by decide) (List.mem_of_getElem? (i := 1) rfl) rfl rfl rfl rfl (Nat.le_of_ble_eq_true rfl) dX11_follows_78 (fun H locs hW => ?_)
            have hW : gW g A s.heap H _ [(mo, .inr (11, [.ref az, .ref ap, .int (iI pm), .ref ak, .int (iI ik), .ref ax, .int (iI ty), .int (iI th), .ref a1, .ref a2, .int (iI (nN (mAtom (mCome (mCl0 N))))), .ref a3, .int (iI (nP (mAtom (mCome (mCl0 N))))), .ref a4, .ref a5, .ref a6, .ref v1, .ref v2, .ref v3, .ref v4, .ref v5, .ref v6, .int (iI bn), .int (iI 2), .int (iI (nD (mAtom (mCome (mCl0 N))))), .int (iI (nG (mAtom (mCome (mCl0 N)))))])), (a1, gI g 41 (nK (mAtom (mCome (mCl0 N))))), (a2, gI g 41 (nU (mAtom (mCome (mCl0 N))))), (a3, gI g 90 (nQ (mAtom (mCome (mCl0 N)))))] := hW
            refine q_iconst S0 dX11_follows_81 ?_
            exact q_zret S0 hr hlocks () (trivial) (by first | exact Or.inl rfl | exact Or.inr rfl | omega) (by first | (exfalso; omega) | unfold mFollows; (repeat (first | rw [if_pos (by omega)] | rw [if_neg (by omega)])); first | done | rfl | (unfold mClose mCl1; first | (rw [if_pos c65]; rfl) | (rw [if_neg c65]; rfl))) (hW.sub [0, 1, 2, 3] rfl (by first | (exfalso; omega) | (try rw [hsg9]); unfold mFollows; (repeat (first | rw [if_pos (by omega)] | rw [if_neg (by omega)])); first | done | rfl | (unfold mClose mCl1; first | (rw [if_pos c65]; rfl) | (rw [if_neg c65]; rfl)))) (Nat.le_of_ble_eq_true rfl) (Nat.le_of_ble_eq_true rfl) dX11_follows_82
  · skip
    refine lv_iload_n S0.1 S0.2.1 dX11_follows_0 rfl (lv_at hl 1 rfl) ?_
    refine q_bipush S0 (by decide) dX11_follows_1 ?_
    refine q_icmp_ne (tgt := 21) S0 (by omega) dX11_follows_3 (by decide) (fun c3 => ?_) (fun c3 => ?_)
    · skip
      exact hJ21 () (by omega)
    · skip
      refine lv_aload_n S0.1 S0.2.1 dX11_follows_6 rfl (lv_at hl 0 rfl) ?_
      refine q_get (C := RX11) (T := TX11) (N := 26) S0 hK hW.1 hinX11 0 rfl rfl 23 (by decide) (List.mem_of_getElem? (i := 1) rfl) rfl rfl dX11_follows_7 ?_
      refine q_iconst S0 dX11_follows_10 ?_
      refine q_icmp_ne (tgt := 21) S0 (by omega) dX11_follows_11 (by decide) (fun c11 => ?_) (fun c11 => ?_)
      · skip
        exact hJ21 () (by omega)
      · skip
        refine lv_aload_n S0.1 S0.2.1 dX11_follows_14 rfl (lv_at hl 0 rfl) ?_
        refine q_iconst S0 dX11_follows_15 ?_
        refine q_put (C := RX11) (T := TX11) (N := 26) S0 hK hW hinX11 tyX11_ok nmX11 0 rfl rfl 23 (by decide) (List.mem_of_getElem? (i := 1) rfl) rfl rfl rfl rfl (Nat.le_of_ble_eq_true rfl) dX11_follows_16 (fun H locs hW => ?_)
        have hW : gW g A s.heap H _ [(mo, .inr (11, [.ref az, .ref ap, .int (iI pm), .ref ak, .int (iI ik), .ref ax, .int (iI ty), .int (iI th), .ref a1, .ref a2, .int (iI (nN N)), .ref a3, .int (iI (nP N)), .ref a4, .ref a5, .ref a6, .ref v1, .ref v2, .ref v3, .ref v4, .ref v5, .ref v6, .int (iI bn), .int (iI 4), .int (iI (nD N)), .int (iI (nG N))])), (a1, gI g 41 (nK N)), (a2, gI g 41 (nU N)), (a3, gI g 90 (nQ N))] := hW
        refine q_iconst S0 dX11_follows_19 ?_
        exact q_zret S0 hr hlocks () (trivial) (by first | exact Or.inl rfl | exact Or.inr rfl | omega) (by first | (exfalso; omega) | unfold mFollows; (repeat (first | rw [if_pos (by omega)] | rw [if_neg (by omega)])); first | done | rfl | (unfold mClose mCl1; first | (rw [if_pos c65]; rfl) | (rw [if_neg c65]; rfl))) (hW.sub [0, 1, 2, 3] rfl (by first | (exfalso; omega) | (try rw [hsg9]); unfold mFollows; (repeat (first | rw [if_pos (by omega)] | rw [if_neg (by omega)])); first | done | rfl | (unfold mClose mCl1; first | (rw [if_pos c65]; rfl) | (rw [if_neg c65]; rfl)))) (Nat.le_of_ble_eq_true rfl) (Nat.le_of_ble_eq_true rfl) dX11_follows_20
set_option maxHeartbeats 4000000 in
set_option maxRecDepth 100000 in
theorem c_X11_reads (l : Launch) (g : GG) (mo az ap ak ax a1 a2 a3 a4 a5 a6 v1 v2 v3 v4 v5 v6 : Nat) (pm ik ty th bn : Int) (N : NT) (i ch : Int) (hN : WN i N) (hi : i ≤ 39) (hc : 0 ≤ ch ∧ ch ≤ 65535) : qMet l yX11_reads wsX11_reads ({ frames := 4, cells := 0, slots := 0, locals := 85 }) g [.ref mo, .int (iI ch)] [(mo, .inr (11, [.ref az, .ref ap, .int (iI pm), .ref ak, .int (iI ik), .ref ax, .int (iI ty), .int (iI th), .ref a1, .ref a2, .int (iI (nN N)), .ref a3, .int (iI (nP N)), .ref a4, .ref a5, .ref a6, .ref v1, .ref v2, .ref v3, .ref v4, .ref v5, .ref v6, .int (iI bn), .int (iI (nWh N)), .int (iI (nD N)), .int (iI (nG N))])), (a1, gI g 41 (nK N)), (a2, gI g 41 (nU N)), (a3, gI g 90 (nQ N))] (fun _ => True) (fun _ => True) (S := Unit) (fun _ => some (.int (iI ((mReads N ch).2)))) (fun _ => [(mo, .inr (11, [.ref az, .ref ap, .int (iI pm), .ref ak, .int (iI ik), .ref ax, .int (iI ty), .int (iI th), .ref a1, .ref a2, .int (iI (nN ((mReads N ch).1))), .ref a3, .int (iI (nP ((mReads N ch).1))), .ref a4, .ref a5, .ref a6, .ref v1, .ref v2, .ref v3, .ref v4, .ref v5, .ref v6, .int (iI bn), .int (iI (nWh ((mReads N ch).1))), .int (iI (nD ((mReads N ch).1))), .int (iI (nG ((mReads N ch).1)))])), (a1, gI g 41 (nK ((mReads N ch).1))), (a2, gI g 41 (nU ((mReads N ch).1))), (a3, gI g 90 (nQ ((mReads N ch).1)))]) (fun _ => True) 0 0 := by
  refine q_ofW (cc := cX11_reads) (maxL := 3) (ret := (some .boolean)) (fun sz h => h.self) (by decide) rfl (Nat.le_of_ble_eq_true rfl) ?_
  intro p e s m args below meth c A ls S0 hr hlocks hnme hK hA hAe hW hD0 hX hl
  have hW : gW g A s.heap s.heap [] [(mo, .inr (11, [.ref az, .ref ap, .int (iI pm), .ref ak, .int (iI ik), .ref ax, .int (iI ty), .int (iI th), .ref a1, .ref a2, .int (iI (nN N)), .ref a3, .int (iI (nP N)), .ref a4, .ref a5, .ref a6, .ref v1, .ref v2, .ref v3, .ref v4, .ref v5, .ref v6, .int (iI bn), .int (iI (nWh N)), .int (iI (nD N)), .int (iI (nG N))])), (a1, gI g 41 (nK N)), (a2, gI g 41 (nU N)), (a3, gI g 90 (nQ N))] := hW
  have hl : lv_has ls 3 [(0, .ref mo), (1, .int (iI ch))] := hl
  have hinX11 : ∀ w ∈ wsX110, w ∈ wsX11_reads := fun w h => List.mem_cons_of_mem _ (List.mem_append_right _ h)
  obtain ⟨hR, hZ, hw, hD9, h5, h6, h7, h8⟩ := id hN
  have hR2 := hR
  unfold RN at hR2
  have hq := WZ_q hZ
  have hG9 := hZ.2.2.2
  refine lv_aload_n S0.1 S0.2.1 dX11_reads_0 rfl (lv_at hl 0 rfl) ?_
  refine q_get (C := RX11) (T := TX11) (N := 26) S0 hK hW.1 hinX11 0 rfl rfl 23 (by decide) (List.mem_of_getElem? (i := 1) rfl) rfl rfl dX11_reads_1 ?_
  refine q_if_ne (tgt := 13) S0 (by omega) dX11_reads_4 (by decide) (fun c4 => ?_) (fun c4 => ?_)
  · skip
    refine lv_aload_n S0.1 S0.2.1 dX11_reads_13 rfl (lv_at hl 0 rfl) ?_
    refine q_get (C := RX11) (T := TX11) (N := 26) S0 hK hW.1 hinX11 0 rfl rfl 23 (by decide) (List.mem_of_getElem? (i := 1) rfl) rfl rfl dX11_reads_14 ?_
    refine q_iconst S0 dX11_reads_17 ?_
    refine q_icmp_ne (tgt := 51) S0 (by omega) dX11_reads_18 (by decide) (fun c18 => ?_) (fun c18 => ?_)
    · skip
      refine lv_aload_n S0.1 S0.2.1 dX11_reads_51 rfl (lv_at hl 0 rfl) ?_
      refine q_get (C := RX11) (T := TX11) (N := 26) S0 hK hW.1 hinX11 0 rfl rfl 23 (by decide) (List.mem_of_getElem? (i := 1) rfl) rfl rfl dX11_reads_52 ?_
      refine q_iconst S0 dX11_reads_55 ?_
      refine q_icmp_ne (tgt := 93) S0 (by omega) dX11_reads_56 (by decide) (fun c56 => ?_) (fun c56 => ?_)
      · skip
        refine lv_aload_n S0.1 S0.2.1 dX11_reads_93 rfl (lv_at hl 0 rfl) ?_
        refine q_get (C := RX11) (T := TX11) (N := 26) S0 hK hW.1 hinX11 0 rfl rfl 23 (by decide) (List.mem_of_getElem? (i := 1) rfl) rfl rfl dX11_reads_94 ?_
        refine q_iconst S0 dX11_reads_97 ?_
        refine q_icmp_ne (tgt := 152) S0 (by omega) dX11_reads_98 (by decide) (fun c98 => ?_) (fun c98 => ?_)
        · skip
          refine lv_aload_n S0.1 S0.2.1 dX11_reads_152 rfl (lv_at hl 0 rfl) ?_
          refine q_cV (n := 0) (rest := []) (wr := []) S0 hK hA hW (c_X11_endsNumber l g mo az ap ak ax a1 a2 a3 a4 a5 a6 v1 v2 v3 v4 v5 v6 pm ik ty th bn N i (hR) (fun z => (h8 z).2) (hq) (by omega)) gX11_reads_X11_endsNumber rfl rfl rfl (by decide +kernel) ⟨Nat.le_of_ble_eq_true rfl, Nat.le_of_ble_eq_true rfl⟩ [0, 1, 2, 3] [] rfl rfl rfl rfl (by decide) (q_recv hK hW.1 (ci := 11) (q0 := 0) rfl rfl) (fun _ _ => trivial) (trivial) rfl rfl hl.1 (Nat.le_of_ble_eq_true rfl) ⟨Nat.le_of_ble_eq_true rfl, Nat.le_of_ble_eq_true rfl⟩ dX11_reads_153 (fun _ H locs _ hW => ?_)
          have hW : gW g A s.heap H _ [(mo, .inr (11, [.ref az, .ref ap, .int (iI pm), .ref ak, .int (iI ik), .ref ax, .int (iI ty), .int (iI th), .ref a1, .ref a2, .int (iI (nN (mEnds N))), .ref a3, .int (iI (nP (mEnds N))), .ref a4, .ref a5, .ref a6, .ref v1, .ref v2, .ref v3, .ref v4, .ref v5, .ref v6, .int (iI bn), .int (iI (nWh (mEnds N))), .int (iI (nD (mEnds N))), .int (iI (nG (mEnds N)))])), (a1, gI g 41 (nK (mEnds N))), (a2, gI g 41 (nU (mEnds N))), (a3, gI g 90 (nQ (mEnds N)))] := hW
          refine W.eq (g2 := F0 m 156 ls []) rfl ?_
          refine lv_aload_n S0.1 S0.2.1 dX11_reads_156 rfl (lv_at hl 0 rfl) ?_
          refine lv_iload_n S0.1 S0.2.1 dX11_reads_157 rfl (lv_at hl 1 rfl) ?_
          have hB := WB_ends hN (by omega)
          refine q_cV (n := 1) (rest := []) (wr := []) S0 hK hA hW (c_X11_follows l g mo az ap ak ax a1 a2 a3 a4 a5 a6 v1 v2 v3 v4 v5 v6 pm ik ty th bn (mEnds N) i ch (hB) (hi) (hc)) gX11_reads_X11_follows rfl rfl rfl (by decide +kernel) ⟨Nat.le_of_ble_eq_true rfl, Nat.le_of_ble_eq_true rfl⟩ [0, 1, 2, 3] [] rfl rfl rfl rfl (by decide) (q_recv hK hW.1 (ci := 11) (q0 := 0) rfl rfl) (fun _ _ => trivial) (trivial) rfl rfl hl.1 (Nat.le_of_ble_eq_true rfl) ⟨Nat.le_of_ble_eq_true rfl, Nat.le_of_ble_eq_true rfl⟩ dX11_reads_158 (fun _ H locs _ hW => ?_)
          have hW : gW g A s.heap H _ [(mo, .inr (11, [.ref az, .ref ap, .int (iI pm), .ref ak, .int (iI ik), .ref ax, .int (iI ty), .int (iI th), .ref a1, .ref a2, .int (iI (nN ((mFollows (mEnds N) ch).1))), .ref a3, .int (iI (nP ((mFollows (mEnds N) ch).1))), .ref a4, .ref a5, .ref a6, .ref v1, .ref v2, .ref v3, .ref v4, .ref v5, .ref v6, .int (iI bn), .int (iI (nWh ((mFollows (mEnds N) ch).1))), .int (iI (nD ((mFollows (mEnds N) ch).1))), .int (iI (nG ((mFollows (mEnds N) ch).1)))])), (a1, gI g 41 (nK ((mFollows (mEnds N) ch).1))), (a2, gI g 41 (nU ((mFollows (mEnds N) ch).1))), (a3, gI g 90 (nQ ((mFollows (mEnds N) ch).1)))] := hW
          refine W.eq (g2 := F0 m 161 ls [.int (iI ((mFollows (mEnds N) ch).2))]) rfl ?_
          exact q_zret S0 hr hlocks () (trivial) (mFollows_01 (mEnds N) ch) (by unfold mReads; (repeat (first | rw [if_pos (by omega)] | rw [if_neg (by omega)])); first | done | rfl) (hW.sub [0, 1, 2, 3] rfl (by unfold mReads; (repeat (first | rw [if_pos (by omega)] | rw [if_neg (by omega)])); first | done | rfl)) (Nat.le_of_ble_eq_true rfl) (Nat.le_of_ble_eq_true rfl) dX11_reads_161
        · skip
          refine lv_iload_n S0.1 S0.2.1 dX11_reads_101 rfl (lv_at hl 1 rfl) ?_
          refine q_bipush S0 (by decide) dX11_reads_102 ?_
          refine q_bipush S0 (by decide) dX11_reads_104 ?_
          refine q_pS (n := 3) (rest := []) S0 hK (c_X11_in l g ch 48 57 (by omega) (by omega) (by omega)) (subP hW.1 [] rfl) (trivial) gX11_reads_X11_in rfl rfl rfl (by decide +kernel) ⟨Nat.le_of_ble_eq_true rfl, Nat.le_of_ble_eq_true rfl⟩ rfl rfl hl.1 (Nat.le_of_ble_eq_true rfl) ⟨Nat.le_of_ble_eq_true rfl, Nat.le_of_ble_eq_true rfl⟩ dX11_reads_106 ?_
          refine W.eq (g2 := F0 m 109 ls [.int (iI (if 48 ≤ ch ∧ ch ≤ 57 then (1 : Int) else 0))]) rfl ?_
          refine q_if_eqP (tgt := 152) S0 dX11_reads_109 (by decide) (fun c109 => ?_) (fun c109 => ?_)
          · skip
            refine lv_aload_n S0.1 S0.2.1 dX11_reads_152 rfl (lv_at hl 0 rfl) ?_
            refine q_cV (n := 0) (rest := []) (wr := []) S0 hK hA hW (c_X11_endsNumber l g mo az ap ak ax a1 a2 a3 a4 a5 a6 v1 v2 v3 v4 v5 v6 pm ik ty th bn N i (hR) (fun z => (h8 z).2) (hq) (by omega)) gX11_reads_X11_endsNumber rfl rfl rfl (by decide +kernel) ⟨Nat.le_of_ble_eq_true rfl, Nat.le_of_ble_eq_true rfl⟩ [0, 1, 2, 3] [] rfl rfl rfl rfl (by decide) (q_recv hK hW.1 (ci := 11) (q0 := 0) rfl rfl) (fun _ _ => trivial) (trivial) rfl rfl hl.1 (Nat.le_of_ble_eq_true rfl) ⟨Nat.le_of_ble_eq_true rfl, Nat.le_of_ble_eq_true rfl⟩ dX11_reads_153 (fun _ H locs _ hW => ?_)
            have hW : gW g A s.heap H _ [(mo, .inr (11, [.ref az, .ref ap, .int (iI pm), .ref ak, .int (iI ik), .ref ax, .int (iI ty), .int (iI th), .ref a1, .ref a2, .int (iI (nN (mEnds N))), .ref a3, .int (iI (nP (mEnds N))), .ref a4, .ref a5, .ref a6, .ref v1, .ref v2, .ref v3, .ref v4, .ref v5, .ref v6, .int (iI bn), .int (iI (nWh (mEnds N))), .int (iI (nD (mEnds N))), .int (iI (nG (mEnds N)))])), (a1, gI g 41 (nK (mEnds N))), (a2, gI g 41 (nU (mEnds N))), (a3, gI g 90 (nQ (mEnds N)))] := hW
            refine W.eq (g2 := F0 m 156 ls []) rfl ?_
            refine lv_aload_n S0.1 S0.2.1 dX11_reads_156 rfl (lv_at hl 0 rfl) ?_
            refine lv_iload_n S0.1 S0.2.1 dX11_reads_157 rfl (lv_at hl 1 rfl) ?_
            have hB := WB_ends hN (by omega)
            refine q_cV (n := 1) (rest := []) (wr := []) S0 hK hA hW (c_X11_follows l g mo az ap ak ax a1 a2 a3 a4 a5 a6 v1 v2 v3 v4 v5 v6 pm ik ty th bn (mEnds N) i ch (hB) (hi) (hc)) gX11_reads_X11_follows rfl rfl rfl (by decide +kernel) ⟨Nat.le_of_ble_eq_true rfl, Nat.le_of_ble_eq_true rfl⟩ [0, 1, 2, 3] [] rfl rfl rfl rfl (by decide) (q_recv hK hW.1 (ci := 11) (q0 := 0) rfl rfl) (fun _ _ => trivial) (trivial) rfl rfl hl.1 (Nat.le_of_ble_eq_true rfl) ⟨Nat.le_of_ble_eq_true rfl, Nat.le_of_ble_eq_true rfl⟩ dX11_reads_158 (fun _ H locs _ hW => ?_)
            have hW : gW g A s.heap H _ [(mo, .inr (11, [.ref az, .ref ap, .int (iI pm), .ref ak, .int (iI ik), .ref ax, .int (iI ty), .int (iI th), .ref a1, .ref a2, .int (iI (nN ((mFollows (mEnds N) ch).1))), .ref a3, .int (iI (nP ((mFollows (mEnds N) ch).1))), .ref a4, .ref a5, .ref a6, .ref v1, .ref v2, .ref v3, .ref v4, .ref v5, .ref v6, .int (iI bn), .int (iI (nWh ((mFollows (mEnds N) ch).1))), .int (iI (nD ((mFollows (mEnds N) ch).1))), .int (iI (nG ((mFollows (mEnds N) ch).1)))])), (a1, gI g 41 (nK ((mFollows (mEnds N) ch).1))), (a2, gI g 41 (nU ((mFollows (mEnds N) ch).1))), (a3, gI g 90 (nQ ((mFollows (mEnds N) ch).1)))] := hW
            refine W.eq (g2 := F0 m 161 ls [.int (iI ((mFollows (mEnds N) ch).2))]) rfl ?_
            exact q_zret S0 hr hlocks () (trivial) (mFollows_01 (mEnds N) ch) (by unfold mReads; (repeat (first | rw [if_pos (by omega)] | rw [if_neg (by omega)])); first | done | rfl) (hW.sub [0, 1, 2, 3] rfl (by unfold mReads; (repeat (first | rw [if_pos (by omega)] | rw [if_neg (by omega)])); first | done | rfl)) (Nat.le_of_ble_eq_true rfl) (Nat.le_of_ble_eq_true rfl) dX11_reads_161
          · skip
            refine q_cut (α := Unit) (fun _ => F0 m 133 ls (.int (iI (if 0 < nG N ∧ nG N < 100 then (1 : Int) else 0)) :: [])) (fun _ => True) (fun _ _ => ?_) (fun hJ112 => ?_)
            · skip
              refine lv_istore_n (lv' := [(2, .int (iI (if 0 < nG N ∧ nG N < 100 then (1 : Int) else 0))), (0, .ref mo), (1, .int (iI ch))]) S0.1 S0.2.1 dX11_reads_133 rfl hl (by decide) rfl (fun ls hl => ?_)
              refine lv_aload_n S0.1 S0.2.1 dX11_reads_134 rfl (lv_at hl 1 rfl) ?_
              refine q_bipush S0 (by decide) dX11_reads_135 ?_
              refine lv_aload_n S0.1 S0.2.1 dX11_reads_137 rfl (lv_at hl 1 rfl) ?_
              refine q_get (C := RX11) (T := TX11) (N := 26) S0 hK hW.1 hinX11 0 rfl rfl 25 (by decide) (List.mem_of_getElem? (i := 3) rfl) rfl rfl dX11_reads_138 ?_
              refine q_imul S0 dX11_reads_141 ?_
              refine lv_iload_n S0.1 S0.2.1 dX11_reads_142 rfl (lv_at hl 2 rfl) ?_
              refine q_iadd S0 dX11_reads_143 ?_
              refine q_bipush S0 (by decide) dX11_reads_144 ?_
              refine q_isub S0 dX11_reads_146 ?_
              refine q_put (C := RX11) (T := TX11) (N := 26) S0 hK hW hinX11 tyX11_ok nmX11 0 rfl rfl 25 (by decide) (List.mem_of_getElem? (i := 3) rfl) rfl rfl rfl rfl (Nat.le_of_ble_eq_true rfl) dX11_reads_147 (fun H locs hW => ?_)
              have hW : gW g A s.heap H _ [(mo, .inr (11, [.ref az, .ref ap, .int (iI pm), .ref ak, .int (iI ik), .ref ax, .int (iI ty), .int (iI th), .ref a1, .ref a2, .int (iI (nN N)), .ref a3, .int (iI (nP N)), .ref a4, .ref a5, .ref a6, .ref v1, .ref v2, .ref v3, .ref v4, .ref v5, .ref v6, .int (iI bn), .int (iI (nWh N)), .int (iI (nD N)), .int (iI (((10 * (nG N)) + ch) - 48))])), (a1, gI g 41 (nK N)), (a2, gI g 41 (nU N)), (a3, gI g 90 (nQ N))] := hW
              refine lv_iload_n S0.1 S0.2.1 dX11_reads_150 rfl (lv_at hl 0 rfl) ?_
              exact q_zret S0 hr hlocks () (trivial) (by first | exact Or.inl rfl | exact Or.inr rfl | (split <;> simp)) (by unfold mReads; (repeat (first | rw [if_pos (by omega)] | rw [if_neg (by omega)])); first | done | rfl) (hW.sub [0, 1, 2, 3] rfl (by unfold mReads; (repeat (first | rw [if_pos (by omega)] | rw [if_neg (by omega)])); first | done | rfl)) (Nat.le_of_ble_eq_true rfl) (Nat.le_of_ble_eq_true rfl) dX11_reads_151
            · skip
              refine lv_aload_n S0.1 S0.2.1 dX11_reads_112 rfl (lv_at hl 0 rfl) ?_
              refine q_get (C := RX11) (T := TX11) (N := 26) S0 hK hW.1 hinX11 0 rfl rfl 25 (by decide) (List.mem_of_getElem? (i := 3) rfl) rfl rfl dX11_reads_113 ?_
              refine q_if_le (tgt := 132) S0 (by omega) dX11_reads_116 (by decide) (fun c116 => ?_) (fun c116 => ?_)
              · skip
                refine q_iconst S0 dX11_reads_132 ?_
                refine W.eq (g2 := F0 m 133 ls (.int (iI (if 0 < nG N ∧ nG N < 100 then (1 : Int) else 0)) :: [])) (by rw [show (if 0 < nG N ∧ nG N < 100 then (1 : Int) else 0) = 0 from if_neg (by omega)]) ?_
                exact hJ112 () trivial
              · skip
                refine lv_aload_n S0.1 S0.2.1 dX11_reads_119 rfl (lv_at hl 0 rfl) ?_
                refine q_get (C := RX11) (T := TX11) (N := 26) S0 hK hW.1 hinX11 0 rfl rfl 25 (by decide) (List.mem_of_getElem? (i := 3) rfl) rfl rfl dX11_reads_120 ?_
                refine q_bipush S0 (by decide) dX11_reads_123 ?_
                refine q_icmp_ge (tgt := 132) S0 (by omega) dX11_reads_125 (by decide) (fun c125 => ?_) (fun c125 => ?_)
                · skip
                  refine q_iconst S0 dX11_reads_132 ?_
                  refine W.eq (g2 := F0 m 133 ls (.int (iI (if 0 < nG N ∧ nG N < 100 then (1 : Int) else 0)) :: [])) (by rw [show (if 0 < nG N ∧ nG N < 100 then (1 : Int) else 0) = 0 from if_neg (by omega)]) ?_
                  exact hJ112 () trivial
                · skip
                  refine q_iconst S0 dX11_reads_128 ?_
                  refine lv_goto (tgt := 133) S0.1 S0.2.1 dX11_reads_129 (by decide) ?_
                  refine W.eq (g2 := F0 m 133 ls (.int (iI (if 0 < nG N ∧ nG N < 100 then (1 : Int) else 0)) :: [])) (by rw [show (if 0 < nG N ∧ nG N < 100 then (1 : Int) else 0) = 1 from if_pos (by omega)]) ?_
                  exact hJ112 () trivial
      · skip
        refine lv_aload_n S0.1 S0.2.1 dX11_reads_59 rfl (lv_at hl 0 rfl) ?_
        refine q_bipush S0 (by decide) dX11_reads_60 ?_
        refine q_iconst S0 dX11_reads_62 ?_
        refine q_cV (n := 2) (rest := []) (wr := [(a1, gI g 41 (nK N)), (a2, gI g 41 (nU N))]) S0 hK hA hW (c_X11_waitsFor l g mo az ap ak ax a1 a2 a3 a4 a5 a6 v1 v2 v3 v4 v5 v6 pm ik ty th bn N 9 0 (by omega)) gX11_reads_X11_waitsFor rfl rfl rfl (by decide +kernel) ⟨Nat.le_of_ble_eq_true rfl, Nat.le_of_ble_eq_true rfl⟩ [0, 3] [1, 2] rfl rfl rfl rfl (by decide) (q_recv hK hW.1 (ci := 11) (q0 := 0) rfl rfl) (fun _ _ => trivial) (trivial) rfl rfl hl.1 (Nat.le_of_ble_eq_true rfl) ⟨Nat.le_of_ble_eq_true rfl, Nat.le_of_ble_eq_true rfl⟩ dX11_reads_63 (fun _ H locs _ hW => ?_)
        have hW : gW g A s.heap H _ [(a1, gI g 41 (nK N)), (a2, gI g 41 (nU N)), (mo, .inr (11, [.ref az, .ref ap, .int (iI pm), .ref ak, .int (iI ik), .ref ax, .int (iI ty), .int (iI th), .ref a1, .ref a2, .int (iI (nN (mWait N 9 0))), .ref a3, .int (iI (nP (mWait N 9 0))), .ref a4, .ref a5, .ref a6, .ref v1, .ref v2, .ref v3, .ref v4, .ref v5, .ref v6, .int (iI bn), .int (iI (nWh (mWait N 9 0))), .int (iI (nD (mWait N 9 0))), .int (iI (nG (mWait N 9 0)))])), (a3, gI g 90 (nQ (mWait N 9 0)))] := hW
        refine W.eq (g2 := F0 m 66 ls []) rfl ?_
        refine lv_aload_n S0.1 S0.2.1 dX11_reads_66 rfl (lv_at hl 0 rfl) ?_
        refine lv_dup S0.1 S0.2.1 dX11_reads_67 rfl ?_
        refine q_get (C := RX11) (T := TX11) (N := 26) S0 hK hW.1 hinX11 2 rfl rfl 24 (by decide) (List.mem_of_getElem? (i := 2) rfl) rfl rfl dX11_reads_68 ?_
        refine q_iconst S0 dX11_reads_71 ?_
        refine q_iadd S0 dX11_reads_72 ?_
        refine q_put (C := RX11) (T := TX11) (N := 26) S0 hK hW hinX11 tyX11_ok nmX11 2 rfl rfl 24 (by decide) (List.mem_of_getElem? (i := 2) rfl) rfl rfl rfl rfl (Nat.le_of_ble_eq_true rfl) dX11_reads_73 (fun H locs hW => ?_)
        have hW : gW g A s.heap H _ [(a1, gI g 41 (nK N)), (a2, gI g 41 (nU N)), (mo, .inr (11, [.ref az, .ref ap, .int (iI pm), .ref ak, .int (iI ik), .ref ax, .int (iI ty), .int (iI th), .ref a1, .ref a2, .int (iI (nN (mWait N 9 0))), .ref a3, .int (iI (nP (mWait N 9 0))), .ref a4, .ref a5, .ref a6, .ref v1, .ref v2, .ref v3, .ref v4, .ref v5, .ref v6, .int (iI bn), .int (iI (nWh (mWait N 9 0))), .int (iI ((nD (mWait N 9 0)) + 1)), .int (iI (nG (mWait N 9 0)))])), (a3, gI g 90 (nQ (mWait N 9 0)))] := hW
        refine lv_aload_n S0.1 S0.2.1 dX11_reads_76 rfl (lv_at hl 0 rfl) ?_
        refine q_iconst S0 dX11_reads_77 ?_
        refine q_put (C := RX11) (T := TX11) (N := 26) S0 hK hW hinX11 tyX11_ok nmX11 2 rfl rfl 23 (by decide) (List.mem_of_getElem? (i := 1) rfl) rfl rfl rfl rfl (Nat.le_of_ble_eq_true rfl) dX11_reads_78 (fun H locs hW => ?_)
        have hW : gW g A s.heap H _ [(a1, gI g 41 (nK N)), (a2, gI g 41 (nU N)), (mo, .inr (11, [.ref az, .ref ap, .int (iI pm), .ref ak, .int (iI ik), .ref ax, .int (iI ty), .int (iI th), .ref a1, .ref a2, .int (iI (nN (mWait N 9 0))), .ref a3, .int (iI (nP (mWait N 9 0))), .ref a4, .ref a5, .ref a6, .ref v1, .ref v2, .ref v3, .ref v4, .ref v5, .ref v6, .int (iI bn), .int (iI 0), .int (iI ((nD (mWait N 9 0)) + 1)), .int (iI (nG (mWait N 9 0)))])), (a3, gI g 90 (nQ (mWait N 9 0)))] := hW
        refine lv_iload_n S0.1 S0.2.1 dX11_reads_81 rfl (lv_at hl 1 rfl) ?_
        refine q_bipush S0 (by decide) dX11_reads_82 ?_
        refine q_icmp_ne (tgt := 91) S0 (by omega) dX11_reads_84 (by decide) (fun c84 => ?_) (fun c84 => ?_)
        · skip
          refine q_iconst S0 dX11_reads_91 ?_
          exact q_zret S0 hr hlocks () (trivial) (by first | exact Or.inl rfl | exact Or.inr rfl | (split <;> simp)) (by unfold mReads; (repeat (first | rw [if_pos (by omega)] | rw [if_neg (by omega)])); first | done | rfl) (hW.sub [2, 0, 1, 3] rfl (by unfold mReads; (repeat (first | rw [if_pos (by omega)] | rw [if_neg (by omega)])); first | done | rfl)) (Nat.le_of_ble_eq_true rfl) (Nat.le_of_ble_eq_true rfl) dX11_reads_92
        · skip
          refine q_iconst S0 dX11_reads_87 ?_
          refine lv_goto (tgt := 92) S0.1 S0.2.1 dX11_reads_88 (by decide) ?_
          exact q_zret S0 hr hlocks () (trivial) (by first | exact Or.inl rfl | exact Or.inr rfl | (split <;> simp)) (by unfold mReads; (repeat (first | rw [if_pos (by omega)] | rw [if_neg (by omega)])); first | done | rfl) (hW.sub [2, 0, 1, 3] rfl (by unfold mReads; (repeat (first | rw [if_pos (by omega)] | rw [if_neg (by omega)])); first | done | rfl)) (Nat.le_of_ble_eq_true rfl) (Nat.le_of_ble_eq_true rfl) dX11_reads_92
    · skip
      refine lv_iload_n S0.1 S0.2.1 dX11_reads_21 rfl (lv_at hl 1 rfl) ?_
      refine q_bipush S0 (by decide) dX11_reads_22 ?_
      refine q_bipush S0 (by decide) dX11_reads_24 ?_
      refine q_pS (n := 3) (rest := []) S0 hK (c_X11_in l g ch 48 57 (by omega) (by omega) (by omega)) (subP hW.1 [] rfl) (trivial) gX11_reads_X11_in rfl rfl rfl (by decide +kernel) ⟨Nat.le_of_ble_eq_true rfl, Nat.le_of_ble_eq_true rfl⟩ rfl rfl hl.1 (Nat.le_of_ble_eq_true rfl) ⟨Nat.le_of_ble_eq_true rfl, Nat.le_of_ble_eq_true rfl⟩ dX11_reads_26 ?_
      refine W.eq (g2 := F0 m 29 ls [.int (iI (if 48 ≤ ch ∧ ch ≤ 57 then (1 : Int) else 0))]) rfl ?_
      refine lv_istore_n (lv' := [(2, .int (iI (if 48 ≤ ch ∧ ch ≤ 57 then (1 : Int) else 0))), (0, .ref mo), (1, .int (iI ch))]) S0.1 S0.2.1 dX11_reads_29 rfl hl (by decide) rfl (fun ls hl => ?_)
      refine lv_iload_n S0.1 S0.2.1 dX11_reads_30 rfl (lv_at hl 0 rfl) ?_
      refine q_if_eqP (tgt := 44) S0 dX11_reads_31 (by decide) (fun c31 => ?_) (fun c31 => ?_)
      · skip
        refine lv_aload_n S0.1 S0.2.1 dX11_reads_44 rfl (lv_at hl 1 rfl) ?_
        refine q_iconst S0 dX11_reads_45 ?_
        refine q_put (C := RX11) (T := TX11) (N := 26) S0 hK hW hinX11 tyX11_ok nmX11 0 rfl rfl 23 (by decide) (List.mem_of_getElem? (i := 1) rfl) rfl rfl rfl rfl (Nat.le_of_ble_eq_true rfl) dX11_reads_46 (fun H locs hW => ?_)
        have hW : gW g A s.heap H _ [(mo, .inr (11, [.ref az, .ref ap, .int (iI pm), .ref ak, .int (iI ik), .ref ax, .int (iI ty), .int (iI th), .ref a1, .ref a2, .int (iI (nN N)), .ref a3, .int (iI (nP N)), .ref a4, .ref a5, .ref a6, .ref v1, .ref v2, .ref v3, .ref v4, .ref v5, .ref v6, .int (iI bn), .int (iI 3), .int (iI (nD N)), .int (iI (nG N))])), (a1, gI g 41 (nK N)), (a2, gI g 41 (nU N)), (a3, gI g 90 (nQ N))] := hW
        refine lv_iload_n S0.1 S0.2.1 dX11_reads_49 rfl (lv_at hl 0 rfl) ?_
        exact q_zret S0 hr hlocks () (trivial) (by first | exact Or.inl rfl | exact Or.inr rfl | (split <;> simp)) (by unfold mReads; (repeat (first | rw [if_pos (by omega)] | rw [if_neg (by omega)])); first | done | rfl) (hW.sub [0, 1, 2, 3] rfl (by unfold mReads; (repeat (first | rw [if_pos (by omega)] | rw [if_neg (by omega)])); first | done | rfl)) (Nat.le_of_ble_eq_true rfl) (Nat.le_of_ble_eq_true rfl) dX11_reads_50
      · skip
        refine lv_aload_n S0.1 S0.2.1 dX11_reads_34 rfl (lv_at hl 1 rfl) ?_
        refine q_bipush S0 (by decide) dX11_reads_35 ?_
        refine lv_iload_n S0.1 S0.2.1 dX11_reads_37 rfl (lv_at hl 2 rfl) ?_
        refine q_bipush S0 (by decide) dX11_reads_38 ?_
        refine q_isub S0 dX11_reads_40 ?_
        refine q_cV (n := 2) (rest := []) (wr := [(a3, gI g 90 (nQ N))]) S0 hK hA hW (c_X11_node l g mo az ap ak ax a1 a2 a3 a4 a5 a6 v1 v2 v3 v4 v5 v6 pm ik ty th bn N 7 (ch - 48) (by omega)) gX11_reads_X11_node rfl rfl rfl (by decide +kernel) ⟨Nat.le_of_ble_eq_true rfl, Nat.le_of_ble_eq_true rfl⟩ [0, 1, 2] [3] rfl rfl rfl rfl (by decide) (q_recv hK hW.1 (ci := 11) (q0 := 0) rfl rfl) (fun _ _ => trivial) (trivial) rfl rfl hl.1 (Nat.le_of_ble_eq_true rfl) ⟨Nat.le_of_ble_eq_true rfl, Nat.le_of_ble_eq_true rfl⟩ dX11_reads_41 (fun _ H locs _ hW => ?_)
        have hW : gW g A s.heap H _ [(a3, gI g 90 (nQ N)), (mo, .inr (11, [.ref az, .ref ap, .int (iI pm), .ref ak, .int (iI ik), .ref ax, .int (iI ty), .int (iI th), .ref a1, .ref a2, .int (iI (nN (mNode N 7 (ch - 48)))), .ref a3, .int (iI (nP (mNode N 7 (ch - 48)))), .ref a4, .ref a5, .ref a6, .ref v1, .ref v2, .ref v3, .ref v4, .ref v5, .ref v6, .int (iI bn), .int (iI (nWh (mNode N 7 (ch - 48)))), .int (iI (nD (mNode N 7 (ch - 48)))), .int (iI (nG (mNode N 7 (ch - 48))))])), (a1, gI g 41 (nK (mNode N 7 (ch - 48)))), (a2, gI g 41 (nU (mNode N 7 (ch - 48))))] := hW
        refine W.eq (g2 := F0 m 44 ls []) rfl ?_
        refine lv_aload_n S0.1 S0.2.1 dX11_reads_44 rfl (lv_at hl 1 rfl) ?_
        refine q_iconst S0 dX11_reads_45 ?_
        refine q_put (C := RX11) (T := TX11) (N := 26) S0 hK hW hinX11 tyX11_ok nmX11 1 rfl rfl 23 (by decide) (List.mem_of_getElem? (i := 1) rfl) rfl rfl rfl rfl (Nat.le_of_ble_eq_true rfl) dX11_reads_46 (fun H locs hW => ?_)
        have hW : gW g A s.heap H _ [(a3, gI g 90 (nQ N)), (mo, .inr (11, [.ref az, .ref ap, .int (iI pm), .ref ak, .int (iI ik), .ref ax, .int (iI ty), .int (iI th), .ref a1, .ref a2, .int (iI (nN (mNode N 7 (ch - 48)))), .ref a3, .int (iI (nP (mNode N 7 (ch - 48)))), .ref a4, .ref a5, .ref a6, .ref v1, .ref v2, .ref v3, .ref v4, .ref v5, .ref v6, .int (iI bn), .int (iI 3), .int (iI (nD (mNode N 7 (ch - 48)))), .int (iI (nG (mNode N 7 (ch - 48))))])), (a1, gI g 41 (nK (mNode N 7 (ch - 48)))), (a2, gI g 41 (nU (mNode N 7 (ch - 48))))] := hW
        refine lv_iload_n S0.1 S0.2.1 dX11_reads_49 rfl (lv_at hl 0 rfl) ?_
        exact q_zret S0 hr hlocks () (trivial) (by first | exact Or.inl rfl | exact Or.inr rfl | (split <;> simp)) (by unfold mReads; (repeat (first | rw [if_pos (by omega)] | rw [if_neg (by omega)])); first | done | rfl) (hW.sub [1, 2, 3, 0] rfl (by unfold mReads; (repeat (first | rw [if_pos (by omega)] | rw [if_neg (by omega)])); first | done | rfl)) (Nat.le_of_ble_eq_true rfl) (Nat.le_of_ble_eq_true rfl) dX11_reads_50
  · skip
    refine lv_aload_n S0.1 S0.2.1 dX11_reads_7 rfl (lv_at hl 0 rfl) ?_
    refine lv_iload_n S0.1 S0.2.1 dX11_reads_8 rfl (lv_at hl 1 rfl) ?_
    refine q_cV (n := 1) (rest := []) (wr := []) S0 hK hA hW (c_X11_begins l g mo az ap ak ax a1 a2 a3 a4 a5 a6 v1 v2 v3 v4 v5 v6 pm ik ty th bn N i ch (hR) (hi) (hq) (hc)) gX11_reads_X11_begins rfl rfl rfl (by decide +kernel) ⟨Nat.le_of_ble_eq_true rfl, Nat.le_of_ble_eq_true rfl⟩ [0, 1, 2, 3] [] rfl rfl rfl rfl (by decide) (q_recv hK hW.1 (ci := 11) (q0 := 0) rfl rfl) (fun _ _ => trivial) (trivial) rfl rfl hl.1 (Nat.le_of_ble_eq_true rfl) ⟨Nat.le_of_ble_eq_true rfl, Nat.le_of_ble_eq_true rfl⟩ dX11_reads_9 (fun _ H locs _ hW => ?_)
    have hW : gW g A s.heap H _ [(mo, .inr (11, [.ref az, .ref ap, .int (iI pm), .ref ak, .int (iI ik), .ref ax, .int (iI ty), .int (iI th), .ref a1, .ref a2, .int (iI (nN ((mBegins N ch).1))), .ref a3, .int (iI (nP ((mBegins N ch).1))), .ref a4, .ref a5, .ref a6, .ref v1, .ref v2, .ref v3, .ref v4, .ref v5, .ref v6, .int (iI bn), .int (iI (nWh ((mBegins N ch).1))), .int (iI (nD ((mBegins N ch).1))), .int (iI (nG ((mBegins N ch).1)))])), (a1, gI g 41 (nK ((mBegins N ch).1))), (a2, gI g 41 (nU ((mBegins N ch).1))), (a3, gI g 90 (nQ ((mBegins N ch).1)))] := hW
    refine W.eq (g2 := F0 m 12 ls [.int (iI ((mBegins N ch).2))]) rfl ?_
    exact q_zret S0 hr hlocks () (trivial) (mBegins_01 N ch) (by unfold mReads; (repeat (first | rw [if_pos (by omega)] | rw [if_neg (by omega)])); first | done | rfl) (hW.sub [0, 1, 2, 3] rfl (by unfold mReads; (repeat (first | rw [if_pos (by omega)] | rw [if_neg (by omega)])); first | done | rfl)) (Nat.le_of_ble_eq_true rfl) (Nat.le_of_ble_eq_true rfl) dX11_reads_12
set_option maxHeartbeats 4000000 in
set_option maxRecDepth 100000 in
theorem c_X11_readText (l : Launch) (g : GG) (mo az ap ak ax a1 a2 a3 a4 a5 a6 v1 v2 v3 v4 v5 v6 : Nat) (pm ik ty th bn : Int) (N : NT) (f : Nat → Int) (hZ : WZ N) (ht : 0 ≤ ty ∧ ty ≤ 40) (hf : ∀ j, 0 ≤ f j ∧ f j < 65536) : qMet l yX11_readText wsX11_readText ({ frames := 5, cells := 0, slots := 0, locals := 107 }) g [.ref mo] [(mo, .inr (11, [.ref az, .ref ap, .int (iI pm), .ref ak, .int (iI ik), .ref ax, .int (iI ty), .int (iI th), .ref a1, .ref a2, .int (iI (nN N)), .ref a3, .int (iI (nP N)), .ref a4, .ref a5, .ref a6, .ref v1, .ref v2, .ref v3, .ref v4, .ref v5, .ref v6, .int (iI bn), .int (iI (nWh N)), .int (iI (nD N)), .int (iI (nG N))])), (a1, gI g 41 (nK N)), (a2, gI g 41 (nU N)), (a3, gI g 90 (nQ N)), (ax, gC g 40 f)] (fun _ => True) (fun _ => True) (S := Unit) (fun _ => some (.int (iI ((mRead N f ty).2)))) (fun _ => [(mo, .inr (11, [.ref az, .ref ap, .int (iI pm), .ref ak, .int (iI ik), .ref ax, .int (iI ty), .int (iI th), .ref a1, .ref a2, .int (iI (nN ((mRead N f ty).1))), .ref a3, .int (iI (nP ((mRead N f ty).1))), .ref a4, .ref a5, .ref a6, .ref v1, .ref v2, .ref v3, .ref v4, .ref v5, .ref v6, .int (iI bn), .int (iI (nWh ((mRead N f ty).1))), .int (iI (nD ((mRead N f ty).1))), .int (iI (nG ((mRead N f ty).1)))])), (a1, gI g 41 (nK ((mRead N f ty).1))), (a2, gI g 41 (nU ((mRead N f ty).1))), (a3, gI g 90 (nQ ((mRead N f ty).1))), (ax, gC g 40 f)]) (fun _ => True) 0 0 := by
  refine q_ofW (cc := cX11_readText) (maxL := 2) (ret := (some .int)) (fun sz h => h.self) (by decide) rfl (Nat.le_of_ble_eq_true rfl) ?_
  intro p e s m args below meth c A ls S0 hr hlocks hnme hK hA hAe hW hD0 hX hl
  have hW : gW g A s.heap s.heap [] [(mo, .inr (11, [.ref az, .ref ap, .int (iI pm), .ref ak, .int (iI ik), .ref ax, .int (iI ty), .int (iI th), .ref a1, .ref a2, .int (iI (nN N)), .ref a3, .int (iI (nP N)), .ref a4, .ref a5, .ref a6, .ref v1, .ref v2, .ref v3, .ref v4, .ref v5, .ref v6, .int (iI bn), .int (iI (nWh N)), .int (iI (nD N)), .int (iI (nG N))])), (a1, gI g 41 (nK N)), (a2, gI g 41 (nU N)), (a3, gI g 90 (nQ N)), (ax, gC g 40 f)] := hW
  have hl : lv_has ls 2 [(0, .ref mo)] := hl
  have hinX11 : ∀ w ∈ wsX110, w ∈ wsX11_readText := fun w h => List.mem_cons_of_mem _ (List.mem_append_right _ h)
  refine lv_aload_n S0.1 S0.2.1 dX11_readText_0 rfl (lv_at hl 0 rfl) ?_
  refine q_iconst S0 dX11_readText_1 ?_
  refine q_put (C := RX11) (T := TX11) (N := 26) S0 hK hW hinX11 tyX11_ok nmX11 0 rfl rfl 10 (by decide) (List.mem_of_getElem? (i := 1) rfl) rfl rfl rfl rfl (Nat.le_of_ble_eq_true rfl) dX11_readText_2 (fun H locs hW => ?_)
  have hW : gW g A s.heap H _ [(mo, .inr (11, [.ref az, .ref ap, .int (iI pm), .ref ak, .int (iI ik), .ref ax, .int (iI ty), .int (iI th), .ref a1, .ref a2, .int (iI 0), .ref a3, .int (iI (nP N)), .ref a4, .ref a5, .ref a6, .ref v1, .ref v2, .ref v3, .ref v4, .ref v5, .ref v6, .int (iI bn), .int (iI (nWh N)), .int (iI (nD N)), .int (iI (nG N))])), (a1, gI g 41 (nK N)), (a2, gI g 41 (nU N)), (a3, gI g 90 (nQ N)), (ax, gC g 40 f)] := hW
  refine lv_aload_n S0.1 S0.2.1 dX11_readText_5 rfl (lv_at hl 0 rfl) ?_
  refine q_iconst S0 dX11_readText_6 ?_
  refine q_put (C := RX11) (T := TX11) (N := 26) S0 hK hW hinX11 tyX11_ok nmX11 0 rfl rfl 12 (by decide) (List.mem_of_getElem? (i := 2) rfl) rfl rfl rfl rfl (Nat.le_of_ble_eq_true rfl) dX11_readText_7 (fun H locs hW => ?_)
  have hW : gW g A s.heap H _ [(mo, .inr (11, [.ref az, .ref ap, .int (iI pm), .ref ak, .int (iI ik), .ref ax, .int (iI ty), .int (iI th), .ref a1, .ref a2, .int (iI 0), .ref a3, .int (iI 0), .ref a4, .ref a5, .ref a6, .ref v1, .ref v2, .ref v3, .ref v4, .ref v5, .ref v6, .int (iI bn), .int (iI (nWh N)), .int (iI (nD N)), .int (iI (nG N))])), (a1, gI g 41 (nK N)), (a2, gI g 41 (nU N)), (a3, gI g 90 (nQ N)), (ax, gC g 40 f)] := hW
  refine lv_aload_n S0.1 S0.2.1 dX11_readText_10 rfl (lv_at hl 0 rfl) ?_
  refine q_iconst S0 dX11_readText_11 ?_
  refine q_put (C := RX11) (T := TX11) (N := 26) S0 hK hW hinX11 tyX11_ok nmX11 0 rfl rfl 23 (by decide) (List.mem_of_getElem? (i := 3) rfl) rfl rfl rfl rfl (Nat.le_of_ble_eq_true rfl) dX11_readText_12 (fun H locs hW => ?_)
  have hW : gW g A s.heap H _ [(mo, .inr (11, [.ref az, .ref ap, .int (iI pm), .ref ak, .int (iI ik), .ref ax, .int (iI ty), .int (iI th), .ref a1, .ref a2, .int (iI 0), .ref a3, .int (iI 0), .ref a4, .ref a5, .ref a6, .ref v1, .ref v2, .ref v3, .ref v4, .ref v5, .ref v6, .int (iI bn), .int (iI 0), .int (iI (nD N)), .int (iI (nG N))])), (a1, gI g 41 (nK N)), (a2, gI g 41 (nU N)), (a3, gI g 90 (nQ N)), (ax, gC g 40 f)] := hW
  refine lv_aload_n S0.1 S0.2.1 dX11_readText_15 rfl (lv_at hl 0 rfl) ?_
  refine q_iconst S0 dX11_readText_16 ?_
  refine q_put (C := RX11) (T := TX11) (N := 26) S0 hK hW hinX11 tyX11_ok nmX11 0 rfl rfl 24 (by decide) (List.mem_of_getElem? (i := 4) rfl) rfl rfl rfl rfl (Nat.le_of_ble_eq_true rfl) dX11_readText_17 (fun H locs hW => ?_)
  have hW : gW g A s.heap H _ [(mo, .inr (11, [.ref az, .ref ap, .int (iI pm), .ref ak, .int (iI ik), .ref ax, .int (iI ty), .int (iI th), .ref a1, .ref a2, .int (iI 0), .ref a3, .int (iI 0), .ref a4, .ref a5, .ref a6, .ref v1, .ref v2, .ref v3, .ref v4, .ref v5, .ref v6, .int (iI bn), .int (iI 0), .int (iI 0), .int (iI (nG N))])), (a1, gI g 41 (nK N)), (a2, gI g 41 (nU N)), (a3, gI g 90 (nQ N)), (ax, gC g 40 f)] := hW
  refine q_iconst S0 dX11_readText_20 ?_
  refine lv_istore_n (lv' := [(1, .int (iI 0)), (0, .ref mo)]) S0.1 S0.2.1 dX11_readText_21 rfl hl (by decide) rfl (fun ls hl => ?_)
  refine q_loop (α := Int × NT) (fun (z_ : Int × NT) => match z_ with | (i, N1) => WN i N1 ∧ (0 ≤ i ∧ i ≤ ty) ∧ mRd f (ty - i).toNat i N1 = mRd f ty.toNat 0 (mR0 N)) (fun (z_ : Int × NT) => match z_ with | (i, N1) => (ty - i).toNat) (fun (z_ : Int × NT) => match z_ with | (i, N1) => [(mo, .inr (11, [.ref az, .ref ap, .int (iI pm), .ref ak, .int (iI ik), .ref ax, .int (iI ty), .int (iI th), .ref a1, .ref a2, .int (iI (nN N1)), .ref a3, .int (iI (nP N1)), .ref a4, .ref a5, .ref a6, .ref v1, .ref v2, .ref v3, .ref v4, .ref v5, .ref v6, .int (iI bn), .int (iI (nWh N1)), .int (iI (nD N1)), .int (iI (nG N1))])), (a1, gI g 41 (nK N1)), (a2, gI g 41 (nU N1)), (a3, gI g 90 (nQ N1)), (ax, gC g 40 f)]) (fun (z_ : Int × NT) => match z_ with | (i, N1) => [(1, .int (iI i)), (0, .ref mo)]) ?_ (0, mR0 N) (by refine ⟨WN_0 hZ, by omega, by rw [show (ty - 0) = ty by omega]⟩) hW (lv_sub hl [0, 1] rfl)
  rintro ⟨i, N1⟩ hinv IHl H locs ls hW hl
  try dsimp only at hinv
  have hW : gW g A s.heap H _ [(mo, .inr (11, [.ref az, .ref ap, .int (iI pm), .ref ak, .int (iI ik), .ref ax, .int (iI ty), .int (iI th), .ref a1, .ref a2, .int (iI (nN N1)), .ref a3, .int (iI (nP N1)), .ref a4, .ref a5, .ref a6, .ref v1, .ref v2, .ref v3, .ref v4, .ref v5, .ref v6, .int (iI bn), .int (iI (nWh N1)), .int (iI (nD N1)), .int (iI (nG N1))])), (a1, gI g 41 (nK N1)), (a2, gI g 41 (nU N1)), (a3, gI g 90 (nQ N1)), (ax, gC g 40 f)] := hW
  have hl : lv_has ls 2 [(1, .int (iI i)), (0, .ref mo)] := hl
  obtain ⟨hN1, hi, heq⟩ := hinv
  have hfi := hf i.toNat
  have h01 := mReads_01 N1 (f i.toNat)
  have hw1 := hN1.2.2.1
  have hd1 := hN1.2.2.2.1
  have hc9 := c9_nn (sk N1)
  have hck := c9_sk N1
  have hRa := hN1.1
  unfold RN at hRa
  refine lv_iload_n S0.1 S0.2.1 dX11_readText_22 rfl (lv_at hl 0 rfl) ?_
  refine lv_aload_n S0.1 S0.2.1 dX11_readText_23 rfl (lv_at hl 1 rfl) ?_
  refine q_get (C := RX11) (T := TX11) (N := 26) S0 hK hW.1 hinX11 0 rfl rfl 6 (by decide) (List.mem_of_getElem? (i := 5) rfl) rfl rfl dX11_readText_24 ?_
  refine q_icmp_ge (tgt := 51) S0 (by omega) dX11_readText_27 (by decide) (fun c27 => ?_) (fun c27 => ?_)
  · skip
    have heq2 : mRd f ty.toNat 0 (mR0 N) = (N1, -2) := by rw [← heq, show (ty - i).toNat = 0 by omega]; rfl
    have hRn := hN1.1
    unfold RN at hRn
    refine lv_aload_n S0.1 S0.2.1 dX11_readText_51 rfl (lv_at hl 1 rfl) ?_
    refine q_get (C := RX11) (T := TX11) (N := 26) S0 hK hW.1 hinX11 0 rfl rfl 23 (by decide) (List.mem_of_getElem? (i := 3) rfl) rfl rfl dX11_readText_52 ?_
    refine q_if_eq (tgt := 73) S0 (by omega) dX11_readText_55 (by decide) (fun c55 => ?_) (fun c55 => ?_)
    · skip
      refine lv_aload_n S0.1 S0.2.1 dX11_readText_73 rfl (lv_at hl 1 rfl) ?_
      refine q_get (C := RX11) (T := TX11) (N := 26) S0 hK hW.1 hinX11 0 rfl rfl 6 (by decide) (List.mem_of_getElem? (i := 5) rfl) rfl rfl dX11_readText_74 ?_
      have hfin : mRead N f ty = (N1, ty) := by
            unfold mRead
            rw [heq2]
            unfold mRz
            rw [if_pos rfl, if_pos (by show nWh N1 = 0 ∨ 3 < nWh N1 ∨ 0 < nD N1; omega)]
      exact q_iret S0 hr hlocks () (trivial) (by rw [hfin]) (hW.sub [0, 1, 2, 3, 4] rfl (by rw [hfin]; rfl)) (Nat.le_of_ble_eq_true rfl) (Nat.le_of_ble_eq_true rfl) dX11_readText_77
    · skip
      refine lv_aload_n S0.1 S0.2.1 dX11_readText_58 rfl (lv_at hl 1 rfl) ?_
      refine q_get (C := RX11) (T := TX11) (N := 26) S0 hK hW.1 hinX11 0 rfl rfl 23 (by decide) (List.mem_of_getElem? (i := 3) rfl) rfl rfl dX11_readText_59 ?_
      refine q_iconst S0 dX11_readText_62 ?_
      refine q_icmp_gt (tgt := 73) S0 (by omega) dX11_readText_63 (by decide) (fun c63 => ?_) (fun c63 => ?_)
      · skip
        refine lv_aload_n S0.1 S0.2.1 dX11_readText_73 rfl (lv_at hl 1 rfl) ?_
        refine q_get (C := RX11) (T := TX11) (N := 26) S0 hK hW.1 hinX11 0 rfl rfl 6 (by decide) (List.mem_of_getElem? (i := 5) rfl) rfl rfl dX11_readText_74 ?_
        have hfin : mRead N f ty = (N1, ty) := by
              unfold mRead
              rw [heq2]
              unfold mRz
              rw [if_pos rfl, if_pos (by show nWh N1 = 0 ∨ 3 < nWh N1 ∨ 0 < nD N1; omega)]
        exact q_iret S0 hr hlocks () (trivial) (by rw [hfin]) (hW.sub [0, 1, 2, 3, 4] rfl (by rw [hfin]; rfl)) (Nat.le_of_ble_eq_true rfl) (Nat.le_of_ble_eq_true rfl) dX11_readText_77
      · skip
        refine lv_aload_n S0.1 S0.2.1 dX11_readText_66 rfl (lv_at hl 1 rfl) ?_
        refine q_get (C := RX11) (T := TX11) (N := 26) S0 hK hW.1 hinX11 0 rfl rfl 24 (by decide) (List.mem_of_getElem? (i := 4) rfl) rfl rfl dX11_readText_67 ?_
        refine q_if_le (tgt := 78) S0 (by omega) dX11_readText_70 (by decide) (fun c70 => ?_) (fun c70 => ?_)
        · skip
          refine lv_aload_n S0.1 S0.2.1 dX11_readText_78 rfl (lv_at hl 1 rfl) ?_
          have hB := WB_ends hN1 (by omega)
          refine q_cV (n := 0) (rest := []) (wr := [(ax, gC g 40 f)]) S0 hK hA hW (c_X11_endsNumber l g mo az ap ak ax a1 a2 a3 a4 a5 a6 v1 v2 v3 v4 v5 v6 pm ik ty th bn N1 i (hN1.1) (fun z => (hN1.2.2.2.2.2.2.2 z).2) (WZ_q hN1.2.1) (by omega)) gX11_readText_X11_endsNumber rfl rfl rfl (by decide +kernel) ⟨Nat.le_of_ble_eq_true rfl, Nat.le_of_ble_eq_true rfl⟩ [0, 1, 2, 3] [4] rfl rfl rfl rfl (by decide) (q_recv hK hW.1 (ci := 11) (q0 := 0) rfl rfl) (fun _ _ => trivial) (trivial) rfl rfl hl.1 (Nat.le_of_ble_eq_true rfl) ⟨Nat.le_of_ble_eq_true rfl, Nat.le_of_ble_eq_true rfl⟩ dX11_readText_79 (fun _ H locs _ hW => ?_)
          have hW : gW g A s.heap H _ [(ax, gC g 40 f), (mo, .inr (11, [.ref az, .ref ap, .int (iI pm), .ref ak, .int (iI ik), .ref ax, .int (iI ty), .int (iI th), .ref a1, .ref a2, .int (iI (nN (mEnds N1))), .ref a3, .int (iI (nP (mEnds N1))), .ref a4, .ref a5, .ref a6, .ref v1, .ref v2, .ref v3, .ref v4, .ref v5, .ref v6, .int (iI bn), .int (iI (nWh (mEnds N1))), .int (iI (nD (mEnds N1))), .int (iI (nG (mEnds N1)))])), (a1, gI g 41 (nK (mEnds N1))), (a2, gI g 41 (nU (mEnds N1))), (a3, gI g 90 (nQ (mEnds N1)))] := hW
          refine W.eq (g2 := F0 m 82 ls []) rfl ?_
          refine lv_aload_n S0.1 S0.2.1 dX11_readText_82 rfl (lv_at hl 1 rfl) ?_
          refine q_iconst S0 dX11_readText_83 ?_
          refine q_cV (n := 1) (rest := []) (wr := [(ax, gC g 40 f)]) S0 hK hA hW (c_X11_binds l g mo az ap ak ax a1 a2 a3 a4 a5 a6 v1 v2 v3 v4 v5 v6 pm ik ty th bn (mEnds N1) i 1 (hB.1) (WZ_q hB.2.1) (by omega)) gX11_readText_X11_binds rfl rfl rfl (by decide +kernel) ⟨Nat.le_of_ble_eq_true rfl, Nat.le_of_ble_eq_true rfl⟩ [1, 2, 3, 4] [0] rfl rfl rfl rfl (by decide) (q_recv hK hW.1 (ci := 11) (q0 := 1) rfl rfl) (fun _ _ => trivial) (trivial) rfl rfl hl.1 (Nat.le_of_ble_eq_true rfl) ⟨Nat.le_of_ble_eq_true rfl, Nat.le_of_ble_eq_true rfl⟩ dX11_readText_84 (fun _ H locs _ hW => ?_)
          have hW : gW g A s.heap H _ [(ax, gC g 40 f), (mo, .inr (11, [.ref az, .ref ap, .int (iI pm), .ref ak, .int (iI ik), .ref ax, .int (iI ty), .int (iI th), .ref a1, .ref a2, .int (iI (nN (mBinds 1 (mEnds N1)))), .ref a3, .int (iI (nP (mBinds 1 (mEnds N1)))), .ref a4, .ref a5, .ref a6, .ref v1, .ref v2, .ref v3, .ref v4, .ref v5, .ref v6, .int (iI bn), .int (iI (nWh (mBinds 1 (mEnds N1)))), .int (iI (nD (mBinds 1 (mEnds N1)))), .int (iI (nG (mBinds 1 (mEnds N1))))])), (a1, gI g 41 (nK (mBinds 1 (mEnds N1)))), (a2, gI g 41 (nU (mBinds 1 (mEnds N1)))), (a3, gI g 90 (nQ (mBinds 1 (mEnds N1))))] := hW
          refine W.eq (g2 := F0 m 87 ls []) rfl ?_
          refine q_iconst S0 dX11_readText_87 ?_
          have hfin : mRead N f ty = (mBinds 1 (mEnds N1), -1) := by
                unfold mRead
                rw [heq2]
                unfold mRz
                rw [if_pos rfl, if_neg (by show ¬ (nWh N1 = 0 ∨ 3 < nWh N1 ∨ 0 < nD N1); omega)]
          exact q_iret S0 hr hlocks () (trivial) (by rw [hfin]) (hW.sub [1, 2, 3, 4, 0] rfl (by rw [hfin]; rfl)) (Nat.le_of_ble_eq_true rfl) (Nat.le_of_ble_eq_true rfl) dX11_readText_88
        · skip
          refine lv_aload_n S0.1 S0.2.1 dX11_readText_73 rfl (lv_at hl 1 rfl) ?_
          refine q_get (C := RX11) (T := TX11) (N := 26) S0 hK hW.1 hinX11 0 rfl rfl 6 (by decide) (List.mem_of_getElem? (i := 5) rfl) rfl rfl dX11_readText_74 ?_
          have hfin : mRead N f ty = (N1, ty) := by
                unfold mRead
                rw [heq2]
                unfold mRz
                rw [if_pos rfl, if_pos (by show nWh N1 = 0 ∨ 3 < nWh N1 ∨ 0 < nD N1; omega)]
          exact q_iret S0 hr hlocks () (trivial) (by rw [hfin]) (hW.sub [0, 1, 2, 3, 4] rfl (by rw [hfin]; rfl)) (Nat.le_of_ble_eq_true rfl) (Nat.le_of_ble_eq_true rfl) dX11_readText_77
  · skip
    refine lv_aload_n S0.1 S0.2.1 dX11_readText_30 rfl (lv_at hl 1 rfl) ?_
    refine lv_aload_n S0.1 S0.2.1 dX11_readText_31 rfl (lv_at hl 1 rfl) ?_
    refine q_get (C := RX11) (T := TX11) (N := 26) S0 hK hW.1 hinX11 0 rfl rfl 5 (by decide) (List.mem_of_getElem? (i := 6) rfl) rfl rfl dX11_readText_32 ?_
    refine lv_iload_n S0.1 S0.2.1 dX11_readText_35 rfl (lv_at hl 0 rfl) ?_
    refine q_cald S0 hK hW.1 4 rfl (by omega) dX11_readText_36 ?_
    refine q_cV (n := 1) (rest := []) (wr := [(ax, gC g 40 f)]) S0 hK hA hW (c_X11_reads l g mo az ap ak ax a1 a2 a3 a4 a5 a6 v1 v2 v3 v4 v5 v6 pm ik ty th bn N1 i (f (i).toNat) (hN1) (by omega) (by omega)) gX11_readText_X11_reads rfl rfl rfl (by decide +kernel) ⟨Nat.le_of_ble_eq_true rfl, Nat.le_of_ble_eq_true rfl⟩ [0, 1, 2, 3] [4] rfl rfl rfl rfl (by decide) (q_recv hK hW.1 (ci := 11) (q0 := 0) rfl rfl) (fun _ _ => trivial) (trivial) rfl rfl hl.1 (Nat.le_of_ble_eq_true rfl) ⟨Nat.le_of_ble_eq_true rfl, Nat.le_of_ble_eq_true rfl⟩ dX11_readText_37 (fun _ H locs _ hW => ?_)
    have hW : gW g A s.heap H _ [(ax, gC g 40 f), (mo, .inr (11, [.ref az, .ref ap, .int (iI pm), .ref ak, .int (iI ik), .ref ax, .int (iI ty), .int (iI th), .ref a1, .ref a2, .int (iI (nN ((mReads N1 (f (i).toNat)).1))), .ref a3, .int (iI (nP ((mReads N1 (f (i).toNat)).1))), .ref a4, .ref a5, .ref a6, .ref v1, .ref v2, .ref v3, .ref v4, .ref v5, .ref v6, .int (iI bn), .int (iI (nWh ((mReads N1 (f (i).toNat)).1))), .int (iI (nD ((mReads N1 (f (i).toNat)).1))), .int (iI (nG ((mReads N1 (f (i).toNat)).1)))])), (a1, gI g 41 (nK ((mReads N1 (f (i).toNat)).1))), (a2, gI g 41 (nU ((mReads N1 (f (i).toNat)).1))), (a3, gI g 90 (nQ ((mReads N1 (f (i).toNat)).1)))] := hW
    refine W.eq (g2 := F0 m 40 ls [.int (iI ((mReads N1 (f (i).toNat)).2))]) rfl ?_
    refine q_if_ne (tgt := 45) S0 (by omega) dX11_readText_40 (by decide) (fun c40 => ?_) (fun c40 => ?_)
    · skip
      refine q_iinc (lv' := [(1, .int (iI (i + 1))), (0, .ref mo)]) S0 dX11_readText_45 hl (k := 0) rfl (by decide) rfl (fun ls hl => ?_)
      refine lv_goto (tgt := 22) S0.1 S0.2.1 dX11_readText_48 (by decide) ?_
      exact IHl (i + 1, (mReads N1 (f i.toNat)).1) H locs ls (by refine ⟨(WN_reads hN1 (by omega) (by omega)).2 c40, by omega, ?_⟩; rw [← heq, show (ty - i).toNat = (ty - (i + 1)).toNat + 1 by omega, mRd_step c40]) (by (try dsimp only); omega) (hW.sub [1, 2, 3, 4, 0] rfl rfl) (lv_sub hl [0, 1] rfl)
    · skip
      refine lv_iload_n S0.1 S0.2.1 dX11_readText_43 rfl (lv_at hl 0 rfl) ?_
      have hfin : mRead N f ty = ((mReads N1 (f i.toNat)).1, i) := by
            unfold mRead
            rw [← heq, show (ty - i).toNat = (ty - (i + 1)).toNat + 1 by omega, mRd_stop c40]
            unfold mRz
            rw [if_neg (by show ¬ i = -2; omega)]
      exact q_iret S0 hr hlocks () (trivial) (by rw [hfin]) (hW.sub [1, 2, 3, 4, 0] rfl (by rw [hfin]; rfl)) (Nat.le_of_ble_eq_true rfl) (Nat.le_of_ble_eq_true rfl) dX11_readText_44
