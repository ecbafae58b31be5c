/-- the steps to a root as the reference goes them: the place and how many -/
def stq (V N : Int → Int) : Nat → Int → Int → Int × Int
  | 0, a, n => (a, n)
  | k + 1, a, n => if a = -1 then (a, n) else if V a = 0 then (a, n) else stq V N k (N a) (n + 1)
theorem stq_go {V N : Int → Int} {a n : Int} {k : Nat} (h : ¬ a = -1) (h2 : ¬ V a = 0) : stq V N (k + 1) a n = stq V N k (N a) (n + 1) := by
  show (if a = -1 then _ else if V a = 0 then _ else _) = _
  rw [if_neg h, if_neg h2]
theorem stq_end {V N : Int → Int} {a n : Int} {k : Nat} (h : a = -1 ∨ V a = 0) : stq V N k a n = (a, n) := by
  cases k with
  | zero => rfl
  | succ k =>
    show (if a = -1 then _ else if V a = 0 then _ else _) = _
    by_cases z : a = -1
    · rw [if_pos z]
    · rw [if_neg z, if_pos (h.resolve_left z)]
def stR (F : FT) (u x : Int) : Int := if (stq (vv (fP F) (fE F) u.toNat) (nxF F u) 200 x 0).1 = -1 then -1 else if (stq (vv (fP F) (fE F) u.toNat) (nxF F u) 200 x 0).2 ≤ 199 then (stq (vv (fP F) (fE F) u.toNat) (nxF F u) 200 x 0).2 else -1

set_option maxHeartbeats 4000000 in
set_option maxRecDepth 100000 in
theorem c_X11_asksAt1 (l : Launch) (g : GG) (mo az ap ak ax a1 a2 a3 a4 a5 a6 v1 v2 v3 v4 v5 v6 : Nat) (pm ik ty th mn wt bn wh dp dg : Int) (Z : Nat → Int) (F : FT) (u x : Int) (hG : GF F) (hz : ZR Z F) (hu : (u < 0 ∨ 3 < u) ∧ -2147483648 ≤ u ∧ u < 2147483648) (hx : -2147483648 ≤ x ∧ x < 2147483648) : qMet l yX11_asksAt wsX11_asksAt ({ frames := 2, cells := 0, slots := 0, locals := 42 }) g [.ref mo, .int (iI u), .int (iI x)] [(mo, .inr (11, [.ref az, .ref ap, .int (iI pm), .ref ak, .int (iI ik), .ref ax, .int (iI ty), .int (iI th), .ref a1, .ref a2, .int (iI mn), .ref a3, .int (iI wt), .ref a4, .ref a5, .ref a6, .ref v1, .ref v2, .ref v3, .ref v4, .ref v5, .ref v6, .int (iI bn), .int (iI wh), .int (iI dp), .int (iI dg)])), (az, gI g 325 Z)] (fun _ => True) (fun _ => True) (S := Unit) (fun _ => some (.int (iI 0))) (fun _ => [(mo, .inr (11, [.ref az, .ref ap, .int (iI pm), .ref ak, .int (iI ik), .ref ax, .int (iI ty), .int (iI 1), .ref a1, .ref a2, .int (iI mn), .ref a3, .int (iI wt), .ref a4, .ref a5, .ref a6, .ref v1, .ref v2, .ref v3, .ref v4, .ref v5, .ref v6, .int (iI bn), .int (iI wh), .int (iI dp), .int (iI dg)])), (az, gI g 325 Z)]) (fun _ => True) 0 0 := by
  refine q_ofW (cc := cX11_asksAt) (maxL := 4) (ret := (some .boolean)) (fun sz h => h.self) (by decide) rfl (Nat.le_of_ble_eq_true rfl) ?_
  intro p e s m args below meth c A ls S0 hr hlocks hnme hK hA hAe hW hD0 hX hl
  have hW : gW g A s.heap s.heap [] [(mo, .inr (11, [.ref az, .ref ap, .int (iI pm), .ref ak, .int (iI ik), .ref ax, .int (iI ty), .int (iI th), .ref a1, .ref a2, .int (iI mn), .ref a3, .int (iI wt), .ref a4, .ref a5, .ref a6, .ref v1, .ref v2, .ref v3, .ref v4, .ref v5, .ref v6, .int (iI bn), .int (iI wh), .int (iI dp), .int (iI dg)])), (az, gI g 325 Z)] := hW
  have hl : lv_has ls 4 [(0, .ref mo), (1, .int (iI u)), (2, .int (iI x))] := hl
  have hinX11 : ∀ w ∈ wsX110, w ∈ wsX11_asksAt := fun w h => List.mem_cons_of_mem _ (List.mem_append_right _ h)
  have hpr := GF_p hG
  refine lv_aload_n S0.1 S0.2.1 dX11_asksAt_0 rfl (lv_at hl 0 rfl) ?_
  refine lv_iload_n S0.1 S0.2.1 dX11_asksAt_1 rfl (lv_at hl 1 rfl) ?_
  refine q_pS (n := 1) (rest := [.ref mo]) S0 hK (c_X11_isFunction l g u (by omega)) (subP hW.1 [] rfl) (trivial) gX11_asksAt_X11_isFunction rfl rfl rfl (by decide +kernel) ⟨Nat.le_of_ble_eq_true rfl, Nat.le_of_ble_eq_true rfl⟩ rfl rfl hl.1 (Nat.le_of_ble_eq_true rfl) ⟨Nat.le_of_ble_eq_true rfl, Nat.le_of_ble_eq_true rfl⟩ dX11_asksAt_2 ?_
  refine W.eq (g2 := F0 m 5 ls [.int (iI (if 0 ≤ u ∧ u ≤ 3 then (1 : Int) else 0)), .ref mo]) rfl ?_
  refine q_cV (n := 1) (rest := []) (wr := [(az, gI g 325 Z)]) S0 hK hA hW (c_X11_asksN l g mo az ap ak ax a1 a2 a3 a4 a5 a6 v1 v2 v3 v4 v5 v6 pm ik ty th mn wt bn wh dp dg (0 ≤ u ∧ u ≤ 3) (by omega)) gX11_asksAt_X11_asks rfl rfl rfl (by decide +kernel) ⟨Nat.le_of_ble_eq_true rfl, Nat.le_of_ble_eq_true rfl⟩ [0] [1] rfl rfl rfl rfl (by decide) (q_recv hK hW.1 (ci := 11) (q0 := 0) rfl rfl) (fun _ _ => trivial) (trivial) rfl rfl hl.1 (Nat.le_of_ble_eq_true rfl) ⟨Nat.le_of_ble_eq_true rfl, Nat.le_of_ble_eq_true rfl⟩ dX11_asksAt_5 (fun _ H locs _ hW => ?_)
  have hW : gW g A s.heap H _ [(az, gI g 325 Z), (mo, .inr (11, [.ref az, .ref ap, .int (iI pm), .ref ak, .int (iI ik), .ref ax, .int (iI ty), .int (iI 1), .ref a1, .ref a2, .int (iI mn), .ref a3, .int (iI wt), .ref a4, .ref a5, .ref a6, .ref v1, .ref v2, .ref v3, .ref v4, .ref v5, .ref v6, .int (iI bn), .int (iI wh), .int (iI dp), .int (iI dg)]))] := hW
  refine W.eq (g2 := F0 m 8 ls [.int (iI 0)]) rfl ?_
  refine lv_pop S0.1 S0.2.1 dX11_asksAt_8 rfl ?_
  refine lv_aload_n S0.1 S0.2.1 dX11_asksAt_9 rfl (lv_at hl 0 rfl) ?_
  refine lv_iload_n S0.1 S0.2.1 dX11_asksAt_10 rfl (lv_at hl 2 rfl) ?_
  refine q_iconst S0 dX11_asksAt_11 ?_
  refine lv_aload_n S0.1 S0.2.1 dX11_asksAt_12 rfl (lv_at hl 0 rfl) ?_
  refine q_get (C := RX11) (T := TX11) (N := 26) S0 hK hW.1 hinX11 1 rfl rfl 0 (by decide) (List.mem_of_getElem? (i := 1) rfl) rfl rfl dX11_asksAt_13 ?_
  refine q_iconst S0 dX11_asksAt_16 ?_
  refine q_iald S0 hK hW.1 0 rfl (by omega) dX11_asksAt_17 ?_
  refine W.eq (g2 := F0 m 18 ls [.int (iI (Z 0)), .int (iI 0), .int (iI x), .ref mo]) rfl ?_
  refine q_topI (b := fP F) (hz.1) ?_
  refine q_iconst S0 dX11_asksAt_18 ?_
  refine q_isub S0 dX11_asksAt_19 ?_
  refine q_pS (n := 3) (rest := [.ref mo]) S0 hK (c_X11_in l g x 0 ((fP F) - 1) (by omega) (by omega) (by omega)) (subP hW.1 [] rfl) (trivial) gX11_asksAt_X11_in rfl rfl rfl (by decide +kernel) ⟨Nat.le_of_ble_eq_true rfl, Nat.le_of_ble_eq_true rfl⟩ rfl rfl hl.1 (Nat.le_of_ble_eq_true rfl) ⟨Nat.le_of_ble_eq_true rfl, Nat.le_of_ble_eq_true rfl⟩ dX11_asksAt_20 ?_
  refine W.eq (g2 := F0 m 23 ls [.int (iI (if 0 ≤ x ∧ x ≤ ((fP F) - 1) then (1 : Int) else 0)), .ref mo]) rfl ?_
  refine q_iconst S0 dX11_asksAt_23 ?_
  refine q_cV (n := 2) (rest := []) (wr := [(az, gI g 325 Z)]) S0 hK hA hW (c_X11_asksThen1 l g mo az ap ak ax a1 a2 a3 a4 a5 a6 v1 v2 v3 v4 v5 v6 pm ik ty 1 mn wt bn wh dp dg (0 ≤ x ∧ x ≤ ((fP F) - 1)) 2 (by omega)) gX11_asksAt_X11_asksThen rfl rfl rfl (by decide +kernel) ⟨Nat.le_of_ble_eq_true rfl, Nat.le_of_ble_eq_true rfl⟩ [1] [0] rfl rfl rfl rfl (by decide) (q_recv hK hW.1 (ci := 11) (q0 := 1) rfl rfl) (fun _ _ => trivial) (trivial) rfl rfl hl.1 (Nat.le_of_ble_eq_true rfl) ⟨Nat.le_of_ble_eq_true rfl, Nat.le_of_ble_eq_true rfl⟩ dX11_asksAt_24 (fun _ H locs _ hW => ?_)
  have hW : gW g A s.heap H _ [(az, gI g 325 Z), (mo, .inr (11, [.ref az, .ref ap, .int (iI pm), .ref ak, .int (iI ik), .ref ax, .int (iI ty), .int (iI 1), .ref a1, .ref a2, .int (iI mn), .ref a3, .int (iI wt), .ref a4, .ref a5, .ref a6, .ref v1, .ref v2, .ref v3, .ref v4, .ref v5, .ref v6, .int (iI bn), .int (iI wh), .int (iI dp), .int (iI dg)]))] := hW
  refine W.eq (g2 := F0 m 27 ls [.int (iI 0)]) rfl ?_
  refine lv_istore_n (lv' := [(3, .int (iI 0)), (0, .ref mo), (1, .int (iI u)), (2, .int (iI x))]) S0.1 S0.2.1 dX11_asksAt_27 rfl hl (by decide) rfl (fun ls hl => ?_)
  refine lv_iload_n S0.1 S0.2.1 dX11_asksAt_28 rfl (lv_at hl 0 rfl) ?_
  refine q_if_eq (tgt := 37) S0 (by omega) dX11_asksAt_29 (by decide) (fun c29 => ?_) (fun c29 => ?_)
  · skip
    refine lv_iload_n S0.1 S0.2.1 dX11_asksAt_37 rfl (lv_at hl 0 rfl) ?_
    exact q_zret S0 hr hlocks () (trivial) (Or.inl rfl) (rfl) (hW.sub [1, 0] rfl (rfl)) (Nat.le_of_ble_eq_true rfl) (Nat.le_of_ble_eq_true rfl) dX11_asksAt_38
  · skip
    exact absurd c29 (by omega)
set_option maxHeartbeats 4000000 in
set_option maxRecDepth 100000 in
theorem c_X11_asksAt2 (l : Launch) (g : GG) (mo az ap ak ax a1 a2 a3 a4 a5 a6 v1 v2 v3 v4 v5 v6 : Nat) (pm ik ty th mn wt bn wh dp dg : Int) (Z : Nat → Int) (F : FT) (u x : Int) (hG : GF F) (hz : ZR Z F) (hu : 0 ≤ u ∧ u < 4) (hx : (x < 0 ∨ fP F ≤ x) ∧ -2147483648 ≤ x ∧ x < 2147483648) : qMet l yX11_asksAt wsX11_asksAt ({ frames := 2, cells := 0, slots := 0, locals := 42 }) g [.ref mo, .int (iI u), .int (iI x)] [(mo, .inr (11, [.ref az, .ref ap, .int (iI pm), .ref ak, .int (iI ik), .ref ax, .int (iI ty), .int (iI th), .ref a1, .ref a2, .int (iI mn), .ref a3, .int (iI wt), .ref a4, .ref a5, .ref a6, .ref v1, .ref v2, .ref v3, .ref v4, .ref v5, .ref v6, .int (iI bn), .int (iI wh), .int (iI dp), .int (iI dg)])), (az, gI g 325 Z)] (fun _ => True) (fun _ => True) (S := Unit) (fun _ => some (.int (iI 0))) (fun _ => [(mo, .inr (11, [.ref az, .ref ap, .int (iI pm), .ref ak, .int (iI ik), .ref ax, .int (iI ty), .int (iI 2), .ref a1, .ref a2, .int (iI mn), .ref a3, .int (iI wt), .ref a4, .ref a5, .ref a6, .ref v1, .ref v2, .ref v3, .ref v4, .ref v5, .ref v6, .int (iI bn), .int (iI wh), .int (iI dp), .int (iI dg)])), (az, gI g 325 Z)]) (fun _ => True) 0 0 := by
  refine q_ofW (cc := cX11_asksAt) (maxL := 4) (ret := (some .boolean)) (fun sz h => h.self) (by decide) rfl (Nat.le_of_ble_eq_true rfl) ?_
  intro p e s m args below meth c A ls S0 hr hlocks hnme hK hA hAe hW hD0 hX hl
  have hW : gW g A s.heap s.heap [] [(mo, .inr (11, [.ref az, .ref ap, .int (iI pm), .ref ak, .int (iI ik), .ref ax, .int (iI ty), .int (iI th), .ref a1, .ref a2, .int (iI mn), .ref a3, .int (iI wt), .ref a4, .ref a5, .ref a6, .ref v1, .ref v2, .ref v3, .ref v4, .ref v5, .ref v6, .int (iI bn), .int (iI wh), .int (iI dp), .int (iI dg)])), (az, gI g 325 Z)] := hW
  have hl : lv_has ls 4 [(0, .ref mo), (1, .int (iI u)), (2, .int (iI x))] := hl
  have hinX11 : ∀ w ∈ wsX110, w ∈ wsX11_asksAt := fun w h => List.mem_cons_of_mem _ (List.mem_append_right _ h)
  have hpr := GF_p hG
  refine lv_aload_n S0.1 S0.2.1 dX11_asksAt_0 rfl (lv_at hl 0 rfl) ?_
  refine lv_iload_n S0.1 S0.2.1 dX11_asksAt_1 rfl (lv_at hl 1 rfl) ?_
  refine q_pS (n := 1) (rest := [.ref mo]) S0 hK (c_X11_isFunction l g u (by omega)) (subP hW.1 [] rfl) (trivial) gX11_asksAt_X11_isFunction rfl rfl rfl (by decide +kernel) ⟨Nat.le_of_ble_eq_true rfl, Nat.le_of_ble_eq_true rfl⟩ rfl rfl hl.1 (Nat.le_of_ble_eq_true rfl) ⟨Nat.le_of_ble_eq_true rfl, Nat.le_of_ble_eq_true rfl⟩ dX11_asksAt_2 ?_
  refine W.eq (g2 := F0 m 5 ls [.int (iI (if 0 ≤ u ∧ u ≤ 3 then (1 : Int) else 0)), .ref mo]) rfl ?_
  refine q_cV (n := 1) (rest := []) (wr := [(az, gI g 325 Z)]) S0 hK hA hW (c_X11_asksP l g mo az ap ak ax a1 a2 a3 a4 a5 a6 v1 v2 v3 v4 v5 v6 pm ik ty th mn wt bn wh dp dg (0 ≤ u ∧ u ≤ 3) (by omega)) gX11_asksAt_X11_asks rfl rfl rfl (by decide +kernel) ⟨Nat.le_of_ble_eq_true rfl, Nat.le_of_ble_eq_true rfl⟩ [0] [1] rfl rfl rfl rfl (by decide) (q_recv hK hW.1 (ci := 11) (q0 := 0) rfl rfl) (fun _ _ => trivial) (trivial) rfl rfl hl.1 (Nat.le_of_ble_eq_true rfl) ⟨Nat.le_of_ble_eq_true rfl, Nat.le_of_ble_eq_true rfl⟩ dX11_asksAt_5 (fun _ H locs _ hW => ?_)
  have hW : gW g A s.heap H _ [(az, gI g 325 Z), (mo, .inr (11, [.ref az, .ref ap, .int (iI pm), .ref ak, .int (iI ik), .ref ax, .int (iI ty), .int (iI 0), .ref a1, .ref a2, .int (iI mn), .ref a3, .int (iI wt), .ref a4, .ref a5, .ref a6, .ref v1, .ref v2, .ref v3, .ref v4, .ref v5, .ref v6, .int (iI bn), .int (iI wh), .int (iI dp), .int (iI dg)]))] := hW
  refine W.eq (g2 := F0 m 8 ls [.int (iI 1)]) rfl ?_
  refine lv_pop S0.1 S0.2.1 dX11_asksAt_8 rfl ?_
  refine lv_aload_n S0.1 S0.2.1 dX11_asksAt_9 rfl (lv_at hl 0 rfl) ?_
  refine lv_iload_n S0.1 S0.2.1 dX11_asksAt_10 rfl (lv_at hl 2 rfl) ?_
  refine q_iconst S0 dX11_asksAt_11 ?_
  refine lv_aload_n S0.1 S0.2.1 dX11_asksAt_12 rfl (lv_at hl 0 rfl) ?_
  refine q_get (C := RX11) (T := TX11) (N := 26) S0 hK hW.1 hinX11 1 rfl rfl 0 (by decide) (List.mem_of_getElem? (i := 1) rfl) rfl rfl dX11_asksAt_13 ?_
  refine q_iconst S0 dX11_asksAt_16 ?_
  refine q_iald S0 hK hW.1 0 rfl (by omega) dX11_asksAt_17 ?_
  refine W.eq (g2 := F0 m 18 ls [.int (iI (Z 0)), .int (iI 0), .int (iI x), .ref mo]) rfl ?_
  refine q_topI (b := fP F) (hz.1) ?_
  refine q_iconst S0 dX11_asksAt_18 ?_
  refine q_isub S0 dX11_asksAt_19 ?_
  refine q_pS (n := 3) (rest := [.ref mo]) S0 hK (c_X11_in l g x 0 ((fP F) - 1) (by omega) (by omega) (by omega)) (subP hW.1 [] rfl) (trivial) gX11_asksAt_X11_in rfl rfl rfl (by decide +kernel) ⟨Nat.le_of_ble_eq_true rfl, Nat.le_of_ble_eq_true rfl⟩ rfl rfl hl.1 (Nat.le_of_ble_eq_true rfl) ⟨Nat.le_of_ble_eq_true rfl, Nat.le_of_ble_eq_true rfl⟩ dX11_asksAt_20 ?_
  refine W.eq (g2 := F0 m 23 ls [.int (iI (if 0 ≤ x ∧ x ≤ ((fP F) - 1) then (1 : Int) else 0)), .ref mo]) rfl ?_
  refine q_iconst S0 dX11_asksAt_23 ?_
  refine q_cV (n := 2) (rest := []) (wr := [(az, gI g 325 Z)]) S0 hK hA hW (c_X11_asksThen2 l g mo az ap ak ax a1 a2 a3 a4 a5 a6 v1 v2 v3 v4 v5 v6 pm ik ty 0 mn wt bn wh dp dg (0 ≤ x ∧ x ≤ ((fP F) - 1)) 2 (rfl) (by omega) (by omega)) gX11_asksAt_X11_asksThen rfl rfl rfl (by decide +kernel) ⟨Nat.le_of_ble_eq_true rfl, Nat.le_of_ble_eq_true rfl⟩ [1] [0] rfl rfl rfl rfl (by decide) (q_recv hK hW.1 (ci := 11) (q0 := 1) rfl rfl) (fun _ _ => trivial) (trivial) rfl rfl hl.1 (Nat.le_of_ble_eq_true rfl) ⟨Nat.le_of_ble_eq_true rfl, Nat.le_of_ble_eq_true rfl⟩ dX11_asksAt_24 (fun _ H locs _ hW => ?_)
  have hW : gW g A s.heap H _ [(az, gI g 325 Z), (mo, .inr (11, [.ref az, .ref ap, .int (iI pm), .ref ak, .int (iI ik), .ref ax, .int (iI ty), .int (iI 2), .ref a1, .ref a2, .int (iI mn), .ref a3, .int (iI wt), .ref a4, .ref a5, .ref a6, .ref v1, .ref v2, .ref v3, .ref v4, .ref v5, .ref v6, .int (iI bn), .int (iI wh), .int (iI dp), .int (iI dg)]))] := hW
  refine W.eq (g2 := F0 m 27 ls [.int (iI 0)]) rfl ?_
  refine lv_istore_n (lv' := [(3, .int (iI 0)), (0, .ref mo), (1, .int (iI u)), (2, .int (iI x))]) S0.1 S0.2.1 dX11_asksAt_27 rfl hl (by decide) rfl (fun ls hl => ?_)
  refine lv_iload_n S0.1 S0.2.1 dX11_asksAt_28 rfl (lv_at hl 0 rfl) ?_
  refine q_if_eq (tgt := 37) S0 (by omega) dX11_asksAt_29 (by decide) (fun c29 => ?_) (fun c29 => ?_)
  · skip
    refine lv_iload_n S0.1 S0.2.1 dX11_asksAt_37 rfl (lv_at hl 0 rfl) ?_
    exact q_zret S0 hr hlocks () (trivial) (Or.inl rfl) (rfl) (hW.sub [1, 0] rfl (rfl)) (Nat.le_of_ble_eq_true rfl) (Nat.le_of_ble_eq_true rfl) dX11_asksAt_38
  · skip
    exact absurd c29 (by omega)
set_option maxHeartbeats 4000000 in
set_option maxRecDepth 100000 in
theorem c_X11_asksAt0 (l : Launch) (g : GG) (mo az ap ak ax a1 a2 a3 a4 a5 a6 v1 v2 v3 v4 v5 v6 : Nat) (pm ik ty th mn wt bn wh dp dg : Int) (Z : Nat → Int) (F : FT) (K : KT) (u x : Int) (hG : GF F) (hz : ZR Z F) (hlk : LKG F) (hu : 0 ≤ u ∧ u < 4) (hx : 0 ≤ x ∧ x < fP F) : qMet l yX11_asksAt wsX11_asksAt ({ frames := 5, cells := 0, slots := 0, locals := 123 }) g [.ref mo, .int (iI u), .int (iI x)] [(mo, .inr (11, [.ref az, .ref ap, .int (iI pm), .ref ak, .int (iI ik), .ref ax, .int (iI ty), .int (iI th), .ref a1, .ref a2, .int (iI mn), .ref a3, .int (iI wt), .ref a4, .ref a5, .ref a6, .ref v1, .ref v2, .ref v3, .ref v4, .ref v5, .ref v6, .int (iI bn), .int (iI wh), .int (iI dp), .int (iI dg)])), (az, gI g 325 Z), (a4, gI g 796 (kV K)), (a5, gI g 796 (kH K)), (a6, gI g 796 (kR K)), (v1, gI g 41 (kW K)), (v2, gI g 41 (kS K)), (v3, gI g 41 (kL K)), (v4, gI g 41 (kE K)), (v5, gI g 41 (kX K)), (v6, gI g 41 (kT K))] (fun _ => True) (fun _ => True) (S := KT × Int) (fun u_ => some (.int (iI 1))) (fun u_ => [(mo, .inr (11, [.ref az, .ref ap, .int (iI pm), .ref ak, .int (iI ik), .ref ax, .int (iI ty), .int (iI 0), .ref a1, .ref a2, .int (iI mn), .ref a3, .int (iI wt), .ref a4, .ref a5, .ref a6, .ref v1, .ref v2, .ref v3, .ref v4, .ref v5, .ref v6, .int (iI u_.2), .int (iI wh), .int (iI dp), .int (iI dg)])), (az, gI g 325 Z), (a4, gI g 796 (kV u_.1)), (a5, gI g 796 (kH u_.1)), (a6, gI g 796 (kR u_.1)), (v1, gI g 41 (kW u_.1)), (v2, gI g 41 (kS u_.1)), (v3, gI g 41 (kL u_.1)), (v4, gI g 41 (kE u_.1)), (v5, gI g 41 (kX u_.1)), (v6, gI g 41 (kT u_.1))]) (fun u_ => TB F (u + 1) (kV u_.1) (kH u_.1) (kR u_.1)) 0 0 := by
  refine q_ofW (cc := cX11_asksAt) (maxL := 4) (ret := (some .boolean)) (fun sz h => h.self) (by decide) rfl (Nat.le_of_ble_eq_true rfl) ?_
  intro p e s m args below meth c A ls S0 hr hlocks hnme hK hA hAe hW hD0 hX hl
  have hW : gW g A s.heap s.heap [] [(mo, .inr (11, [.ref az, .ref ap, .int (iI pm), .ref ak, .int (iI ik), .ref ax, .int (iI ty), .int (iI th), .ref a1, .ref a2, .int (iI mn), .ref a3, .int (iI wt), .ref a4, .ref a5, .ref a6, .ref v1, .ref v2, .ref v3, .ref v4, .ref v5, .ref v6, .int (iI bn), .int (iI wh), .int (iI dp), .int (iI dg)])), (az, gI g 325 Z), (a4, gI g 796 (kV K)), (a5, gI g 796 (kH K)), (a6, gI g 796 (kR K)), (v1, gI g 41 (kW K)), (v2, gI g 41 (kS K)), (v3, gI g 41 (kL K)), (v4, gI g 41 (kE K)), (v5, gI g 41 (kX K)), (v6, gI g 41 (kT K))] := hW
  have hl : lv_has ls 4 [(0, .ref mo), (1, .int (iI u)), (2, .int (iI x))] := hl
  have hinX11 : ∀ w ∈ wsX110, w ∈ wsX11_asksAt := fun w h => List.mem_cons_of_mem _ (List.mem_append_right _ h)
  have hpr := GF_p hG
  refine lv_aload_n S0.1 S0.2.1 dX11_asksAt_0 rfl (lv_at hl 0 rfl) ?_
  refine lv_iload_n S0.1 S0.2.1 dX11_asksAt_1 rfl (lv_at hl 1 rfl) ?_
  refine q_pS (n := 1) (rest := [.ref mo]) S0 hK (c_X11_isFunction l g u (by omega)) (subP hW.1 [] rfl) (trivial) gX11_asksAt_X11_isFunction rfl rfl rfl (by decide +kernel) ⟨Nat.le_of_ble_eq_true rfl, Nat.le_of_ble_eq_true rfl⟩ rfl rfl hl.1 (Nat.le_of_ble_eq_true rfl) ⟨Nat.le_of_ble_eq_true rfl, Nat.le_of_ble_eq_true rfl⟩ dX11_asksAt_2 ?_
  refine W.eq (g2 := F0 m 5 ls [.int (iI (if 0 ≤ u ∧ u ≤ 3 then (1 : Int) else 0)), .ref mo]) rfl ?_
  refine q_cV (n := 1) (rest := []) (wr := [(az, gI g 325 Z), (a4, gI g 796 (kV K)), (a5, gI g 796 (kH K)), (a6, gI g 796 (kR K)), (v1, gI g 41 (kW K)), (v2, gI g 41 (kS K)), (v3, gI g 41 (kL K)), (v4, gI g 41 (kE K)), (v5, gI g 41 (kX K)), (v6, gI g 41 (kT K))]) S0 hK hA hW (c_X11_asksP l g mo az ap ak ax a1 a2 a3 a4 a5 a6 v1 v2 v3 v4 v5 v6 pm ik ty th mn wt bn wh dp dg (0 ≤ u ∧ u ≤ 3) (by omega)) gX11_asksAt_X11_asks rfl rfl rfl (by decide +kernel) ⟨Nat.le_of_ble_eq_true rfl, Nat.le_of_ble_eq_true rfl⟩ [0] [1, 2, 3, 4, 5, 6, 7, 8, 9, 10] rfl rfl rfl rfl (by decide) (q_recv hK hW.1 (ci := 11) (q0 := 0) rfl rfl) (fun _ _ => trivial) (trivial) rfl rfl hl.1 (Nat.le_of_ble_eq_true rfl) ⟨Nat.le_of_ble_eq_true rfl, Nat.le_of_ble_eq_true rfl⟩ dX11_asksAt_5 (fun _ H locs _ hW => ?_)
  have hW : gW g A s.heap H _ [(az, gI g 325 Z), (a4, gI g 796 (kV K)), (a5, gI g 796 (kH K)), (a6, gI g 796 (kR K)), (v1, gI g 41 (kW K)), (v2, gI g 41 (kS K)), (v3, gI g 41 (kL K)), (v4, gI g 41 (kE K)), (v5, gI g 41 (kX K)), (v6, gI g 41 (kT K)), (mo, .inr (11, [.ref az, .ref ap, .int (iI pm), .ref ak, .int (iI ik), .ref ax, .int (iI ty), .int (iI 0), .ref a1, .ref a2, .int (iI mn), .ref a3, .int (iI wt), .ref a4, .ref a5, .ref a6, .ref v1, .ref v2, .ref v3, .ref v4, .ref v5, .ref v6, .int (iI bn), .int (iI wh), .int (iI dp), .int (iI dg)]))] := hW
  refine W.eq (g2 := F0 m 8 ls [.int (iI 1)]) rfl ?_
  refine lv_pop S0.1 S0.2.1 dX11_asksAt_8 rfl ?_
  refine lv_aload_n S0.1 S0.2.1 dX11_asksAt_9 rfl (lv_at hl 0 rfl) ?_
  refine lv_iload_n S0.1 S0.2.1 dX11_asksAt_10 rfl (lv_at hl 2 rfl) ?_
  refine q_iconst S0 dX11_asksAt_11 ?_
  refine lv_aload_n S0.1 S0.2.1 dX11_asksAt_12 rfl (lv_at hl 0 rfl) ?_
  refine q_get (C := RX11) (T := TX11) (N := 26) S0 hK hW.1 hinX11 10 rfl rfl 0 (by decide) (List.mem_of_getElem? (i := 1) rfl) rfl rfl dX11_asksAt_13 ?_
  refine q_iconst S0 dX11_asksAt_16 ?_
  refine q_iald S0 hK hW.1 0 rfl (by omega) dX11_asksAt_17 ?_
  refine W.eq (g2 := F0 m 18 ls [.int (iI (Z 0)), .int (iI 0), .int (iI x), .ref mo]) rfl ?_
  refine q_topI (b := fP F) (hz.1) ?_
  refine q_iconst S0 dX11_asksAt_18 ?_
  refine q_isub S0 dX11_asksAt_19 ?_
  refine q_pS (n := 3) (rest := [.ref mo]) S0 hK (c_X11_in l g x 0 ((fP F) - 1) (by omega) (by omega) (by omega)) (subP hW.1 [] rfl) (trivial) gX11_asksAt_X11_in rfl rfl rfl (by decide +kernel) ⟨Nat.le_of_ble_eq_true rfl, Nat.le_of_ble_eq_true rfl⟩ rfl rfl hl.1 (Nat.le_of_ble_eq_true rfl) ⟨Nat.le_of_ble_eq_true rfl, Nat.le_of_ble_eq_true rfl⟩ dX11_asksAt_20 ?_
  refine W.eq (g2 := F0 m 23 ls [.int (iI (if 0 ≤ x ∧ x ≤ ((fP F) - 1) then (1 : Int) else 0)), .ref mo]) rfl ?_
  refine q_iconst S0 dX11_asksAt_23 ?_
  refine q_cV (n := 2) (rest := []) (wr := [(az, gI g 325 Z), (a4, gI g 796 (kV K)), (a5, gI g 796 (kH K)), (a6, gI g 796 (kR K)), (v1, gI g 41 (kW K)), (v2, gI g 41 (kS K)), (v3, gI g 41 (kL K)), (v4, gI g 41 (kE K)), (v5, gI g 41 (kX K)), (v6, gI g 41 (kT K))]) S0 hK hA hW (c_X11_asksThen0 l g mo az ap ak ax a1 a2 a3 a4 a5 a6 v1 v2 v3 v4 v5 v6 pm ik ty 0 mn wt bn wh dp dg (0 ≤ x ∧ x ≤ ((fP F) - 1)) 2 (rfl) (by omega)) gX11_asksAt_X11_asksThen rfl rfl rfl (by decide +kernel) ⟨Nat.le_of_ble_eq_true rfl, Nat.le_of_ble_eq_true rfl⟩ [10] [0, 1, 2, 3, 4, 5, 6, 7, 8, 9] rfl rfl rfl rfl (by decide) (q_recv hK hW.1 (ci := 11) (q0 := 10) rfl rfl) (fun _ _ => trivial) (trivial) rfl rfl hl.1 (Nat.le_of_ble_eq_true rfl) ⟨Nat.le_of_ble_eq_true rfl, Nat.le_of_ble_eq_true rfl⟩ dX11_asksAt_24 (fun _ H locs _ hW => ?_)
  have hW : gW g A s.heap H _ [(az, gI g 325 Z), (a4, gI g 796 (kV K)), (a5, gI g 796 (kH K)), (a6, gI g 796 (kR K)), (v1, gI g 41 (kW K)), (v2, gI g 41 (kS K)), (v3, gI g 41 (kL K)), (v4, gI g 41 (kE K)), (v5, gI g 41 (kX K)), (v6, gI g 41 (kT K)), (mo, .inr (11, [.ref az, .ref ap, .int (iI pm), .ref ak, .int (iI ik), .ref ax, .int (iI ty), .int (iI 0), .ref a1, .ref a2, .int (iI mn), .ref a3, .int (iI wt), .ref a4, .ref a5, .ref a6, .ref v1, .ref v2, .ref v3, .ref v4, .ref v5, .ref v6, .int (iI bn), .int (iI wh), .int (iI dp), .int (iI dg)]))] := hW
  refine W.eq (g2 := F0 m 27 ls [.int (iI 1)]) rfl ?_
  refine lv_istore_n (lv' := [(3, .int (iI 1)), (0, .ref mo), (1, .int (iI u)), (2, .int (iI x))]) S0.1 S0.2.1 dX11_asksAt_27 rfl hl (by decide) rfl (fun ls hl => ?_)
  refine lv_iload_n S0.1 S0.2.1 dX11_asksAt_28 rfl (lv_at hl 0 rfl) ?_
  refine q_if_eq (tgt := 37) S0 (by omega) dX11_asksAt_29 (by decide) (fun c29 => ?_) (fun c29 => ?_)
  · skip
    exact absurd c29 (by omega)
  · skip
    refine lv_aload_n S0.1 S0.2.1 dX11_asksAt_32 rfl (lv_at hl 1 rfl) ?_
    refine lv_iload_n S0.1 S0.2.1 dX11_asksAt_33 rfl (lv_at hl 2 rfl) ?_
    refine q_cV (n := 1) (rest := []) (wr := []) S0 hK hA hW (c_X11_knows l g mo az ap ak ax a1 a2 a3 a4 a5 a6 v1 v2 v3 v4 v5 v6 pm ik ty 0 mn wt bn wh dp dg Z F K u (hG) (hz) (hlk) (hu)) gX11_asksAt_X11_knows rfl rfl rfl (by decide +kernel) ⟨Nat.le_of_ble_eq_true rfl, Nat.le_of_ble_eq_true rfl⟩ [10, 0, 1, 2, 3, 4, 5, 6, 7, 8, 9] [] rfl rfl rfl rfl (by decide) (q_recv hK hW.1 (ci := 11) (q0 := 10) rfl rfl) (fun _ _ => trivial) (trivial) rfl rfl hl.1 (Nat.le_of_ble_eq_true rfl) ⟨Nat.le_of_ble_eq_true rfl, Nat.le_of_ble_eq_true rfl⟩ dX11_asksAt_34 ?_
    rintro ⟨Ka, ba⟩ H locs hp hW
    try dsimp only at hp
    have hW : gW g A s.heap H _ [(mo, .inr (11, [.ref az, .ref ap, .int (iI pm), .ref ak, .int (iI ik), .ref ax, .int (iI ty), .int (iI 0), .ref a1, .ref a2, .int (iI mn), .ref a3, .int (iI wt), .ref a4, .ref a5, .ref a6, .ref v1, .ref v2, .ref v3, .ref v4, .ref v5, .ref v6, .int (iI ba), .int (iI wh), .int (iI dp), .int (iI dg)])), (az, gI g 325 Z), (a4, gI g 796 (kV Ka)), (a5, gI g 796 (kH Ka)), (a6, gI g 796 (kR Ka)), (v1, gI g 41 (kW Ka)), (v2, gI g 41 (kS Ka)), (v3, gI g 41 (kL Ka)), (v4, gI g 41 (kE Ka)), (v5, gI g 41 (kX Ka)), (v6, gI g 41 (kT Ka))] := hW
    refine W.eq (g2 := F0 m 37 ls []) rfl ?_
    have hTB := hp
    refine lv_iload_n S0.1 S0.2.1 dX11_asksAt_37 rfl (lv_at hl 0 rfl) ?_
    exact q_zret S0 hr hlocks (Ka, ba) (hTB) (Or.inr rfl) (rfl) (hW.sub [0, 1, 2, 3, 4, 5, 6, 7, 8, 9, 10] rfl (rfl)) (Nat.le_of_ble_eq_true rfl) (Nat.le_of_ble_eq_true rfl) dX11_asksAt_38
set_option maxHeartbeats 4000000 in
set_option maxRecDepth 100000 in
theorem c_X11_valueAt1 (l : Launch) (g : GG) (mo az ap ak ax a1 a2 a3 a4 a5 a6 v1 v2 v3 v4 v5 v6 : Nat) (pm ik ty th mn wt bn wh dp dg : Int) (Z : Nat → Int) (F : FT) (u x : Int) (hG : GF F) (hz : ZR Z F) (hu : (u < 0 ∨ 3 < u) ∧ -2147483648 ≤ u ∧ u < 2147483648) (hx : -2147483648 ≤ x ∧ x < 2147483648) : qMet l yX11_valueAt wsX11_valueAt ({ frames := 3, cells := 0, slots := 0, locals := 65 }) g [.ref mo, .int (iI u), .int (iI x)] [(mo, .inr (11, [.ref az, .ref ap, .int (iI pm), .ref ak, .int (iI ik), .ref ax, .int (iI ty), .int (iI th), .ref a1, .ref a2, .int (iI mn), .ref a3, .int (iI wt), .ref a4, .ref a5, .ref a6, .ref v1, .ref v2, .ref v3, .ref v4, .ref v5, .ref v6, .int (iI bn), .int (iI wh), .int (iI dp), .int (iI dg)])), (az, gI g 325 Z)] (fun _ => True) (fun _ => True) (S := Unit) (fun _ => some (.int (iI 0))) (fun _ => [(mo, .inr (11, [.ref az, .ref ap, .int (iI pm), .ref ak, .int (iI ik), .ref ax, .int (iI ty), .int (iI 1), .ref a1, .ref a2, .int (iI mn), .ref a3, .int (iI wt), .ref a4, .ref a5, .ref a6, .ref v1, .ref v2, .ref v3, .ref v4, .ref v5, .ref v6, .int (iI bn), .int (iI wh), .int (iI dp), .int (iI dg)])), (az, gI g 325 Z)]) (fun _ => True) 0 0 := by
  refine q_ofW (cc := cX11_valueAt) (maxL := 3) (ret := (some .int)) (fun sz h => h.self) (by decide) rfl (Nat.le_of_ble_eq_true rfl) ?_
  intro p e s m args below meth c A ls S0 hr hlocks hnme hK hA hAe hW hD0 hX hl
  have hW : gW g A s.heap s.heap [] [(mo, .inr (11, [.ref az, .ref ap, .int (iI pm), .ref ak, .int (iI ik), .ref ax, .int (iI ty), .int (iI th), .ref a1, .ref a2, .int (iI mn), .ref a3, .int (iI wt), .ref a4, .ref a5, .ref a6, .ref v1, .ref v2, .ref v3, .ref v4, .ref v5, .ref v6, .int (iI bn), .int (iI wh), .int (iI dp), .int (iI dg)])), (az, gI g 325 Z)] := hW
  have hl : lv_has ls 3 [(0, .ref mo), (1, .int (iI u)), (2, .int (iI x))] := hl
  refine lv_aload_n S0.1 S0.2.1 dX11_valueAt_0 rfl (lv_at hl 0 rfl) ?_
  refine lv_iload_n S0.1 S0.2.1 dX11_valueAt_1 rfl (lv_at hl 1 rfl) ?_
  refine lv_iload_n S0.1 S0.2.1 dX11_valueAt_2 rfl (lv_at hl 2 rfl) ?_
  refine q_cV (n := 2) (rest := []) (wr := []) S0 hK hA hW (c_X11_asksAt1 l g mo az ap ak ax a1 a2 a3 a4 a5 a6 v1 v2 v3 v4 v5 v6 pm ik ty th mn wt bn wh dp dg Z F u x (hG) (hz) (hu) (hx)) gX11_valueAt_X11_asksAt rfl rfl rfl (by decide +kernel) ⟨Nat.le_of_ble_eq_true rfl, Nat.le_of_ble_eq_true rfl⟩ [0, 1] [] rfl rfl rfl rfl (by decide) (q_recv hK hW.1 (ci := 11) (q0 := 0) rfl rfl) (fun _ _ => trivial) (trivial) rfl rfl hl.1 (Nat.le_of_ble_eq_true rfl) ⟨Nat.le_of_ble_eq_true rfl, Nat.le_of_ble_eq_true rfl⟩ dX11_valueAt_3 (fun _ H locs _ hW => ?_)
  have hW : gW g A s.heap H _ [(mo, .inr (11, [.ref az, .ref ap, .int (iI pm), .ref ak, .int (iI ik), .ref ax, .int (iI ty), .int (iI 1), .ref a1, .ref a2, .int (iI mn), .ref a3, .int (iI wt), .ref a4, .ref a5, .ref a6, .ref v1, .ref v2, .ref v3, .ref v4, .ref v5, .ref v6, .int (iI bn), .int (iI wh), .int (iI dp), .int (iI dg)])), (az, gI g 325 Z)] := hW
  refine W.eq (g2 := F0 m 6 ls [.int (iI 0)]) rfl ?_
  refine q_if_eq (tgt := 24) S0 (by omega) dX11_valueAt_6 (by decide) (fun c6 => ?_) (fun c6 => ?_)
  · skip
    refine q_iconst S0 dX11_valueAt_24 ?_
    exact q_iret S0 hr hlocks () (trivial) (rfl) (hW.sub [0, 1] rfl (rfl)) (Nat.le_of_ble_eq_true rfl) (Nat.le_of_ble_eq_true rfl) dX11_valueAt_25
  · skip
    exact absurd c6 (by omega)
set_option maxHeartbeats 4000000 in
set_option maxRecDepth 100000 in
theorem c_X11_valueAt2 (l : Launch) (g : GG) (mo az ap ak ax a1 a2 a3 a4 a5 a6 v1 v2 v3 v4 v5 v6 : Nat) (pm ik ty th mn wt bn wh dp dg : Int) (Z : Nat → Int) (F : FT) (u x : Int) (hG : GF F) (hz : ZR Z F) (hu : 0 ≤ u ∧ u < 4) (hx : (x < 0 ∨ fP F ≤ x) ∧ -2147483648 ≤ x ∧ x < 2147483648) : qMet l yX11_valueAt wsX11_valueAt ({ frames := 3, cells := 0, slots := 0, locals := 65 }) g [.ref mo, .int (iI u), .int (iI x)] [(mo, .inr (11, [.ref az, .ref ap, .int (iI pm), .ref ak, .int (iI ik), .ref ax, .int (iI ty), .int (iI th), .ref a1, .ref a2, .int (iI mn), .ref a3, .int (iI wt), .ref a4, .ref a5, .ref a6, .ref v1, .ref v2, .ref v3, .ref v4, .ref v5, .ref v6, .int (iI bn), .int (iI wh), .int (iI dp), .int (iI dg)])), (az, gI g 325 Z)] (fun _ => True) (fun _ => True) (S := Unit) (fun _ => some (.int (iI 0))) (fun _ => [(mo, .inr (11, [.ref az, .ref ap, .int (iI pm), .ref ak, .int (iI ik), .ref ax, .int (iI ty), .int (iI 2), .ref a1, .ref a2, .int (iI mn), .ref a3, .int (iI wt), .ref a4, .ref a5, .ref a6, .ref v1, .ref v2, .ref v3, .ref v4, .ref v5, .ref v6, .int (iI bn), .int (iI wh), .int (iI dp), .int (iI dg)])), (az, gI g 325 Z)]) (fun _ => True) 0 0 := by
  refine q_ofW (cc := cX11_valueAt) (maxL := 3) (ret := (some .int)) (fun sz h => h.self) (by decide) rfl (Nat.le_of_ble_eq_true rfl) ?_
  intro p e s m args below meth c A ls S0 hr hlocks hnme hK hA hAe hW hD0 hX hl
  have hW : gW g A s.heap s.heap [] [(mo, .inr (11, [.ref az, .ref ap, .int (iI pm), .ref ak, .int (iI ik), .ref ax, .int (iI ty), .int (iI th), .ref a1, .ref a2, .int (iI mn), .ref a3, .int (iI wt), .ref a4, .ref a5, .ref a6, .ref v1, .ref v2, .ref v3, .ref v4, .ref v5, .ref v6, .int (iI bn), .int (iI wh), .int (iI dp), .int (iI dg)])), (az, gI g 325 Z)] := hW
  have hl : lv_has ls 3 [(0, .ref mo), (1, .int (iI u)), (2, .int (iI x))] := hl
  refine lv_aload_n S0.1 S0.2.1 dX11_valueAt_0 rfl (lv_at hl 0 rfl) ?_
  refine lv_iload_n S0.1 S0.2.1 dX11_valueAt_1 rfl (lv_at hl 1 rfl) ?_
  refine lv_iload_n S0.1 S0.2.1 dX11_valueAt_2 rfl (lv_at hl 2 rfl) ?_
  refine q_cV (n := 2) (rest := []) (wr := []) S0 hK hA hW (c_X11_asksAt2 l g mo az ap ak ax a1 a2 a3 a4 a5 a6 v1 v2 v3 v4 v5 v6 pm ik ty th mn wt bn wh dp dg Z F u x (hG) (hz) (hu) (hx)) gX11_valueAt_X11_asksAt rfl rfl rfl (by decide +kernel) ⟨Nat.le_of_ble_eq_true rfl, Nat.le_of_ble_eq_true rfl⟩ [0, 1] [] rfl rfl rfl rfl (by decide) (q_recv hK hW.1 (ci := 11) (q0 := 0) rfl rfl) (fun _ _ => trivial) (trivial) rfl rfl hl.1 (Nat.le_of_ble_eq_true rfl) ⟨Nat.le_of_ble_eq_true rfl, Nat.le_of_ble_eq_true rfl⟩ dX11_valueAt_3 (fun _ H locs _ hW => ?_)
  have hW : gW g A s.heap H _ [(mo, .inr (11, [.ref az, .ref ap, .int (iI pm), .ref ak, .int (iI ik), .ref ax, .int (iI ty), .int (iI 2), .ref a1, .ref a2, .int (iI mn), .ref a3, .int (iI wt), .ref a4, .ref a5, .ref a6, .ref v1, .ref v2, .ref v3, .ref v4, .ref v5, .ref v6, .int (iI bn), .int (iI wh), .int (iI dp), .int (iI dg)])), (az, gI g 325 Z)] := hW
  refine W.eq (g2 := F0 m 6 ls [.int (iI 0)]) rfl ?_
  refine q_if_eq (tgt := 24) S0 (by omega) dX11_valueAt_6 (by decide) (fun c6 => ?_) (fun c6 => ?_)
  · skip
    refine q_iconst S0 dX11_valueAt_24 ?_
    exact q_iret S0 hr hlocks () (trivial) (rfl) (hW.sub [0, 1] rfl (rfl)) (Nat.le_of_ble_eq_true rfl) (Nat.le_of_ble_eq_true rfl) dX11_valueAt_25
  · skip
    exact absurd c6 (by omega)
set_option maxHeartbeats 4000000 in
set_option maxRecDepth 100000 in
theorem c_X11_valueAt0 (l : Launch) (g : GG) (mo az ap ak ax a1 a2 a3 a4 a5 a6 v1 v2 v3 v4 v5 v6 : Nat) (pm ik ty th mn wt bn wh dp dg : Int) (Z : Nat → Int) (F : FT) (K : KT) (u x : Int) (hG : GF F) (hz : ZR Z F) (hlk : LKG F) (hu : 0 ≤ u ∧ u < 4) (hx : 0 ≤ x ∧ x < fP F) : qMet l yX11_valueAt wsX11_valueAt ({ frames := 6, cells := 0, slots := 0, locals := 146 }) g [.ref mo, .int (iI u), .int (iI x)] [(mo, .inr (11, [.ref az, .ref ap, .int (iI pm), .ref ak, .int (iI ik), .ref ax, .int (iI ty), .int (iI th), .ref a1, .ref a2, .int (iI mn), .ref a3, .int (iI wt), .ref a4, .ref a5, .ref a6, .ref v1, .ref v2, .ref v3, .ref v4, .ref v5, .ref v6, .int (iI bn), .int (iI wh), .int (iI dp), .int (iI dg)])), (az, gI g 325 Z), (a4, gI g 796 (kV K)), (a5, gI g 796 (kH K)), (a6, gI g 796 (kR K)), (v1, gI g 41 (kW K)), (v2, gI g 41 (kS K)), (v3, gI g 41 (kL K)), (v4, gI g 41 (kE K)), (v5, gI g 41 (kX K)), (v6, gI g 41 (kT K))] (fun _ => True) (fun _ => True) (S := KT × Int) (fun u_ => some (.int (iI (vv (fP F) (fE F) u.toNat x)))) (fun u_ => [(mo, .inr (11, [.ref az, .ref ap, .int (iI pm), .ref ak, .int (iI ik), .ref ax, .int (iI ty), .int (iI 0), .ref a1, .ref a2, .int (iI mn), .ref a3, .int (iI wt), .ref a4, .ref a5, .ref a6, .ref v1, .ref v2, .ref v3, .ref v4, .ref v5, .ref v6, .int (iI u_.2), .int (iI wh), .int (iI dp), .int (iI dg)])), (az, gI g 325 Z), (a4, gI g 796 (kV u_.1)), (a5, gI g 796 (kH u_.1)), (a6, gI g 796 (kR u_.1)), (v1, gI g 41 (kW u_.1)), (v2, gI g 41 (kS u_.1)), (v3, gI g 41 (kL u_.1)), (v4, gI g 41 (kE u_.1)), (v5, gI g 41 (kX u_.1)), (v6, gI g 41 (kT u_.1))]) (fun u_ => TB F (u + 1) (kV u_.1) (kH u_.1) (kR u_.1)) 0 0 := by
  refine q_ofW (cc := cX11_valueAt) (maxL := 3) (ret := (some .int)) (fun sz h => h.self) (by decide) rfl (Nat.le_of_ble_eq_true rfl) ?_
  intro p e s m args below meth c A ls S0 hr hlocks hnme hK hA hAe hW hD0 hX hl
  have hW : gW g A s.heap s.heap [] [(mo, .inr (11, [.ref az, .ref ap, .int (iI pm), .ref ak, .int (iI ik), .ref ax, .int (iI ty), .int (iI th), .ref a1, .ref a2, .int (iI mn), .ref a3, .int (iI wt), .ref a4, .ref a5, .ref a6, .ref v1, .ref v2, .ref v3, .ref v4, .ref v5, .ref v6, .int (iI bn), .int (iI wh), .int (iI dp), .int (iI dg)])), (az, gI g 325 Z), (a4, gI g 796 (kV K)), (a5, gI g 796 (kH K)), (a6, gI g 796 (kR K)), (v1, gI g 41 (kW K)), (v2, gI g 41 (kS K)), (v3, gI g 41 (kL K)), (v4, gI g 41 (kE K)), (v5, gI g 41 (kX K)), (v6, gI g 41 (kT K))] := hW
  have hl : lv_has ls 3 [(0, .ref mo), (1, .int (iI u)), (2, .int (iI x))] := hl
  have hinX11 : ∀ w ∈ wsX110, w ∈ wsX11_valueAt := fun w h => List.mem_cons_of_mem _ (List.mem_append_right _ h)
  have hpr := GF_p hG
  refine lv_aload_n S0.1 S0.2.1 dX11_valueAt_0 rfl (lv_at hl 0 rfl) ?_
  refine lv_iload_n S0.1 S0.2.1 dX11_valueAt_1 rfl (lv_at hl 1 rfl) ?_
  refine lv_iload_n S0.1 S0.2.1 dX11_valueAt_2 rfl (lv_at hl 2 rfl) ?_
  refine q_cV (n := 2) (rest := []) (wr := []) S0 hK hA hW (c_X11_asksAt0 l g mo az ap ak ax a1 a2 a3 a4 a5 a6 v1 v2 v3 v4 v5 v6 pm ik ty th mn wt bn wh dp dg Z F K u x (hG) (hz) (hlk) (hu) (hx)) gX11_valueAt_X11_asksAt rfl rfl rfl (by decide +kernel) ⟨Nat.le_of_ble_eq_true rfl, Nat.le_of_ble_eq_true rfl⟩ [0, 1, 2, 3, 4, 5, 6, 7, 8, 9, 10] [] rfl rfl rfl rfl (by decide) (q_recv hK hW.1 (ci := 11) (q0 := 0) rfl rfl) (fun _ _ => trivial) (trivial) rfl rfl hl.1 (Nat.le_of_ble_eq_true rfl) ⟨Nat.le_of_ble_eq_true rfl, Nat.le_of_ble_eq_true rfl⟩ dX11_valueAt_3 ?_
  rintro ⟨Ka, ba⟩ H locs hp hW
  try dsimp only at hp
  have hW : gW g A s.heap H _ [(mo, .inr (11, [.ref az, .ref ap, .int (iI pm), .ref ak, .int (iI ik), .ref ax, .int (iI ty), .int (iI 0), .ref a1, .ref a2, .int (iI mn), .ref a3, .int (iI wt), .ref a4, .ref a5, .ref a6, .ref v1, .ref v2, .ref v3, .ref v4, .ref v5, .ref v6, .int (iI ba), .int (iI wh), .int (iI dp), .int (iI dg)])), (az, gI g 325 Z), (a4, gI g 796 (kV Ka)), (a5, gI g 796 (kH Ka)), (a6, gI g 796 (kR Ka)), (v1, gI g 41 (kW Ka)), (v2, gI g 41 (kS Ka)), (v3, gI g 41 (kL Ka)), (v4, gI g 41 (kE Ka)), (v5, gI g 41 (kX Ka)), (v6, gI g 41 (kT Ka))] := hW
  refine W.eq (g2 := F0 m 6 ls [.int (iI 1)]) rfl ?_
  have hTB := hp
  refine q_if_eq (tgt := 24) S0 (by omega) dX11_valueAt_6 (by decide) (fun c6 => ?_) (fun c6 => ?_)
  · skip
    exact absurd c6 (by omega)
  · skip
    refine lv_aload_n S0.1 S0.2.1 dX11_valueAt_9 rfl (lv_at hl 0 rfl) ?_
    refine q_get (C := RX11) (T := TX11) (N := 26) S0 hK hW.1 hinX11 0 rfl rfl 13 (by decide) (List.mem_of_getElem? (i := 1) rfl) rfl rfl dX11_valueAt_10 ?_
    refine q_sipush S0 (by decide) dX11_valueAt_13 ?_
    refine lv_iload_n S0.1 S0.2.1 dX11_valueAt_16 rfl (lv_at hl 1 rfl) ?_
    refine q_imul S0 dX11_valueAt_17 ?_
    refine lv_iload_n S0.1 S0.2.1 dX11_valueAt_18 rfl (lv_at hl 2 rfl) ?_
    refine q_iadd S0 dX11_valueAt_19 ?_
    refine q_iald S0 hK hW.1 2 rfl (by omega) dX11_valueAt_20 ?_
    refine q_topI (b := vv (fP F) (fE F) u.toNat x) ((hTB u x (by omega) (by omega) (by omega) (by omega)).1) ?_
    refine lv_goto (tgt := 25) S0.1 S0.2.1 dX11_valueAt_21 (by decide) ?_
    exact q_iret S0 hr hlocks (Ka, ba) (hTB) (rfl) (hW.sub [0, 1, 2, 3, 4, 5, 6, 7, 8, 9, 10] rfl (rfl)) (Nat.le_of_ble_eq_true rfl) (Nat.le_of_ble_eq_true rfl) dX11_valueAt_25
set_option maxHeartbeats 4000000 in
set_option maxRecDepth 100000 in
theorem c_X11_slopeByHinges1 (l : Launch) (g : GG) (mo az ap ak ax a1 a2 a3 a4 a5 a6 v1 v2 v3 v4 v5 v6 : Nat) (pm ik ty th mn wt bn wh dp dg : Int) (Z : Nat → Int) (F : FT) (u x : Int) (hG : GF F) (hz : ZR Z F) (hu : (u < 0 ∨ 3 < u) ∧ -2147483648 ≤ u ∧ u < 2147483648) (hx : -2147483648 ≤ x ∧ x < 2147483648) : qMet l yX11_slopeByHinges wsX11_slopeByHinges ({ frames := 3, cells := 0, slots := 0, locals := 65 }) g [.ref mo, .int (iI u), .int (iI x)] [(mo, .inr (11, [.ref az, .ref ap, .int (iI pm), .ref ak, .int (iI ik), .ref ax, .int (iI ty), .int (iI th), .ref a1, .ref a2, .int (iI mn), .ref a3, .int (iI wt), .ref a4, .ref a5, .ref a6, .ref v1, .ref v2, .ref v3, .ref v4, .ref v5, .ref v6, .int (iI bn), .int (iI wh), .int (iI dp), .int (iI dg)])), (az, gI g 325 Z)] (fun _ => True) (fun _ => True) (S := Unit) (fun _ => some (.int (iI 0))) (fun _ => [(mo, .inr (11, [.ref az, .ref ap, .int (iI pm), .ref ak, .int (iI ik), .ref ax, .int (iI ty), .int (iI 1), .ref a1, .ref a2, .int (iI mn), .ref a3, .int (iI wt), .ref a4, .ref a5, .ref a6, .ref v1, .ref v2, .ref v3, .ref v4, .ref v5, .ref v6, .int (iI bn), .int (iI wh), .int (iI dp), .int (iI dg)])), (az, gI g 325 Z)]) (fun _ => True) 0 0 := by
  refine q_ofW (cc := cX11_slopeByHinges) (maxL := 3) (ret := (some .int)) (fun sz h => h.self) (by decide) rfl (Nat.le_of_ble_eq_true rfl) ?_
  intro p e s m args below meth c A ls S0 hr hlocks hnme hK hA hAe hW hD0 hX hl
  have hW : gW g A s.heap s.heap [] [(mo, .inr (11, [.ref az, .ref ap, .int (iI pm), .ref ak, .int (iI ik), .ref ax, .int (iI ty), .int (iI th), .ref a1, .ref a2, .int (iI mn), .ref a3, .int (iI wt), .ref a4, .ref a5, .ref a6, .ref v1, .ref v2, .ref v3, .ref v4, .ref v5, .ref v6, .int (iI bn), .int (iI wh), .int (iI dp), .int (iI dg)])), (az, gI g 325 Z)] := hW
  have hl : lv_has ls 3 [(0, .ref mo), (1, .int (iI u)), (2, .int (iI x))] := hl
  refine lv_aload_n S0.1 S0.2.1 dX11_slopeByHinges_0 rfl (lv_at hl 0 rfl) ?_
  refine lv_iload_n S0.1 S0.2.1 dX11_slopeByHinges_1 rfl (lv_at hl 1 rfl) ?_
  refine lv_iload_n S0.1 S0.2.1 dX11_slopeByHinges_2 rfl (lv_at hl 2 rfl) ?_
  refine q_cV (n := 2) (rest := []) (wr := []) S0 hK hA hW (c_X11_asksAt1 l g mo az ap ak ax a1 a2 a3 a4 a5 a6 v1 v2 v3 v4 v5 v6 pm ik ty th mn wt bn wh dp dg Z F u x (hG) (hz) (hu) (hx)) gX11_slopeByHinges_X11_asksAt rfl rfl rfl (by decide +kernel) ⟨Nat.le_of_ble_eq_true rfl, Nat.le_of_ble_eq_true rfl⟩ [0, 1] [] rfl rfl rfl rfl (by decide) (q_recv hK hW.1 (ci := 11) (q0 := 0) rfl rfl) (fun _ _ => trivial) (trivial) rfl rfl hl.1 (Nat.le_of_ble_eq_true rfl) ⟨Nat.le_of_ble_eq_true rfl, Nat.le_of_ble_eq_true rfl⟩ dX11_slopeByHinges_3 (fun _ H locs _ hW => ?_)
  have hW : gW g A s.heap H _ [(mo, .inr (11, [.ref az, .ref ap, .int (iI pm), .ref ak, .int (iI ik), .ref ax, .int (iI ty), .int (iI 1), .ref a1, .ref a2, .int (iI mn), .ref a3, .int (iI wt), .ref a4, .ref a5, .ref a6, .ref v1, .ref v2, .ref v3, .ref v4, .ref v5, .ref v6, .int (iI bn), .int (iI wh), .int (iI dp), .int (iI dg)])), (az, gI g 325 Z)] := hW
  refine W.eq (g2 := F0 m 6 ls [.int (iI 0)]) rfl ?_
  refine q_if_eq (tgt := 24) S0 (by omega) dX11_slopeByHinges_6 (by decide) (fun c6 => ?_) (fun c6 => ?_)
  · skip
    refine q_iconst S0 dX11_slopeByHinges_24 ?_
    exact q_iret S0 hr hlocks () (trivial) (rfl) (hW.sub [0, 1] rfl (rfl)) (Nat.le_of_ble_eq_true rfl) (Nat.le_of_ble_eq_true rfl) dX11_slopeByHinges_25
  · skip
    exact absurd c6 (by omega)
set_option maxHeartbeats 4000000 in
set_option maxRecDepth 100000 in
theorem c_X11_slopeByHinges2 (l : Launch) (g : GG) (mo az ap ak ax a1 a2 a3 a4 a5 a6 v1 v2 v3 v4 v5 v6 : Nat) (pm ik ty th mn wt bn wh dp dg : Int) (Z : Nat → Int) (F : FT) (u x : Int) (hG : GF F) (hz : ZR Z F) (hu : 0 ≤ u ∧ u < 4) (hx : (x < 0 ∨ fP F ≤ x) ∧ -2147483648 ≤ x ∧ x < 2147483648) : qMet l yX11_slopeByHinges wsX11_slopeByHinges ({ frames := 3, cells := 0, slots := 0, locals := 65 }) g [.ref mo, .int (iI u), .int (iI x)] [(mo, .inr (11, [.ref az, .ref ap, .int (iI pm), .ref ak, .int (iI ik), .ref ax, .int (iI ty), .int (iI th), .ref a1, .ref a2, .int (iI mn), .ref a3, .int (iI wt), .ref a4, .ref a5, .ref a6, .ref v1, .ref v2, .ref v3, .ref v4, .ref v5, .ref v6, .int (iI bn), .int (iI wh), .int (iI dp), .int (iI dg)])), (az, gI g 325 Z)] (fun _ => True) (fun _ => True) (S := Unit) (fun _ => some (.int (iI 0))) (fun _ => [(mo, .inr (11, [.ref az, .ref ap, .int (iI pm), .ref ak, .int (iI ik), .ref ax, .int (iI ty), .int (iI 2), .ref a1, .ref a2, .int (iI mn), .ref a3, .int (iI wt), .ref a4, .ref a5, .ref a6, .ref v1, .ref v2, .ref v3, .ref v4, .ref v5, .ref v6, .int (iI bn), .int (iI wh), .int (iI dp), .int (iI dg)])), (az, gI g 325 Z)]) (fun _ => True) 0 0 := by
  refine q_ofW (cc := cX11_slopeByHinges) (maxL := 3) (ret := (some .int)) (fun sz h => h.self) (by decide) rfl (Nat.le_of_ble_eq_true rfl) ?_
  intro p e s m args below meth c A ls S0 hr hlocks hnme hK hA hAe hW hD0 hX hl
  have hW : gW g A s.heap s.heap [] [(mo, .inr (11, [.ref az, .ref ap, .int (iI pm), .ref ak, .int (iI ik), .ref ax, .int (iI ty), .int (iI th), .ref a1, .ref a2, .int (iI mn), .ref a3, .int (iI wt), .ref a4, .ref a5, .ref a6, .ref v1, .ref v2, .ref v3, .ref v4, .ref v5, .ref v6, .int (iI bn), .int (iI wh), .int (iI dp), .int (iI dg)])), (az, gI g 325 Z)] := hW
  have hl : lv_has ls 3 [(0, .ref mo), (1, .int (iI u)), (2, .int (iI x))] := hl
  refine lv_aload_n S0.1 S0.2.1 dX11_slopeByHinges_0 rfl (lv_at hl 0 rfl) ?_
  refine lv_iload_n S0.1 S0.2.1 dX11_slopeByHinges_1 rfl (lv_at hl 1 rfl) ?_
  refine lv_iload_n S0.1 S0.2.1 dX11_slopeByHinges_2 rfl (lv_at hl 2 rfl) ?_
  refine q_cV (n := 2) (rest := []) (wr := []) S0 hK hA hW (c_X11_asksAt2 l g mo az ap ak ax a1 a2 a3 a4 a5 a6 v1 v2 v3 v4 v5 v6 pm ik ty th mn wt bn wh dp dg Z F u x (hG) (hz) (hu) (hx)) gX11_slopeByHinges_X11_asksAt rfl rfl rfl (by decide +kernel) ⟨Nat.le_of_ble_eq_true rfl, Nat.le_of_ble_eq_true rfl⟩ [0, 1] [] rfl rfl rfl rfl (by decide) (q_recv hK hW.1 (ci := 11) (q0 := 0) rfl rfl) (fun _ _ => trivial) (trivial) rfl rfl hl.1 (Nat.le_of_ble_eq_true rfl) ⟨Nat.le_of_ble_eq_true rfl, Nat.le_of_ble_eq_true rfl⟩ dX11_slopeByHinges_3 (fun _ H locs _ hW => ?_)
  have hW : gW g A s.heap H _ [(mo, .inr (11, [.ref az, .ref ap, .int (iI pm), .ref ak, .int (iI ik), .ref ax, .int (iI ty), .int (iI 2), .ref a1, .ref a2, .int (iI mn), .ref a3, .int (iI wt), .ref a4, .ref a5, .ref a6, .ref v1, .ref v2, .ref v3, .ref v4, .ref v5, .ref v6, .int (iI bn), .int (iI wh), .int (iI dp), .int (iI dg)])), (az, gI g 325 Z)] := hW
  refine W.eq (g2 := F0 m 6 ls [.int (iI 0)]) rfl ?_
  refine q_if_eq (tgt := 24) S0 (by omega) dX11_slopeByHinges_6 (by decide) (fun c6 => ?_) (fun c6 => ?_)
  · skip
    refine q_iconst S0 dX11_slopeByHinges_24 ?_
    exact q_iret S0 hr hlocks () (trivial) (rfl) (hW.sub [0, 1] rfl (rfl)) (Nat.le_of_ble_eq_true rfl) (Nat.le_of_ble_eq_true rfl) dX11_slopeByHinges_25
  · skip
    exact absurd c6 (by omega)
set_option maxHeartbeats 4000000 in
set_option maxRecDepth 100000 in
theorem c_X11_slopeByHinges0 (l : Launch) (g : GG) (mo az ap ak ax a1 a2 a3 a4 a5 a6 v1 v2 v3 v4 v5 v6 : Nat) (pm ik ty th mn wt bn wh dp dg : Int) (Z : Nat → Int) (F : FT) (K : KT) (u x : Int) (hG : GF F) (hz : ZR Z F) (hlk : LKG F) (hu : 0 ≤ u ∧ u < 4) (hx : 0 ≤ x ∧ x < fP F) : qMet l yX11_slopeByHinges wsX11_slopeByHinges ({ frames := 6, cells := 0, slots := 0, locals := 146 }) g [.ref mo, .int (iI u), .int (iI x)] [(mo, .inr (11, [.ref az, .ref ap, .int (iI pm), .ref ak, .int (iI ik), .ref ax, .int (iI ty), .int (iI th), .ref a1, .ref a2, .int (iI mn), .ref a3, .int (iI wt), .ref a4, .ref a5, .ref a6, .ref v1, .ref v2, .ref v3, .ref v4, .ref v5, .ref v6, .int (iI bn), .int (iI wh), .int (iI dp), .int (iI dg)])), (az, gI g 325 Z), (a4, gI g 796 (kV K)), (a5, gI g 796 (kH K)), (a6, gI g 796 (kR K)), (v1, gI g 41 (kW K)), (v2, gI g 41 (kS K)), (v3, gI g 41 (kL K)), (v4, gI g 41 (kE K)), (v5, gI g 41 (kX K)), (v6, gI g 41 (kT K))] (fun _ => True) (fun _ => True) (S := KT × Int) (fun u_ => some (.int (iI (hh (fP F) (fE F) u.toNat x)))) (fun u_ => [(mo, .inr (11, [.ref az, .ref ap, .int (iI pm), .ref ak, .int (iI ik), .ref ax, .int (iI ty), .int (iI 0), .ref a1, .ref a2, .int (iI mn), .ref a3, .int (iI wt), .ref a4, .ref a5, .ref a6, .ref v1, .ref v2, .ref v3, .ref v4, .ref v5, .ref v6, .int (iI u_.2), .int (iI wh), .int (iI dp), .int (iI dg)])), (az, gI g 325 Z), (a4, gI g 796 (kV u_.1)), (a5, gI g 796 (kH u_.1)), (a6, gI g 796 (kR u_.1)), (v1, gI g 41 (kW u_.1)), (v2, gI g 41 (kS u_.1)), (v3, gI g 41 (kL u_.1)), (v4, gI g 41 (kE u_.1)), (v5, gI g 41 (kX u_.1)), (v6, gI g 41 (kT u_.1))]) (fun u_ => TB F (u + 1) (kV u_.1) (kH u_.1) (kR u_.1)) 0 0 := by
  refine q_ofW (cc := cX11_slopeByHinges) (maxL := 3) (ret := (some .int)) (fun sz h => h.self) (by decide) rfl (Nat.le_of_ble_eq_true rfl) ?_
  intro p e s m args below meth c A ls S0 hr hlocks hnme hK hA hAe hW hD0 hX hl
  have hW : gW g A s.heap s.heap [] [(mo, .inr (11, [.ref az, .ref ap, .int (iI pm), .ref ak, .int (iI ik), .ref ax, .int (iI ty), .int (iI th), .ref a1, .ref a2, .int (iI mn), .ref a3, .int (iI wt), .ref a4, .ref a5, .ref a6, .ref v1, .ref v2, .ref v3, .ref v4, .ref v5, .ref v6, .int (iI bn), .int (iI wh), .int (iI dp), .int (iI dg)])), (az, gI g 325 Z), (a4, gI g 796 (kV K)), (a5, gI g 796 (kH K)), (a6, gI g 796 (kR K)), (v1, gI g 41 (kW K)), (v2, gI g 41 (kS K)), (v3, gI g 41 (kL K)), (v4, gI g 41 (kE K)), (v5, gI g 41 (kX K)), (v6, gI g 41 (kT K))] := hW
  have hl : lv_has ls 3 [(0, .ref mo), (1, .int (iI u)), (2, .int (iI x))] := hl
  have hinX11 : ∀ w ∈ wsX110, w ∈ wsX11_slopeByHinges := fun w h => List.mem_cons_of_mem _ (List.mem_append_right _ h)
  have hpr := GF_p hG
  refine lv_aload_n S0.1 S0.2.1 dX11_slopeByHinges_0 rfl (lv_at hl 0 rfl) ?_
  refine lv_iload_n S0.1 S0.2.1 dX11_slopeByHinges_1 rfl (lv_at hl 1 rfl) ?_
  refine lv_iload_n S0.1 S0.2.1 dX11_slopeByHinges_2 rfl (lv_at hl 2 rfl) ?_
  refine q_cV (n := 2) (rest := []) (wr := []) S0 hK hA hW (c_X11_asksAt0 l g mo az ap ak ax a1 a2 a3 a4 a5 a6 v1 v2 v3 v4 v5 v6 pm ik ty th mn wt bn wh dp dg Z F K u x (hG) (hz) (hlk) (hu) (hx)) gX11_slopeByHinges_X11_asksAt rfl rfl rfl (by decide +kernel) ⟨Nat.le_of_ble_eq_true rfl, Nat.le_of_ble_eq_true rfl⟩ [0, 1, 2, 3, 4, 5, 6, 7, 8, 9, 10] [] rfl rfl rfl rfl (by decide) (q_recv hK hW.1 (ci := 11) (q0 := 0) rfl rfl) (fun _ _ => trivial) (trivial) rfl rfl hl.1 (Nat.le_of_ble_eq_true rfl) ⟨Nat.le_of_ble_eq_true rfl, Nat.le_of_ble_eq_true rfl⟩ dX11_slopeByHinges_3 ?_
  rintro ⟨Ka, ba⟩ H locs hp hW
  try dsimp only at hp
  have hW : gW g A s.heap H _ [(mo, .inr (11, [.ref az, .ref ap, .int (iI pm), .ref ak, .int (iI ik), .ref ax, .int (iI ty), .int (iI 0), .ref a1, .ref a2, .int (iI mn), .ref a3, .int (iI wt), .ref a4, .ref a5, .ref a6, .ref v1, .ref v2, .ref v3, .ref v4, .ref v5, .ref v6, .int (iI ba), .int (iI wh), .int (iI dp), .int (iI dg)])), (az, gI g 325 Z), (a4, gI g 796 (kV Ka)), (a5, gI g 796 (kH Ka)), (a6, gI g 796 (kR Ka)), (v1, gI g 41 (kW Ka)), (v2, gI g 41 (kS Ka)), (v3, gI g 41 (kL Ka)), (v4, gI g 41 (kE Ka)), (v5, gI g 41 (kX Ka)), (v6, gI g 41 (kT Ka))] := hW
  refine W.eq (g2 := F0 m 6 ls [.int (iI 1)]) rfl ?_
  have hTB := hp
  refine q_if_eq (tgt := 24) S0 (by omega) dX11_slopeByHinges_6 (by decide) (fun c6 => ?_) (fun c6 => ?_)
  · skip
    exact absurd c6 (by omega)
  · skip
    refine lv_aload_n S0.1 S0.2.1 dX11_slopeByHinges_9 rfl (lv_at hl 0 rfl) ?_
    refine q_get (C := RX11) (T := TX11) (N := 26) S0 hK hW.1 hinX11 0 rfl rfl 14 (by decide) (List.mem_of_getElem? (i := 1) rfl) rfl rfl dX11_slopeByHinges_10 ?_
    refine q_sipush S0 (by decide) dX11_slopeByHinges_13 ?_
    refine lv_iload_n S0.1 S0.2.1 dX11_slopeByHinges_16 rfl (lv_at hl 1 rfl) ?_
    refine q_imul S0 dX11_slopeByHinges_17 ?_
    refine lv_iload_n S0.1 S0.2.1 dX11_slopeByHinges_18 rfl (lv_at hl 2 rfl) ?_
    refine q_iadd S0 dX11_slopeByHinges_19 ?_
    refine q_iald S0 hK hW.1 3 rfl (by omega) dX11_slopeByHinges_20 ?_
    refine q_topI (b := hh (fP F) (fE F) u.toNat x) ((hTB u x (by omega) (by omega) (by omega) (by omega)).2.1) ?_
    refine lv_goto (tgt := 25) S0.1 S0.2.1 dX11_slopeByHinges_21 (by decide) ?_
    exact q_iret S0 hr hlocks (Ka, ba) (hTB) (rfl) (hW.sub [0, 1, 2, 3, 4, 5, 6, 7, 8, 9, 10] rfl (rfl)) (Nat.le_of_ble_eq_true rfl) (Nat.le_of_ble_eq_true rfl) dX11_slopeByHinges_25
set_option maxHeartbeats 4000000 in
set_option maxRecDepth 100000 in
theorem c_X11_slopeByRules1 (l : Launch) (g : GG) (mo az ap ak ax a1 a2 a3 a4 a5 a6 v1 v2 v3 v4 v5 v6 : Nat) (pm ik ty th mn wt bn wh dp dg : Int) (Z : Nat → Int) (F : FT) (u x : Int) (hG : GF F) (hz : ZR Z F) (hu : (u < 0 ∨ 3 < u) ∧ -2147483648 ≤ u ∧ u < 2147483648) (hx : -2147483648 ≤ x ∧ x < 2147483648) : qMet l yX11_slopeByRules wsX11_slopeByRules ({ frames := 3, cells := 0, slots := 0, locals := 65 }) g [.ref mo, .int (iI u), .int (iI x)] [(mo, .inr (11, [.ref az, .ref ap, .int (iI pm), .ref ak, .int (iI ik), .ref ax, .int (iI ty), .int (iI th), .ref a1, .ref a2, .int (iI mn), .ref a3, .int (iI wt), .ref a4, .ref a5, .ref a6, .ref v1, .ref v2, .ref v3, .ref v4, .ref v5, .ref v6, .int (iI bn), .int (iI wh), .int (iI dp), .int (iI dg)])), (az, gI g 325 Z)] (fun _ => True) (fun _ => True) (S := Unit) (fun _ => some (.int (iI 0))) (fun _ => [(mo, .inr (11, [.ref az, .ref ap, .int (iI pm), .ref ak, .int (iI ik), .ref ax, .int (iI ty), .int (iI 1), .ref a1, .ref a2, .int (iI mn), .ref a3, .int (iI wt), .ref a4, .ref a5, .ref a6, .ref v1, .ref v2, .ref v3, .ref v4, .ref v5, .ref v6, .int (iI bn), .int (iI wh), .int (iI dp), .int (iI dg)])), (az, gI g 325 Z)]) (fun _ => True) 0 0 := by
  refine q_ofW (cc := cX11_slopeByRules) (maxL := 3) (ret := (some .int)) (fun sz h => h.self) (by decide) rfl (Nat.le_of_ble_eq_true rfl) ?_
  intro p e s m args below meth c A ls S0 hr hlocks hnme hK hA hAe hW hD0 hX hl
  have hW : gW g A s.heap s.heap [] [(mo, .inr (11, [.ref az, .ref ap, .int (iI pm), .ref ak, .int (iI ik), .ref ax, .int (iI ty), .int (iI th), .ref a1, .ref a2, .int (iI mn), .ref a3, .int (iI wt), .ref a4, .ref a5, .ref a6, .ref v1, .ref v2, .ref v3, .ref v4, .ref v5, .ref v6, .int (iI bn), .int (iI wh), .int (iI dp), .int (iI dg)])), (az, gI g 325 Z)] := hW
  have hl : lv_has ls 3 [(0, .ref mo), (1, .int (iI u)), (2, .int (iI x))] := hl
  refine lv_aload_n S0.1 S0.2.1 dX11_slopeByRules_0 rfl (lv_at hl 0 rfl) ?_
  refine lv_iload_n S0.1 S0.2.1 dX11_slopeByRules_1 rfl (lv_at hl 1 rfl) ?_
  refine lv_iload_n S0.1 S0.2.1 dX11_slopeByRules_2 rfl (lv_at hl 2 rfl) ?_
  refine q_cV (n := 2) (rest := []) (wr := []) S0 hK hA hW (c_X11_asksAt1 l g mo az ap ak ax a1 a2 a3 a4 a5 a6 v1 v2 v3 v4 v5 v6 pm ik ty th mn wt bn wh dp dg Z F u x (hG) (hz) (hu) (hx)) gX11_slopeByRules_X11_asksAt rfl rfl rfl (by decide +kernel) ⟨Nat.le_of_ble_eq_true rfl, Nat.le_of_ble_eq_true rfl⟩ [0, 1] [] rfl rfl rfl rfl (by decide) (q_recv hK hW.1 (ci := 11) (q0 := 0) rfl rfl) (fun _ _ => trivial) (trivial) rfl rfl hl.1 (Nat.le_of_ble_eq_true rfl) ⟨Nat.le_of_ble_eq_true rfl, Nat.le_of_ble_eq_true rfl⟩ dX11_slopeByRules_3 (fun _ H locs _ hW => ?_)
  have hW : gW g A s.heap H _ [(mo, .inr (11, [.ref az, .ref ap, .int (iI pm), .ref ak, .int (iI ik), .ref ax, .int (iI ty), .int (iI 1), .ref a1, .ref a2, .int (iI mn), .ref a3, .int (iI wt), .ref a4, .ref a5, .ref a6, .ref v1, .ref v2, .ref v3, .ref v4, .ref v5, .ref v6, .int (iI bn), .int (iI wh), .int (iI dp), .int (iI dg)])), (az, gI g 325 Z)] := hW
  refine W.eq (g2 := F0 m 6 ls [.int (iI 0)]) rfl ?_
  refine q_if_eq (tgt := 24) S0 (by omega) dX11_slopeByRules_6 (by decide) (fun c6 => ?_) (fun c6 => ?_)
  · skip
    refine q_iconst S0 dX11_slopeByRules_24 ?_
    exact q_iret S0 hr hlocks () (trivial) (rfl) (hW.sub [0, 1] rfl (rfl)) (Nat.le_of_ble_eq_true rfl) (Nat.le_of_ble_eq_true rfl) dX11_slopeByRules_25
  · skip
    exact absurd c6 (by omega)
set_option maxHeartbeats 4000000 in
set_option maxRecDepth 100000 in
theorem c_X11_slopeByRules2 (l : Launch) (g : GG) (mo az ap ak ax a1 a2 a3 a4 a5 a6 v1 v2 v3 v4 v5 v6 : Nat) (pm ik ty th mn wt bn wh dp dg : Int) (Z : Nat → Int) (F : FT) (u x : Int) (hG : GF F) (hz : ZR Z F) (hu : 0 ≤ u ∧ u < 4) (hx : (x < 0 ∨ fP F ≤ x) ∧ -2147483648 ≤ x ∧ x < 2147483648) : qMet l yX11_slopeByRules wsX11_slopeByRules ({ frames := 3, cells := 0, slots := 0, locals := 65 }) g [.ref mo, .int (iI u), .int (iI x)] [(mo, .inr (11, [.ref az, .ref ap, .int (iI pm), .ref ak, .int (iI ik), .ref ax, .int (iI ty), .int (iI th), .ref a1, .ref a2, .int (iI mn), .ref a3, .int (iI wt), .ref a4, .ref a5, .ref a6, .ref v1, .ref v2, .ref v3, .ref v4, .ref v5, .ref v6, .int (iI bn), .int (iI wh), .int (iI dp), .int (iI dg)])), (az, gI g 325 Z)] (fun _ => True) (fun _ => True) (S := Unit) (fun _ => some (.int (iI 0))) (fun _ => [(mo, .inr (11, [.ref az, .ref ap, .int (iI pm), .ref ak, .int (iI ik), .ref ax, .int (iI ty), .int (iI 2), .ref a1, .ref a2, .int (iI mn), .ref a3, .int (iI wt), .ref a4, .ref a5, .ref a6, .ref v1, .ref v2, .ref v3, .ref v4, .ref v5, .ref v6, .int (iI bn), .int (iI wh), .int (iI dp), .int (iI dg)])), (az, gI g 325 Z)]) (fun _ => True) 0 0 := by
  refine q_ofW (cc := cX11_slopeByRules) (maxL := 3) (ret := (some .int)) (fun sz h => h.self) (by decide) rfl (Nat.le_of_ble_eq_true rfl) ?_
  intro p e s m args below meth c A ls S0 hr hlocks hnme hK hA hAe hW hD0 hX hl
  have hW : gW g A s.heap s.heap [] [(mo, .inr (11, [.ref az, .ref ap, .int (iI pm), .ref ak, .int (iI ik), .ref ax, .int (iI ty), .int (iI th), .ref a1, .ref a2, .int (iI mn), .ref a3, .int (iI wt), .ref a4, .ref a5, .ref a6, .ref v1, .ref v2, .ref v3, .ref v4, .ref v5, .ref v6, .int (iI bn), .int (iI wh), .int (iI dp), .int (iI dg)])), (az, gI g 325 Z)] := hW
  have hl : lv_has ls 3 [(0, .ref mo), (1, .int (iI u)), (2, .int (iI x))] := hl
  refine lv_aload_n S0.1 S0.2.1 dX11_slopeByRules_0 rfl (lv_at hl 0 rfl) ?_
  refine lv_iload_n S0.1 S0.2.1 dX11_slopeByRules_1 rfl (lv_at hl 1 rfl) ?_
  refine lv_iload_n S0.1 S0.2.1 dX11_slopeByRules_2 rfl (lv_at hl 2 rfl) ?_
  refine q_cV (n := 2) (rest := []) (wr := []) S0 hK hA hW (c_X11_asksAt2 l g mo az ap ak ax a1 a2 a3 a4 a5 a6 v1 v2 v3 v4 v5 v6 pm ik ty th mn wt bn wh dp dg Z F u x (hG) (hz) (hu) (hx)) gX11_slopeByRules_X11_asksAt rfl rfl rfl (by decide +kernel) ⟨Nat.le_of_ble_eq_true rfl, Nat.le_of_ble_eq_true rfl⟩ [0, 1] [] rfl rfl rfl rfl (by decide) (q_recv hK hW.1 (ci := 11) (q0 := 0) rfl rfl) (fun _ _ => trivial) (trivial) rfl rfl hl.1 (Nat.le_of_ble_eq_true rfl) ⟨Nat.le_of_ble_eq_true rfl, Nat.le_of_ble_eq_true rfl⟩ dX11_slopeByRules_3 (fun _ H locs _ hW => ?_)
  have hW : gW g A s.heap H _ [(mo, .inr (11, [.ref az, .ref ap, .int (iI pm), .ref ak, .int (iI ik), .ref ax, .int (iI ty), .int (iI 2), .ref a1, .ref a2, .int (iI mn), .ref a3, .int (iI wt), .ref a4, .ref a5, .ref a6, .ref v1, .ref v2, .ref v3, .ref v4, .ref v5, .ref v6, .int (iI bn), .int (iI wh), .int (iI dp), .int (iI dg)])), (az, gI g 325 Z)] := hW
  refine W.eq (g2 := F0 m 6 ls [.int (iI 0)]) rfl ?_
  refine q_if_eq (tgt := 24) S0 (by omega) dX11_slopeByRules_6 (by decide) (fun c6 => ?_) (fun c6 => ?_)
  · skip
    refine q_iconst S0 dX11_slopeByRules_24 ?_
    exact q_iret S0 hr hlocks () (trivial) (rfl) (hW.sub [0, 1] rfl (rfl)) (Nat.le_of_ble_eq_true rfl) (Nat.le_of_ble_eq_true rfl) dX11_slopeByRules_25
  · skip
    exact absurd c6 (by omega)
set_option maxHeartbeats 4000000 in
set_option maxRecDepth 100000 in
theorem c_X11_slopeByRules0 (l : Launch) (g : GG) (mo az ap ak ax a1 a2 a3 a4 a5 a6 v1 v2 v3 v4 v5 v6 : Nat) (pm ik ty th mn wt bn wh dp dg : Int) (Z : Nat → Int) (F : FT) (K : KT) (u x : Int) (hG : GF F) (hz : ZR Z F) (hlk : LKG F) (hu : 0 ≤ u ∧ u < 4) (hx : 0 ≤ x ∧ x < fP F) : qMet l yX11_slopeByRules wsX11_slopeByRules ({ frames := 6, cells := 0, slots := 0, locals := 146 }) g [.ref mo, .int (iI u), .int (iI x)] [(mo, .inr (11, [.ref az, .ref ap, .int (iI pm), .ref ak, .int (iI ik), .ref ax, .int (iI ty), .int (iI th), .ref a1, .ref a2, .int (iI mn), .ref a3, .int (iI wt), .ref a4, .ref a5, .ref a6, .ref v1, .ref v2, .ref v3, .ref v4, .ref v5, .ref v6, .int (iI bn), .int (iI wh), .int (iI dp), .int (iI dg)])), (az, gI g 325 Z), (a4, gI g 796 (kV K)), (a5, gI g 796 (kH K)), (a6, gI g 796 (kR K)), (v1, gI g 41 (kW K)), (v2, gI g 41 (kS K)), (v3, gI g 41 (kL K)), (v4, gI g 41 (kE K)), (v5, gI g 41 (kX K)), (v6, gI g 41 (kT K))] (fun _ => True) (fun _ => True) (S := KT × Int) (fun u_ => some (.int (iI (hh (fP F) (fE F) u.toNat x)))) (fun u_ => [(mo, .inr (11, [.ref az, .ref ap, .int (iI pm), .ref ak, .int (iI ik), .ref ax, .int (iI ty), .int (iI 0), .ref a1, .ref a2, .int (iI mn), .ref a3, .int (iI wt), .ref a4, .ref a5, .ref a6, .ref v1, .ref v2, .ref v3, .ref v4, .ref v5, .ref v6, .int (iI u_.2), .int (iI wh), .int (iI dp), .int (iI dg)])), (az, gI g 325 Z), (a4, gI g 796 (kV u_.1)), (a5, gI g 796 (kH u_.1)), (a6, gI g 796 (kR u_.1)), (v1, gI g 41 (kW u_.1)), (v2, gI g 41 (kS u_.1)), (v3, gI g 41 (kL u_.1)), (v4, gI g 41 (kE u_.1)), (v5, gI g 41 (kX u_.1)), (v6, gI g 41 (kT u_.1))]) (fun u_ => TB F (u + 1) (kV u_.1) (kH u_.1) (kR u_.1)) 0 0 := by
  refine q_ofW (cc := cX11_slopeByRules) (maxL := 3) (ret := (some .int)) (fun sz h => h.self) (by decide) rfl (Nat.le_of_ble_eq_true rfl) ?_
  intro p e s m args below meth c A ls S0 hr hlocks hnme hK hA hAe hW hD0 hX hl
  have hW : gW g A s.heap s.heap [] [(mo, .inr (11, [.ref az, .ref ap, .int (iI pm), .ref ak, .int (iI ik), .ref ax, .int (iI ty), .int (iI th), .ref a1, .ref a2, .int (iI mn), .ref a3, .int (iI wt), .ref a4, .ref a5, .ref a6, .ref v1, .ref v2, .ref v3, .ref v4, .ref v5, .ref v6, .int (iI bn), .int (iI wh), .int (iI dp), .int (iI dg)])), (az, gI g 325 Z), (a4, gI g 796 (kV K)), (a5, gI g 796 (kH K)), (a6, gI g 796 (kR K)), (v1, gI g 41 (kW K)), (v2, gI g 41 (kS K)), (v3, gI g 41 (kL K)), (v4, gI g 41 (kE K)), (v5, gI g 41 (kX K)), (v6, gI g 41 (kT K))] := hW
  have hl : lv_has ls 3 [(0, .ref mo), (1, .int (iI u)), (2, .int (iI x))] := hl
  have hinX11 : ∀ w ∈ wsX110, w ∈ wsX11_slopeByRules := fun w h => List.mem_cons_of_mem _ (List.mem_append_right _ h)
  have hpr := GF_p hG
  refine lv_aload_n S0.1 S0.2.1 dX11_slopeByRules_0 rfl (lv_at hl 0 rfl) ?_
  refine lv_iload_n S0.1 S0.2.1 dX11_slopeByRules_1 rfl (lv_at hl 1 rfl) ?_
  refine lv_iload_n S0.1 S0.2.1 dX11_slopeByRules_2 rfl (lv_at hl 2 rfl) ?_
  refine q_cV (n := 2) (rest := []) (wr := []) S0 hK hA hW (c_X11_asksAt0 l g mo az ap ak ax a1 a2 a3 a4 a5 a6 v1 v2 v3 v4 v5 v6 pm ik ty th mn wt bn wh dp dg Z F K u x (hG) (hz) (hlk) (hu) (hx)) gX11_slopeByRules_X11_asksAt rfl rfl rfl (by decide +kernel) ⟨Nat.le_of_ble_eq_true rfl, Nat.le_of_ble_eq_true rfl⟩ [0, 1, 2, 3, 4, 5, 6, 7, 8, 9, 10] [] rfl rfl rfl rfl (by decide) (q_recv hK hW.1 (ci := 11) (q0 := 0) rfl rfl) (fun _ _ => trivial) (trivial) rfl rfl hl.1 (Nat.le_of_ble_eq_true rfl) ⟨Nat.le_of_ble_eq_true rfl, Nat.le_of_ble_eq_true rfl⟩ dX11_slopeByRules_3 ?_
  rintro ⟨Ka, ba⟩ H locs hp hW
  try dsimp only at hp
  have hW : gW g A s.heap H _ [(mo, .inr (11, [.ref az, .ref ap, .int (iI pm), .ref ak, .int (iI ik), .ref ax, .int (iI ty), .int (iI 0), .ref a1, .ref a2, .int (iI mn), .ref a3, .int (iI wt), .ref a4, .ref a5, .ref a6, .ref v1, .ref v2, .ref v3, .ref v4, .ref v5, .ref v6, .int (iI ba), .int (iI wh), .int (iI dp), .int (iI dg)])), (az, gI g 325 Z), (a4, gI g 796 (kV Ka)), (a5, gI g 796 (kH Ka)), (a6, gI g 796 (kR Ka)), (v1, gI g 41 (kW Ka)), (v2, gI g 41 (kS Ka)), (v3, gI g 41 (kL Ka)), (v4, gI g 41 (kE Ka)), (v5, gI g 41 (kX Ka)), (v6, gI g 41 (kT Ka))] := hW
  refine W.eq (g2 := F0 m 6 ls [.int (iI 1)]) rfl ?_
  have hTB := hp
  refine q_if_eq (tgt := 24) S0 (by omega) dX11_slopeByRules_6 (by decide) (fun c6 => ?_) (fun c6 => ?_)
  · skip
    exact absurd c6 (by omega)
  · skip
    refine lv_aload_n S0.1 S0.2.1 dX11_slopeByRules_9 rfl (lv_at hl 0 rfl) ?_
    refine q_get (C := RX11) (T := TX11) (N := 26) S0 hK hW.1 hinX11 0 rfl rfl 15 (by decide) (List.mem_of_getElem? (i := 1) rfl) rfl rfl dX11_slopeByRules_10 ?_
    refine q_sipush S0 (by decide) dX11_slopeByRules_13 ?_
    refine lv_iload_n S0.1 S0.2.1 dX11_slopeByRules_16 rfl (lv_at hl 1 rfl) ?_
    refine q_imul S0 dX11_slopeByRules_17 ?_
    refine lv_iload_n S0.1 S0.2.1 dX11_slopeByRules_18 rfl (lv_at hl 2 rfl) ?_
    refine q_iadd S0 dX11_slopeByRules_19 ?_
    refine q_iald S0 hK hW.1 4 rfl (by omega) dX11_slopeByRules_20 ?_
    refine q_topI (b := hh (fP F) (fE F) u.toNat x) ((hTB u x (by omega) (by omega) (by omega) (by omega)).2.2) ?_
    refine lv_goto (tgt := 25) S0.1 S0.2.1 dX11_slopeByRules_21 (by decide) ?_
    exact q_iret S0 hr hlocks (Ka, ba) (hTB) (rfl) (hW.sub [0, 1, 2, 3, 4, 5, 6, 7, 8, 9, 10] rfl (rfl)) (Nat.le_of_ble_eq_true rfl) (Nat.le_of_ble_eq_true rfl) dX11_slopeByRules_25
set_option maxHeartbeats 4000000 in
set_option maxRecDepth 100000 in
theorem c_X11_next (l : Launch) (g : GG) (mo az ap ak ax a1 a2 a3 a4 a5 a6 v1 v2 v3 v4 v5 v6 : Nat) (pm ik ty th mn wt bn wh dp dg : Int) (Z : Nat → Int) (F : FT) (K : KT) (u x : Int) (hG : GF F) (hz : ZR Z F) (hu : 0 ≤ u ∧ u < 4) (hx : 0 ≤ x ∧ x < fP F) (hTB : TB F (u + 1) (kV K) (kH K) (kR K)) : qPure l yX11_next wsX11_next ({ frames := 2, cells := 0, slots := 0, locals := 44 }) g [.ref mo, .int (iI u), .int (iI x)] [(mo, .inr (11, [.ref az, .ref ap, .int (iI pm), .ref ak, .int (iI ik), .ref ax, .int (iI ty), .int (iI th), .ref a1, .ref a2, .int (iI mn), .ref a3, .int (iI wt), .ref a4, .ref a5, .ref a6, .ref v1, .ref v2, .ref v3, .ref v4, .ref v5, .ref v6, .int (iI bn), .int (iI wh), .int (iI dp), .int (iI dg)])), (az, gI g 325 Z), (a4, gI g 796 (kV K)), (a6, gI g 796 (kR K))] (fun _ => True) (some (.int (iI (nxF F u x)))) := by
  refine q_ofP (cc := cX11_next) (maxL := 5) (ret := (some .int)) (by decide) rfl (Nat.le_of_ble_eq_true rfl) ?_
  intro p e s m args below meth c ls S0 hr hlocks hK hP hX hl
  have hP : va_P g.1 vwCl [(mo, .inr (11, [.ref az, .ref ap, .int (iI pm), .ref ak, .int (iI ik), .ref ax, .int (iI ty), .int (iI th), .ref a1, .ref a2, .int (iI mn), .ref a3, .int (iI wt), .ref a4, .ref a5, .ref a6, .ref v1, .ref v2, .ref v3, .ref v4, .ref v5, .ref v6, .int (iI bn), .int (iI wh), .int (iI dp), .int (iI dg)])), (az, gI g 325 Z), (a4, gI g 796 (kV K)), (a6, gI g 796 (kR K))] s.heap := hP
  have hl : lv_has ls 5 [(0, .ref mo), (1, .int (iI u)), (2, .int (iI x))] := hl
  have hinX11 : ∀ w ∈ wsX110, w ∈ wsX11_next := fun w h => List.mem_cons_of_mem _ (List.mem_append_right _ h)
  have hpr := GF_p hG
  refine lv_aload_n S0.1 S0.2.1 dX11_next_0 rfl (lv_at hl 0 rfl) ?_
  refine q_get (C := RX11) (T := TX11) (N := 26) S0 hK hP hinX11 0 rfl rfl 13 (by decide) (List.mem_of_getElem? (i := 1) rfl) rfl rfl dX11_next_1 ?_
  refine q_sipush S0 (by decide) dX11_next_4 ?_
  refine lv_iload_n S0.1 S0.2.1 dX11_next_7 rfl (lv_at hl 1 rfl) ?_
  refine q_imul S0 dX11_next_8 ?_
  refine lv_iload_n S0.1 S0.2.1 dX11_next_9 rfl (lv_at hl 2 rfl) ?_
  refine q_iadd S0 dX11_next_10 ?_
  refine q_iald S0 hK hP 2 rfl (by omega) dX11_next_11 ?_
  refine q_topI (b := vv (fP F) (fE F) u.toNat x) ((hTB u x (by omega) (by omega) (by omega) (by omega)).1) ?_
  refine q_nm (fun v9 hv9 => ?_)
  refine lv_istore_n (lv' := [(3, .int (iI v9)), (0, .ref mo), (1, .int (iI u)), (2, .int (iI x))]) S0.1 S0.2.1 dX11_next_12 rfl hl (by decide) rfl (fun ls hl => ?_)
  refine lv_aload_n S0.1 S0.2.1 dX11_next_13 rfl (lv_at hl 1 rfl) ?_
  refine q_get (C := RX11) (T := TX11) (N := 26) S0 hK hP hinX11 0 rfl rfl 15 (by decide) (List.mem_of_getElem? (i := 2) rfl) rfl rfl dX11_next_14 ?_
  refine q_sipush S0 (by decide) dX11_next_17 ?_
  refine lv_iload_n S0.1 S0.2.1 dX11_next_20 rfl (lv_at hl 2 rfl) ?_
  refine q_imul S0 dX11_next_21 ?_
  refine lv_iload_n S0.1 S0.2.1 dX11_next_22 rfl (lv_at hl 3 rfl) ?_
  refine q_iadd S0 dX11_next_23 ?_
  refine q_iald S0 hK hP 3 rfl (by omega) dX11_next_24 ?_
  refine q_topI (b := hh (fP F) (fE F) u.toNat x) ((hTB u x (by omega) (by omega) (by omega) (by omega)).2.2) ?_
  refine q_nm (fun s9 hs9 => ?_)
  have hbi := hh_bad_iff hG (f := u.toNat) (x := x) (by omega) hx
  have hvr := GF_vv hG hu hx
  have hhr := GF_hh hG (f := u.toNat) (x := x) (by omega)
  rw [← hv9] at hvr hbi
  rw [← hs9] at hhr hbi
  refine lv_istore (lv' := [(4, .int (iI s9)), (3, .int (iI v9)), (0, .ref mo), (1, .int (iI u)), (2, .int (iI x))]) S0.1 S0.2.1 dX11_next_25 hl (by decide) rfl (fun ls hl => ?_)
  refine lv_iload_n S0.1 S0.2.1 dX11_next_27 rfl (lv_at hl 1 rfl) ?_
  refine q_iconst S0 dX11_next_28 ?_
  refine q_icmp_eq (tgt := 37) S0 (by omega) dX11_next_29 (by decide) (fun c29 => ?_) (fun c29 => ?_)
  · skip
    refine q_iconst S0 dX11_next_37 ?_
    refine lv_goto (tgt := 55) S0.1 S0.2.1 dX11_next_38 (by decide) ?_
    exact qp_iret S0 hr hlocks (by unfold nxF; rw [← hv9, ← hs9]; first | (rw [if_pos (by omega)]; done) | (rw [if_neg (by omega), nx_eq]; done)) dX11_next_55
  · skip
    refine lv_iload S0.1 S0.2.1 dX11_next_32 (lv_at hl 0 rfl) ?_
    refine q_if_ne (tgt := 41) S0 (by omega) dX11_next_34 (by decide) (fun c34 => ?_) (fun c34 => ?_)
    · skip
      refine lv_aload_n S0.1 S0.2.1 dX11_next_41 rfl (lv_at hl 2 rfl) ?_
      refine lv_iload_n S0.1 S0.2.1 dX11_next_42 rfl (lv_at hl 4 rfl) ?_
      refine lv_iload_n S0.1 S0.2.1 dX11_next_43 rfl (lv_at hl 1 rfl) ?_
      refine lv_aload_n S0.1 S0.2.1 dX11_next_44 rfl (lv_at hl 2 rfl) ?_
      refine lv_iload S0.1 S0.2.1 dX11_next_45 (lv_at hl 0 rfl) ?_
      refine q_pV (n := 1) (rest := [.int (iI v9), .int (iI x), .ref mo]) S0 hK (c_X11_inverse l g mo az ap ak ax a1 a2 a3 a4 a5 a6 v1 v2 v3 v4 v5 v6 pm ik ty th mn wt bn wh dp dg Z (fP F) s9 (hG.1) (hz.1) (by omega)) (subP hP [0, 1] rfl) (trivial) gX11_next_X11_inverse rfl rfl rfl (by decide +kernel) ⟨Nat.le_of_ble_eq_true rfl, Nat.le_of_ble_eq_true rfl⟩ (q_recv hK hP (ci := 11) (q0 := 0) rfl rfl) rfl rfl hl.1 (Nat.le_of_ble_eq_true rfl) ⟨Nat.le_of_ble_eq_true rfl, Nat.le_of_ble_eq_true rfl⟩ dX11_next_47 ?_
      refine W.eq (g2 := F0 m 50 ls [.int (iI (inv' (fP F) s9)), .int (iI v9), .int (iI x), .ref mo]) rfl ?_
      refine q_imul S0 dX11_next_50 ?_
      refine q_isub S0 dX11_next_51 ?_
      have hir := inv_pos hG.1 (v := s9) (by omega)
      have hm1 := mul_rng (a := v9) (b := inv' (fP F) s9) (n := 200) (k := 200) (by omega) (by omega)
      refine q_pV (n := 1) (rest := []) S0 hK (c_X11_p l g mo az ap ak ax a1 a2 a3 a4 a5 a6 v1 v2 v3 v4 v5 v6 pm ik ty th mn wt bn wh dp dg Z (fP F) (x - (v9 * (inv' (fP F) s9))) (hpr) (hz.1) (by omega)) (subP hP [0, 1] rfl) (trivial) gX11_next_X11_p rfl rfl rfl (by decide +kernel) ⟨Nat.le_of_ble_eq_true rfl, Nat.le_of_ble_eq_true rfl⟩ (q_recv hK hP (ci := 11) (q0 := 0) rfl rfl) rfl rfl hl.1 (Nat.le_of_ble_eq_true rfl) ⟨Nat.le_of_ble_eq_true rfl, Nat.le_of_ble_eq_true rfl⟩ dX11_next_52 ?_
      refine W.eq (g2 := F0 m 55 ls [.int (iI ((x - (v9 * (inv' (fP F) s9))) % (fP F)))]) rfl ?_
      exact qp_iret S0 hr hlocks (by unfold nxF; rw [← hv9, ← hs9]; first | (rw [if_pos (by omega)]; done) | (rw [if_neg (by omega), nx_eq]; done)) dX11_next_55
    · skip
      refine q_iconst S0 dX11_next_37 ?_
      refine lv_goto (tgt := 55) S0.1 S0.2.1 dX11_next_38 (by decide) ?_
      exact qp_iret S0 hr hlocks (by unfold nxF; rw [← hv9, ← hs9]; first | (rw [if_pos (by omega)]; done) | (rw [if_neg (by omega), nx_eq]; done)) dX11_next_55
set_option maxHeartbeats 4000000 in
set_option maxRecDepth 100000 in
theorem c_X11_step1 (l : Launch) (g : GG) (mo az ap ak ax a1 a2 a3 a4 a5 a6 v1 v2 v3 v4 v5 v6 : Nat) (pm ik ty th mn wt bn wh dp dg : Int) (Z : Nat → Int) (F : FT) (u x : Int) (hG : GF F) (hz : ZR Z F) (hu : (u < 0 ∨ 3 < u) ∧ -2147483648 ≤ u ∧ u < 2147483648) (hx : -2147483648 ≤ x ∧ x < 2147483648) : qMet l yX11_step wsX11_step ({ frames := 3, cells := 0, slots := 0, locals := 65 }) g [.ref mo, .int (iI u), .int (iI x)] [(mo, .inr (11, [.ref az, .ref ap, .int (iI pm), .ref ak, .int (iI ik), .ref ax, .int (iI ty), .int (iI th), .ref a1, .ref a2, .int (iI mn), .ref a3, .int (iI wt), .ref a4, .ref a5, .ref a6, .ref v1, .ref v2, .ref v3, .ref v4, .ref v5, .ref v6, .int (iI bn), .int (iI wh), .int (iI dp), .int (iI dg)])), (az, gI g 325 Z)] (fun _ => True) (fun _ => True) (S := Unit) (fun _ => some (.int (iI 0))) (fun _ => [(mo, .inr (11, [.ref az, .ref ap, .int (iI pm), .ref ak, .int (iI ik), .ref ax, .int (iI ty), .int (iI 1), .ref a1, .ref a2, .int (iI mn), .ref a3, .int (iI wt), .ref a4, .ref a5, .ref a6, .ref v1, .ref v2, .ref v3, .ref v4, .ref v5, .ref v6, .int (iI bn), .int (iI wh), .int (iI dp), .int (iI dg)])), (az, gI g 325 Z)]) (fun _ => True) 0 0 := by
  refine q_ofW (cc := cX11_step) (maxL := 3) (ret := (some .int)) (fun sz h => h.self) (by decide) rfl (Nat.le_of_ble_eq_true rfl) ?_
  intro p e s m args below meth c A ls S0 hr hlocks hnme hK hA hAe hW hD0 hX hl
  have hW : gW g A s.heap s.heap [] [(mo, .inr (11, [.ref az, .ref ap, .int (iI pm), .ref ak, .int (iI ik), .ref ax, .int (iI ty), .int (iI th), .ref a1, .ref a2, .int (iI mn), .ref a3, .int (iI wt), .ref a4, .ref a5, .ref a6, .ref v1, .ref v2, .ref v3, .ref v4, .ref v5, .ref v6, .int (iI bn), .int (iI wh), .int (iI dp), .int (iI dg)])), (az, gI g 325 Z)] := hW
  have hl : lv_has ls 3 [(0, .ref mo), (1, .int (iI u)), (2, .int (iI x))] := hl
  refine lv_aload_n S0.1 S0.2.1 dX11_step_0 rfl (lv_at hl 0 rfl) ?_
  refine lv_iload_n S0.1 S0.2.1 dX11_step_1 rfl (lv_at hl 1 rfl) ?_
  refine lv_iload_n S0.1 S0.2.1 dX11_step_2 rfl (lv_at hl 2 rfl) ?_
  refine q_cV (n := 2) (rest := []) (wr := []) S0 hK hA hW (c_X11_asksAt1 l g mo az ap ak ax a1 a2 a3 a4 a5 a6 v1 v2 v3 v4 v5 v6 pm ik ty th mn wt bn wh dp dg Z F u x (hG) (hz) (hu) (hx)) gX11_step_X11_asksAt rfl rfl rfl (by decide +kernel) ⟨Nat.le_of_ble_eq_true rfl, Nat.le_of_ble_eq_true rfl⟩ [0, 1] [] rfl rfl rfl rfl (by decide) (q_recv hK hW.1 (ci := 11) (q0 := 0) rfl rfl) (fun _ _ => trivial) (trivial) rfl rfl hl.1 (Nat.le_of_ble_eq_true rfl) ⟨Nat.le_of_ble_eq_true rfl, Nat.le_of_ble_eq_true rfl⟩ dX11_step_3 (fun _ H locs _ hW => ?_)
  have hW : gW g A s.heap H _ [(mo, .inr (11, [.ref az, .ref ap, .int (iI pm), .ref ak, .int (iI ik), .ref ax, .int (iI ty), .int (iI 1), .ref a1, .ref a2, .int (iI mn), .ref a3, .int (iI wt), .ref a4, .ref a5, .ref a6, .ref v1, .ref v2, .ref v3, .ref v4, .ref v5, .ref v6, .int (iI bn), .int (iI wh), .int (iI dp), .int (iI dg)])), (az, gI g 325 Z)] := hW
  refine W.eq (g2 := F0 m 6 ls [.int (iI 0)]) rfl ?_
  refine q_if_eq (tgt := 18) S0 (by omega) dX11_step_6 (by decide) (fun c6 => ?_) (fun c6 => ?_)
  · skip
    refine q_iconst S0 dX11_step_18 ?_
    exact q_iret S0 hr hlocks () (trivial) (rfl) (hW.sub [0, 1] rfl (rfl)) (Nat.le_of_ble_eq_true rfl) (Nat.le_of_ble_eq_true rfl) dX11_step_19
  · skip
    exact absurd c6 (by omega)
set_option maxHeartbeats 4000000 in
set_option maxRecDepth 100000 in
theorem c_X11_step2 (l : Launch) (g : GG) (mo az ap ak ax a1 a2 a3 a4 a5 a6 v1 v2 v3 v4 v5 v6 : Nat) (pm ik ty th mn wt bn wh dp dg : Int) (Z : Nat → Int) (F : FT) (u x : Int) (hG : GF F) (hz : ZR Z F) (hu : 0 ≤ u ∧ u < 4) (hx : (x < 0 ∨ fP F ≤ x) ∧ -2147483648 ≤ x ∧ x < 2147483648) : qMet l yX11_step wsX11_step ({ frames := 3, cells := 0, slots := 0, locals := 65 }) g [.ref mo, .int (iI u), .int (iI x)] [(mo, .inr (11, [.ref az, .ref ap, .int (iI pm), .ref ak, .int (iI ik), .ref ax, .int (iI ty), .int (iI th), .ref a1, .ref a2, .int (iI mn), .ref a3, .int (iI wt), .ref a4, .ref a5, .ref a6, .ref v1, .ref v2, .ref v3, .ref v4, .ref v5, .ref v6, .int (iI bn), .int (iI wh), .int (iI dp), .int (iI dg)])), (az, gI g 325 Z)] (fun _ => True) (fun _ => True) (S := Unit) (fun _ => some (.int (iI 0))) (fun _ => [(mo, .inr (11, [.ref az, .ref ap, .int (iI pm), .ref ak, .int (iI ik), .ref ax, .int (iI ty), .int (iI 2), .ref a1, .ref a2, .int (iI mn), .ref a3, .int (iI wt), .ref a4, .ref a5, .ref a6, .ref v1, .ref v2, .ref v3, .ref v4, .ref v5, .ref v6, .int (iI bn), .int (iI wh), .int (iI dp), .int (iI dg)])), (az, gI g 325 Z)]) (fun _ => True) 0 0 := by
  refine q_ofW (cc := cX11_step) (maxL := 3) (ret := (some .int)) (fun sz h => h.self) (by decide) rfl (Nat.le_of_ble_eq_true rfl) ?_
  intro p e s m args below meth c A ls S0 hr hlocks hnme hK hA hAe hW hD0 hX hl
  have hW : gW g A s.heap s.heap [] [(mo, .inr (11, [.ref az, .ref ap, .int (iI pm), .ref ak, .int (iI ik), .ref ax, .int (iI ty), .int (iI th), .ref a1, .ref a2, .int (iI mn), .ref a3, .int (iI wt), .ref a4, .ref a5, .ref a6, .ref v1, .ref v2, .ref v3, .ref v4, .ref v5, .ref v6, .int (iI bn), .int (iI wh), .int (iI dp), .int (iI dg)])), (az, gI g 325 Z)] := hW
  have hl : lv_has ls 3 [(0, .ref mo), (1, .int (iI u)), (2, .int (iI x))] := hl
  refine lv_aload_n S0.1 S0.2.1 dX11_step_0 rfl (lv_at hl 0 rfl) ?_
  refine lv_iload_n S0.1 S0.2.1 dX11_step_1 rfl (lv_at hl 1 rfl) ?_
  refine lv_iload_n S0.1 S0.2.1 dX11_step_2 rfl (lv_at hl 2 rfl) ?_
  refine q_cV (n := 2) (rest := []) (wr := []) S0 hK hA hW (c_X11_asksAt2 l g mo az ap ak ax a1 a2 a3 a4 a5 a6 v1 v2 v3 v4 v5 v6 pm ik ty th mn wt bn wh dp dg Z F u x (hG) (hz) (hu) (hx)) gX11_step_X11_asksAt rfl rfl rfl (by decide +kernel) ⟨Nat.le_of_ble_eq_true rfl, Nat.le_of_ble_eq_true rfl⟩ [0, 1] [] rfl rfl rfl rfl (by decide) (q_recv hK hW.1 (ci := 11) (q0 := 0) rfl rfl) (fun _ _ => trivial) (trivial) rfl rfl hl.1 (Nat.le_of_ble_eq_true rfl) ⟨Nat.le_of_ble_eq_true rfl, Nat.le_of_ble_eq_true rfl⟩ dX11_step_3 (fun _ H locs _ hW => ?_)
  have hW : gW g A s.heap H _ [(mo, .inr (11, [.ref az, .ref ap, .int (iI pm), .ref ak, .int (iI ik), .ref ax, .int (iI ty), .int (iI 2), .ref a1, .ref a2, .int (iI mn), .ref a3, .int (iI wt), .ref a4, .ref a5, .ref a6, .ref v1, .ref v2, .ref v3, .ref v4, .ref v5, .ref v6, .int (iI bn), .int (iI wh), .int (iI dp), .int (iI dg)])), (az, gI g 325 Z)] := hW
  refine W.eq (g2 := F0 m 6 ls [.int (iI 0)]) rfl ?_
  refine q_if_eq (tgt := 18) S0 (by omega) dX11_step_6 (by decide) (fun c6 => ?_) (fun c6 => ?_)
  · skip
    refine q_iconst S0 dX11_step_18 ?_
    exact q_iret S0 hr hlocks () (trivial) (rfl) (hW.sub [0, 1] rfl (rfl)) (Nat.le_of_ble_eq_true rfl) (Nat.le_of_ble_eq_true rfl) dX11_step_19
  · skip
    exact absurd c6 (by omega)
set_option maxHeartbeats 4000000 in
set_option maxRecDepth 100000 in
theorem c_X11_step0 (l : Launch) (g : GG) (mo az ap ak ax a1 a2 a3 a4 a5 a6 v1 v2 v3 v4 v5 v6 : Nat) (pm ik ty th mn wt bn wh dp dg : Int) (Z : Nat → Int) (F : FT) (K : KT) (u x : Int) (hG : GF F) (hz : ZR Z F) (hlk : LKG F) (hu : 0 ≤ u ∧ u < 4) (hx : 0 ≤ x ∧ x < fP F) : qMet l yX11_step wsX11_step ({ frames := 6, cells := 0, slots := 0, locals := 146 }) g [.ref mo, .int (iI u), .int (iI x)] [(mo, .inr (11, [.ref az, .ref ap, .int (iI pm), .ref ak, .int (iI ik), .ref ax, .int (iI ty), .int (iI th), .ref a1, .ref a2, .int (iI mn), .ref a3, .int (iI wt), .ref a4, .ref a5, .ref a6, .ref v1, .ref v2, .ref v3, .ref v4, .ref v5, .ref v6, .int (iI bn), .int (iI wh), .int (iI dp), .int (iI dg)])), (az, gI g 325 Z), (a4, gI g 796 (kV K)), (a5, gI g 796 (kH K)), (a6, gI g 796 (kR K)), (v1, gI g 41 (kW K)), (v2, gI g 41 (kS K)), (v3, gI g 41 (kL K)), (v4, gI g 41 (kE K)), (v5, gI g 41 (kX K)), (v6, gI g 41 (kT K))] (fun _ => True) (fun _ => True) (S := KT × Int) (fun u_ => some (.int (iI (nxF F u x)))) (fun u_ => [(mo, .inr (11, [.ref az, .ref ap, .int (iI pm), .ref ak, .int (iI ik), .ref ax, .int (iI ty), .int (iI 0), .ref a1, .ref a2, .int (iI mn), .ref a3, .int (iI wt), .ref a4, .ref a5, .ref a6, .ref v1, .ref v2, .ref v3, .ref v4, .ref v5, .ref v6, .int (iI u_.2), .int (iI wh), .int (iI dp), .int (iI dg)])), (az, gI g 325 Z), (a4, gI g 796 (kV u_.1)), (a5, gI g 796 (kH u_.1)), (a6, gI g 796 (kR u_.1)), (v1, gI g 41 (kW u_.1)), (v2, gI g 41 (kS u_.1)), (v3, gI g 41 (kL u_.1)), (v4, gI g 41 (kE u_.1)), (v5, gI g 41 (kX u_.1)), (v6, gI g 41 (kT u_.1))]) (fun u_ => TB F (u + 1) (kV u_.1) (kH u_.1) (kR u_.1)) 0 0 := by
  refine q_ofW (cc := cX11_step) (maxL := 3) (ret := (some .int)) (fun sz h => h.self) (by decide) rfl (Nat.le_of_ble_eq_true rfl) ?_
  intro p e s m args below meth c A ls S0 hr hlocks hnme hK hA hAe hW hD0 hX hl
  have hW : gW g A s.heap s.heap [] [(mo, .inr (11, [.ref az, .ref ap, .int (iI pm), .ref ak, .int (iI ik), .ref ax, .int (iI ty), .int (iI th), .ref a1, .ref a2, .int (iI mn), .ref a3, .int (iI wt), .ref a4, .ref a5, .ref a6, .ref v1, .ref v2, .ref v3, .ref v4, .ref v5, .ref v6, .int (iI bn), .int (iI wh), .int (iI dp), .int (iI dg)])), (az, gI g 325 Z), (a4, gI g 796 (kV K)), (a5, gI g 796 (kH K)), (a6, gI g 796 (kR K)), (v1, gI g 41 (kW K)), (v2, gI g 41 (kS K)), (v3, gI g 41 (kL K)), (v4, gI g 41 (kE K)), (v5, gI g 41 (kX K)), (v6, gI g 41 (kT K))] := hW
  have hl : lv_has ls 3 [(0, .ref mo), (1, .int (iI u)), (2, .int (iI x))] := hl
  have hpr := GF_p hG
  refine lv_aload_n S0.1 S0.2.1 dX11_step_0 rfl (lv_at hl 0 rfl) ?_
  refine lv_iload_n S0.1 S0.2.1 dX11_step_1 rfl (lv_at hl 1 rfl) ?_
  refine lv_iload_n S0.1 S0.2.1 dX11_step_2 rfl (lv_at hl 2 rfl) ?_
  refine q_cV (n := 2) (rest := []) (wr := []) S0 hK hA hW (c_X11_asksAt0 l g mo az ap ak ax a1 a2 a3 a4 a5 a6 v1 v2 v3 v4 v5 v6 pm ik ty th mn wt bn wh dp dg Z F K u x (hG) (hz) (hlk) (hu) (hx)) gX11_step_X11_asksAt rfl rfl rfl (by decide +kernel) ⟨Nat.le_of_ble_eq_true rfl, Nat.le_of_ble_eq_true rfl⟩ [0, 1, 2, 3, 4, 5, 6, 7, 8, 9, 10] [] rfl rfl rfl rfl (by decide) (q_recv hK hW.1 (ci := 11) (q0 := 0) rfl rfl) (fun _ _ => trivial) (trivial) rfl rfl hl.1 (Nat.le_of_ble_eq_true rfl) ⟨Nat.le_of_ble_eq_true rfl, Nat.le_of_ble_eq_true rfl⟩ dX11_step_3 ?_
  rintro ⟨Ka, ba⟩ H locs hp hW
  try dsimp only at hp
  have hW : gW g A s.heap H _ [(mo, .inr (11, [.ref az, .ref ap, .int (iI pm), .ref ak, .int (iI ik), .ref ax, .int (iI ty), .int (iI 0), .ref a1, .ref a2, .int (iI mn), .ref a3, .int (iI wt), .ref a4, .ref a5, .ref a6, .ref v1, .ref v2, .ref v3, .ref v4, .ref v5, .ref v6, .int (iI ba), .int (iI wh), .int (iI dp), .int (iI dg)])), (az, gI g 325 Z), (a4, gI g 796 (kV Ka)), (a5, gI g 796 (kH Ka)), (a6, gI g 796 (kR Ka)), (v1, gI g 41 (kW Ka)), (v2, gI g 41 (kS Ka)), (v3, gI g 41 (kL Ka)), (v4, gI g 41 (kE Ka)), (v5, gI g 41 (kX Ka)), (v6, gI g 41 (kT Ka))] := hW
  refine W.eq (g2 := F0 m 6 ls [.int (iI 1)]) rfl ?_
  have hTB := hp
  refine q_if_eq (tgt := 18) S0 (by omega) dX11_step_6 (by decide) (fun c6 => ?_) (fun c6 => ?_)
  · skip
    exact absurd c6 (by omega)
  · skip
    refine lv_aload_n S0.1 S0.2.1 dX11_step_9 rfl (lv_at hl 0 rfl) ?_
    refine lv_iload_n S0.1 S0.2.1 dX11_step_10 rfl (lv_at hl 1 rfl) ?_
    refine lv_iload_n S0.1 S0.2.1 dX11_step_11 rfl (lv_at hl 2 rfl) ?_
    refine q_pV (n := 2) (rest := []) S0 hK (c_X11_next l g mo az ap ak ax a1 a2 a3 a4 a5 a6 v1 v2 v3 v4 v5 v6 pm ik ty 0 mn wt ba wh dp dg Z F Ka u x (hG) (hz) (hu) (by omega) (hTB)) (subP hW.1 [0, 1, 2, 4] rfl) (trivial) gX11_step_X11_next rfl rfl rfl (by decide +kernel) ⟨Nat.le_of_ble_eq_true rfl, Nat.le_of_ble_eq_true rfl⟩ (q_recv hK hW.1 (ci := 11) (q0 := 0) rfl rfl) rfl rfl hl.1 (Nat.le_of_ble_eq_true rfl) ⟨Nat.le_of_ble_eq_true rfl, Nat.le_of_ble_eq_true rfl⟩ dX11_step_12 ?_
    refine W.eq (g2 := F0 m 15 ls [.int (iI (nxF F u x))]) rfl ?_
    refine lv_goto (tgt := 19) S0.1 S0.2.1 dX11_step_15 (by decide) ?_
    exact q_iret S0 hr hlocks (Ka, ba) (hTB) (rfl) (hW.sub [0, 1, 2, 3, 4, 5, 6, 7, 8, 9, 10] rfl (rfl)) (Nat.le_of_ble_eq_true rfl) (Nat.le_of_ble_eq_true rfl) dX11_step_19
set_option maxHeartbeats 4000000 in
set_option maxRecDepth 100000 in
theorem c_X11_steps (l : Launch) (g : GG) (mo az ap ak ax a1 a2 a3 a4 a5 a6 v1 v2 v3 v4 v5 v6 : Nat) (pm ik ty th mn wt bn wh dp dg : Int) (Z : Nat → Int) (F : FT) (K : KT) (u x : Int) (hG : GF F) (hz : ZR Z F) (hu : 0 ≤ u ∧ u < 4) (hx : 0 ≤ x ∧ x < fP F) (hTB : TB F (u + 1) (kV K) (kH K) (kR K)) : qPure l yX11_steps wsX11_steps ({ frames := 3, cells := 0, slots := 0, locals := 68 }) g [.ref mo, .int (iI u), .int (iI x)] [(mo, .inr (11, [.ref az, .ref ap, .int (iI pm), .ref ak, .int (iI ik), .ref ax, .int (iI ty), .int (iI th), .ref a1, .ref a2, .int (iI mn), .ref a3, .int (iI wt), .ref a4, .ref a5, .ref a6, .ref v1, .ref v2, .ref v3, .ref v4, .ref v5, .ref v6, .int (iI bn), .int (iI wh), .int (iI dp), .int (iI dg)])), (az, gI g 325 Z), (a4, gI g 796 (kV K)), (a6, gI g 796 (kR K))] (fun _ => True) (some (.int (iI (stR F u x)))) := by
  refine q_ofP (cc := cX11_steps) (maxL := 5) (ret := (some .int)) (by decide) rfl (Nat.le_of_ble_eq_true rfl) ?_
  intro p e s m args below meth c ls S0 hr hlocks hK hP hX hl
  have hP : va_P g.1 vwCl [(mo, .inr (11, [.ref az, .ref ap, .int (iI pm), .ref ak, .int (iI ik), .ref ax, .int (iI ty), .int (iI th), .ref a1, .ref a2, .int (iI mn), .ref a3, .int (iI wt), .ref a4, .ref a5, .ref a6, .ref v1, .ref v2, .ref v3, .ref v4, .ref v5, .ref v6, .int (iI bn), .int (iI wh), .int (iI dp), .int (iI dg)])), (az, gI g 325 Z), (a4, gI g 796 (kV K)), (a6, gI g 796 (kR K))] s.heap := hP
  have hl : lv_has ls 5 [(0, .ref mo), (1, .int (iI u)), (2, .int (iI x))] := hl
  have hinX11 : ∀ w ∈ wsX110, w ∈ wsX11_steps := fun w h => List.mem_cons_of_mem _ (List.mem_append_right _ h)
  have hpr := GF_p hG
  refine lv_iload_n S0.1 S0.2.1 dX11_steps_0 rfl (lv_at hl 2 rfl) ?_
  refine lv_istore_n (lv' := [(3, .int (iI x)), (0, .ref mo), (1, .int (iI u)), (2, .int (iI x))]) S0.1 S0.2.1 dX11_steps_1 rfl hl (by decide) rfl (fun ls hl => ?_)
  refine q_iconst S0 dX11_steps_2 ?_
  refine lv_istore (lv' := [(4, .int (iI 0)), (3, .int (iI x)), (0, .ref mo), (1, .int (iI u)), (2, .int (iI x))]) S0.1 S0.2.1 dX11_steps_3 hl (by decide) rfl (fun ls hl => ?_)
  refine q_loopP (α := Int × Int) (fun (z_ : Int × Int) => match z_ with | (a9, n9) => (0 ≤ n9 ∧ n9 ≤ 200) ∧ (a9 = -1 ∨ (0 ≤ a9 ∧ a9 < fP F)) ∧ stq (vv (fP F) (fE F) u.toNat) (nxF F u) (200 - n9).toNat a9 n9 = stq (vv (fP F) (fE F) u.toNat) (nxF F u) 200 x 0) (fun (z_ : Int × Int) => match z_ with | (a9, n9) => (200 - n9).toNat) (fun (z_ : Int × Int) => match z_ with | (a9, n9) => [(4, .int (iI n9)), (3, .int (iI a9)), (0, .ref mo), (1, .int (iI u)), (2, .int (iI x))]) ?_ (x, 0) (by exact ⟨by omega, by omega, rfl⟩) (lv_sub hl [0, 1, 2, 3, 4] rfl)
  rintro ⟨a9, n9⟩ hinv IHl ls hl
  try dsimp only at hinv
  have hl : lv_has ls 5 [(4, .int (iI n9)), (3, .int (iI a9)), (0, .ref mo), (1, .int (iI u)), (2, .int (iI x))] := hl
  obtain ⟨hn9, ha9, heq⟩ := hinv
  refine lv_iload S0.1 S0.2.1 dX11_steps_5 (lv_at hl 0 rfl) ?_
  refine q_sipush S0 (by decide) dX11_steps_7 ?_
  refine q_icmp_gt (tgt := 46) S0 (by omega) dX11_steps_10 (by decide) (fun c10 => ?_) (fun c10 => ?_)
  · skip
    refine lv_iload_n S0.1 S0.2.1 dX11_steps_46 rfl (lv_at hl 1 rfl) ?_
    refine q_iconst S0 dX11_steps_47 ?_
    refine q_icmp_eq (tgt := 64) S0 (by omega) dX11_steps_48 (by decide) (fun c48 => ?_) (fun c48 => ?_)
    · skip
      refine q_iconst S0 dX11_steps_64 ?_
      exact qp_iret S0 hr hlocks (by first | (exfalso; omega) | (unfold stR; rw [← heq]; first | (rw [stq_end (by omega)]; first | (rw [if_pos (by omega)]; done) | (rw [if_neg (by omega), if_pos (by omega)]; done) | (rw [if_neg (by omega), if_neg (by omega)]; done)) | (rw [show (200 - n9).toNat = 0 by omega]; show some (Value.int (iI (if a9 = -1 then -1 else if n9 ≤ 199 then n9 else -1))) = _; first | (rw [if_pos (by omega)]; done) | (rw [if_neg (by omega), if_neg (by omega)]; done)))) dX11_steps_65
    · skip
      refine lv_iload S0.1 S0.2.1 dX11_steps_51 (lv_at hl 0 rfl) ?_
      refine q_sipush S0 (by decide) dX11_steps_53 ?_
      refine q_icmp_gt (tgt := 64) S0 (by omega) dX11_steps_56 (by decide) (fun c56 => ?_) (fun c56 => ?_)
      · skip
        refine q_iconst S0 dX11_steps_64 ?_
        exact qp_iret S0 hr hlocks (by first | (exfalso; omega) | (unfold stR; rw [← heq]; first | (rw [stq_end (by omega)]; first | (rw [if_pos (by omega)]; done) | (rw [if_neg (by omega), if_pos (by omega)]; done) | (rw [if_neg (by omega), if_neg (by omega)]; done)) | (rw [show (200 - n9).toNat = 0 by omega]; show some (Value.int (iI (if a9 = -1 then -1 else if n9 ≤ 199 then n9 else -1))) = _; first | (rw [if_pos (by omega)]; done) | (rw [if_neg (by omega), if_neg (by omega)]; done)))) dX11_steps_65
      · skip
        refine lv_iload S0.1 S0.2.1 dX11_steps_59 (lv_at hl 0 rfl) ?_
        refine lv_goto (tgt := 65) S0.1 S0.2.1 dX11_steps_61 (by decide) ?_
        exact qp_iret S0 hr hlocks (by first | (exfalso; omega) | (unfold stR; rw [← heq]; first | (rw [stq_end (by omega)]; first | (rw [if_pos (by omega)]; done) | (rw [if_neg (by omega), if_pos (by omega)]; done) | (rw [if_neg (by omega), if_neg (by omega)]; done)) | (rw [show (200 - n9).toNat = 0 by omega]; show some (Value.int (iI (if a9 = -1 then -1 else if n9 ≤ 199 then n9 else -1))) = _; first | (rw [if_pos (by omega)]; done) | (rw [if_neg (by omega), if_neg (by omega)]; done)))) dX11_steps_65
  · skip
    refine lv_iload_n S0.1 S0.2.1 dX11_steps_13 rfl (lv_at hl 1 rfl) ?_
    refine q_iconst S0 dX11_steps_14 ?_
    refine q_icmp_eq (tgt := 46) S0 (by omega) dX11_steps_15 (by decide) (fun c15 => ?_) (fun c15 => ?_)
    · skip
      refine lv_iload_n S0.1 S0.2.1 dX11_steps_46 rfl (lv_at hl 1 rfl) ?_
      refine q_iconst S0 dX11_steps_47 ?_
      refine q_icmp_eq (tgt := 64) S0 (by omega) dX11_steps_48 (by decide) (fun c48 => ?_) (fun c48 => ?_)
      · skip
        refine q_iconst S0 dX11_steps_64 ?_
        exact qp_iret S0 hr hlocks (by first | (exfalso; omega) | (unfold stR; rw [← heq]; first | (rw [stq_end (by omega)]; first | (rw [if_pos (by omega)]; done) | (rw [if_neg (by omega), if_pos (by omega)]; done) | (rw [if_neg (by omega), if_neg (by omega)]; done)) | (rw [show (200 - n9).toNat = 0 by omega]; show some (Value.int (iI (if a9 = -1 then -1 else if n9 ≤ 199 then n9 else -1))) = _; first | (rw [if_pos (by omega)]; done) | (rw [if_neg (by omega), if_neg (by omega)]; done)))) dX11_steps_65
      · skip
        refine lv_iload S0.1 S0.2.1 dX11_steps_51 (lv_at hl 0 rfl) ?_
        refine q_sipush S0 (by decide) dX11_steps_53 ?_
        refine q_icmp_gt (tgt := 64) S0 (by omega) dX11_steps_56 (by decide) (fun c56 => ?_) (fun c56 => ?_)
        · skip
          refine q_iconst S0 dX11_steps_64 ?_
          exact qp_iret S0 hr hlocks (by first | (exfalso; omega) | (unfold stR; rw [← heq]; first | (rw [stq_end (by omega)]; first | (rw [if_pos (by omega)]; done) | (rw [if_neg (by omega), if_pos (by omega)]; done) | (rw [if_neg (by omega), if_neg (by omega)]; done)) | (rw [show (200 - n9).toNat = 0 by omega]; show some (Value.int (iI (if a9 = -1 then -1 else if n9 ≤ 199 then n9 else -1))) = _; first | (rw [if_pos (by omega)]; done) | (rw [if_neg (by omega), if_neg (by omega)]; done)))) dX11_steps_65
        · skip
          refine lv_iload S0.1 S0.2.1 dX11_steps_59 (lv_at hl 0 rfl) ?_
          refine lv_goto (tgt := 65) S0.1 S0.2.1 dX11_steps_61 (by decide) ?_
          exact qp_iret S0 hr hlocks (by first | (exfalso; omega) | (unfold stR; rw [← heq]; first | (rw [stq_end (by omega)]; first | (rw [if_pos (by omega)]; done) | (rw [if_neg (by omega), if_pos (by omega)]; done) | (rw [if_neg (by omega), if_neg (by omega)]; done)) | (rw [show (200 - n9).toNat = 0 by omega]; show some (Value.int (iI (if a9 = -1 then -1 else if n9 ≤ 199 then n9 else -1))) = _; first | (rw [if_pos (by omega)]; done) | (rw [if_neg (by omega), if_neg (by omega)]; done)))) dX11_steps_65
    · skip
      refine lv_aload_n S0.1 S0.2.1 dX11_steps_18 rfl (lv_at hl 2 rfl) ?_
      refine q_get (C := RX11) (T := TX11) (N := 26) S0 hK hP hinX11 0 rfl rfl 13 (by decide) (List.mem_of_getElem? (i := 1) rfl) rfl rfl dX11_steps_19 ?_
      refine q_sipush S0 (by decide) dX11_steps_22 ?_
      refine lv_iload_n S0.1 S0.2.1 dX11_steps_25 rfl (lv_at hl 3 rfl) ?_
      refine q_imul S0 dX11_steps_26 ?_
      refine lv_iload_n S0.1 S0.2.1 dX11_steps_27 rfl (lv_at hl 1 rfl) ?_
      refine q_iadd S0 dX11_steps_28 ?_
      refine q_iald S0 hK hP 2 rfl (by omega) dX11_steps_29 ?_
      refine q_topI (b := vv (fP F) (fE F) u.toNat a9) ((hTB u a9 (by omega) (by omega) (by omega) (by omega)).1) ?_
      refine q_nm (fun w9 hw9 => ?_)
      have hvr := GF_vv hG hu (x := a9) (by omega)
      rw [← hw9] at hvr
      refine q_if_eq (tgt := 46) S0 (by omega) dX11_steps_30 (by decide) (fun c30 => ?_) (fun c30 => ?_)
      · skip
        refine lv_iload_n S0.1 S0.2.1 dX11_steps_46 rfl (lv_at hl 1 rfl) ?_
        refine q_iconst S0 dX11_steps_47 ?_
        refine q_icmp_eq (tgt := 64) S0 (by omega) dX11_steps_48 (by decide) (fun c48 => ?_) (fun c48 => ?_)
        · skip
          refine q_iconst S0 dX11_steps_64 ?_
          exact qp_iret S0 hr hlocks (by first | (exfalso; omega) | (unfold stR; rw [← heq]; first | (rw [stq_end (by omega)]; first | (rw [if_pos (by omega)]; done) | (rw [if_neg (by omega), if_pos (by omega)]; done) | (rw [if_neg (by omega), if_neg (by omega)]; done)) | (rw [show (200 - n9).toNat = 0 by omega]; show some (Value.int (iI (if a9 = -1 then -1 else if n9 ≤ 199 then n9 else -1))) = _; first | (rw [if_pos (by omega)]; done) | (rw [if_neg (by omega), if_neg (by omega)]; done)))) dX11_steps_65
        · skip
          refine lv_iload S0.1 S0.2.1 dX11_steps_51 (lv_at hl 0 rfl) ?_
          refine q_sipush S0 (by decide) dX11_steps_53 ?_
          refine q_icmp_gt (tgt := 64) S0 (by omega) dX11_steps_56 (by decide) (fun c56 => ?_) (fun c56 => ?_)
          · skip
            refine q_iconst S0 dX11_steps_64 ?_
            exact qp_iret S0 hr hlocks (by first | (exfalso; omega) | (unfold stR; rw [← heq]; first | (rw [stq_end (by omega)]; first | (rw [if_pos (by omega)]; done) | (rw [if_neg (by omega), if_pos (by omega)]; done) | (rw [if_neg (by omega), if_neg (by omega)]; done)) | (rw [show (200 - n9).toNat = 0 by omega]; show some (Value.int (iI (if a9 = -1 then -1 else if n9 ≤ 199 then n9 else -1))) = _; first | (rw [if_pos (by omega)]; done) | (rw [if_neg (by omega), if_neg (by omega)]; done)))) dX11_steps_65
          · skip
            refine lv_iload S0.1 S0.2.1 dX11_steps_59 (lv_at hl 0 rfl) ?_
            refine lv_goto (tgt := 65) S0.1 S0.2.1 dX11_steps_61 (by decide) ?_
            exact qp_iret S0 hr hlocks (by first | (exfalso; omega) | (unfold stR; rw [← heq]; first | (rw [stq_end (by omega)]; first | (rw [if_pos (by omega)]; done) | (rw [if_neg (by omega), if_pos (by omega)]; done) | (rw [if_neg (by omega), if_neg (by omega)]; done)) | (rw [show (200 - n9).toNat = 0 by omega]; show some (Value.int (iI (if a9 = -1 then -1 else if n9 ≤ 199 then n9 else -1))) = _; first | (rw [if_pos (by omega)]; done) | (rw [if_neg (by omega), if_neg (by omega)]; done)))) dX11_steps_65
      · skip
        refine lv_aload_n S0.1 S0.2.1 dX11_steps_33 rfl (lv_at hl 2 rfl) ?_
        refine lv_iload_n S0.1 S0.2.1 dX11_steps_34 rfl (lv_at hl 3 rfl) ?_
        refine lv_iload_n S0.1 S0.2.1 dX11_steps_35 rfl (lv_at hl 1 rfl) ?_
        refine q_pV (n := 2) (rest := []) S0 hK (c_X11_next l g mo az ap ak ax a1 a2 a3 a4 a5 a6 v1 v2 v3 v4 v5 v6 pm ik ty th mn wt bn wh dp dg Z F K u a9 (hG) (hz) (hu) (by omega) (hTB)) (subP hP [0, 1, 2, 3] rfl) (trivial) gX11_steps_X11_next rfl rfl rfl (by decide +kernel) ⟨Nat.le_of_ble_eq_true rfl, Nat.le_of_ble_eq_true rfl⟩ (q_recv hK hP (ci := 11) (q0 := 0) rfl rfl) rfl rfl hl.1 (Nat.le_of_ble_eq_true rfl) ⟨Nat.le_of_ble_eq_true rfl, Nat.le_of_ble_eq_true rfl⟩ dX11_steps_36 ?_
        refine W.eq (g2 := F0 m 39 ls [.int (iI (nxF F u a9))]) rfl ?_
        refine q_nm (fun b9 hb9 => ?_)
        have hb9r : b9 = -1 ∨ (0 ≤ b9 ∧ b9 < fP F) := by rw [hb9]; exact nxF_rng hG
        refine lv_istore_n (lv' := [(3, .int (iI b9)), (4, .int (iI n9)), (0, .ref mo), (1, .int (iI u)), (2, .int (iI x))]) S0.1 S0.2.1 dX11_steps_39 rfl hl (by decide) rfl (fun ls hl => ?_)
        refine q_iinc (lv' := [(4, .int (iI (n9 + 1))), (3, .int (iI b9)), (0, .ref mo), (1, .int (iI u)), (2, .int (iI x))]) S0 dX11_steps_40 hl (k := 1) rfl (by decide) rfl (fun ls hl => ?_)
        refine lv_goto (tgt := 5) S0.1 S0.2.1 dX11_steps_43 (by decide) ?_
        exact IHl (b9, n9 + 1) ls (by refine ⟨by omega, hb9r, ?_⟩; rw [← heq, show (200 - n9).toNat = (200 - (n9 + 1)).toNat + 1 by omega, hb9]; symm; exact stq_go (by omega) (by omega)) (by dsimp only; omega) (lv_sub hl [0, 1, 2, 3, 4] rfl)
set_option maxHeartbeats 4000000 in
set_option maxRecDepth 100000 in
theorem c_X11_stepsToRoot1 (l : Launch) (g : GG) (mo az ap ak ax a1 a2 a3 a4 a5 a6 v1 v2 v3 v4 v5 v6 : Nat) (pm ik ty th mn wt bn wh dp dg : Int) (Z : Nat → Int) (F : FT) (u x : Int) (hG : GF F) (hz : ZR Z F) (hu : (u < 0 ∨ 3 < u) ∧ -2147483648 ≤ u ∧ u < 2147483648) (hx : -2147483648 ≤ x ∧ x < 2147483648) : qMet l yX11_stepsToRoot wsX11_stepsToRoot ({ frames := 3, cells := 0, slots := 0, locals := 65 }) g [.ref mo, .int (iI u), .int (iI x)] [(mo, .inr (11, [.ref az, .ref ap, .int (iI pm), .ref ak, .int (iI ik), .ref ax, .int (iI ty), .int (iI th), .ref a1, .ref a2, .int (iI mn), .ref a3, .int (iI wt), .ref a4, .ref a5, .ref a6, .ref v1, .ref v2, .ref v3, .ref v4, .ref v5, .ref v6, .int (iI bn), .int (iI wh), .int (iI dp), .int (iI dg)])), (az, gI g 325 Z)] (fun _ => True) (fun _ => True) (S := Unit) (fun _ => some (.int (iI 0))) (fun _ => [(mo, .inr (11, [.ref az, .ref ap, .int (iI pm), .ref ak, .int (iI ik), .ref ax, .int (iI ty), .int (iI 1), .ref a1, .ref a2, .int (iI mn), .ref a3, .int (iI wt), .ref a4, .ref a5, .ref a6, .ref v1, .ref v2, .ref v3, .ref v4, .ref v5, .ref v6, .int (iI bn), .int (iI wh), .int (iI dp), .int (iI dg)])), (az, gI g 325 Z)]) (fun _ => True) 0 0 := by
  refine q_ofW (cc := cX11_stepsToRoot) (maxL := 3) (ret := (some .int)) (fun sz h => h.self) (by decide) rfl (Nat.le_of_ble_eq_true rfl) ?_
  intro p e s m args below meth c A ls S0 hr hlocks hnme hK hA hAe hW hD0 hX hl
  have hW : gW g A s.heap s.heap [] [(mo, .inr (11, [.ref az, .ref ap, .int (iI pm), .ref ak, .int (iI ik), .ref ax, .int (iI ty), .int (iI th), .ref a1, .ref a2, .int (iI mn), .ref a3, .int (iI wt), .ref a4, .ref a5, .ref a6, .ref v1, .ref v2, .ref v3, .ref v4, .ref v5, .ref v6, .int (iI bn), .int (iI wh), .int (iI dp), .int (iI dg)])), (az, gI g 325 Z)] := hW
  have hl : lv_has ls 3 [(0, .ref mo), (1, .int (iI u)), (2, .int (iI x))] := hl
  refine lv_aload_n S0.1 S0.2.1 dX11_stepsToRoot_0 rfl (lv_at hl 0 rfl) ?_
  refine lv_iload_n S0.1 S0.2.1 dX11_stepsToRoot_1 rfl (lv_at hl 1 rfl) ?_
  refine lv_iload_n S0.1 S0.2.1 dX11_stepsToRoot_2 rfl (lv_at hl 2 rfl) ?_
  refine q_cV (n := 2) (rest := []) (wr := []) S0 hK hA hW (c_X11_asksAt1 l g mo az ap ak ax a1 a2 a3 a4 a5 a6 v1 v2 v3 v4 v5 v6 pm ik ty th mn wt bn wh dp dg Z F u x (hG) (hz) (hu) (hx)) gX11_stepsToRoot_X11_asksAt rfl rfl rfl (by decide +kernel) ⟨Nat.le_of_ble_eq_true rfl, Nat.le_of_ble_eq_true rfl⟩ [0, 1] [] rfl rfl rfl rfl (by decide) (q_recv hK hW.1 (ci := 11) (q0 := 0) rfl rfl) (fun _ _ => trivial) (trivial) rfl rfl hl.1 (Nat.le_of_ble_eq_true rfl) ⟨Nat.le_of_ble_eq_true rfl, Nat.le_of_ble_eq_true rfl⟩ dX11_stepsToRoot_3 (fun _ H locs _ hW => ?_)
  have hW : gW g A s.heap H _ [(mo, .inr (11, [.ref az, .ref ap, .int (iI pm), .ref ak, .int (iI ik), .ref ax, .int (iI ty), .int (iI 1), .ref a1, .ref a2, .int (iI mn), .ref a3, .int (iI wt), .ref a4, .ref a5, .ref a6, .ref v1, .ref v2, .ref v3, .ref v4, .ref v5, .ref v6, .int (iI bn), .int (iI wh), .int (iI dp), .int (iI dg)])), (az, gI g 325 Z)] := hW
  refine W.eq (g2 := F0 m 6 ls [.int (iI 0)]) rfl ?_
  refine q_if_eq (tgt := 18) S0 (by omega) dX11_stepsToRoot_6 (by decide) (fun c6 => ?_) (fun c6 => ?_)
  · skip
    refine q_iconst S0 dX11_stepsToRoot_18 ?_
    exact q_iret S0 hr hlocks () (trivial) (rfl) (hW.sub [0, 1] rfl (rfl)) (Nat.le_of_ble_eq_true rfl) (Nat.le_of_ble_eq_true rfl) dX11_stepsToRoot_19
  · skip
    exact absurd c6 (by omega)
set_option maxHeartbeats 4000000 in
set_option maxRecDepth 100000 in
theorem c_X11_stepsToRoot2 (l : Launch) (g : GG) (mo az ap ak ax a1 a2 a3 a4 a5 a6 v1 v2 v3 v4 v5 v6 : Nat) (pm ik ty th mn wt bn wh dp dg : Int) (Z : Nat → Int) (F : FT) (u x : Int) (hG : GF F) (hz : ZR Z F) (hu : 0 ≤ u ∧ u < 4) (hx : (x < 0 ∨ fP F ≤ x) ∧ -2147483648 ≤ x ∧ x < 2147483648) : qMet l yX11_stepsToRoot wsX11_stepsToRoot ({ frames := 3, cells := 0, slots := 0, locals := 65 }) g [.ref mo, .int (iI u), .int (iI x)] [(mo, .inr (11, [.ref az, .ref ap, .int (iI pm), .ref ak, .int (iI ik), .ref ax, .int (iI ty), .int (iI th), .ref a1, .ref a2, .int (iI mn), .ref a3, .int (iI wt), .ref a4, .ref a5, .ref a6, .ref v1, .ref v2, .ref v3, .ref v4, .ref v5, .ref v6, .int (iI bn), .int (iI wh), .int (iI dp), .int (iI dg)])), (az, gI g 325 Z)] (fun _ => True) (fun _ => True) (S := Unit) (fun _ => some (.int (iI 0))) (fun _ => [(mo, .inr (11, [.ref az, .ref ap, .int (iI pm), .ref ak, .int (iI ik), .ref ax, .int (iI ty), .int (iI 2), .ref a1, .ref a2, .int (iI mn), .ref a3, .int (iI wt), .ref a4, .ref a5, .ref a6, .ref v1, .ref v2, .ref v3, .ref v4, .ref v5, .ref v6, .int (iI bn), .int (iI wh), .int (iI dp), .int (iI dg)])), (az, gI g 325 Z)]) (fun _ => True) 0 0 := by
  refine q_ofW (cc := cX11_stepsToRoot) (maxL := 3) (ret := (some .int)) (fun sz h => h.self) (by decide) rfl (Nat.le_of_ble_eq_true rfl) ?_
  intro p e s m args below meth c A ls S0 hr hlocks hnme hK hA hAe hW hD0 hX hl
  have hW : gW g A s.heap s.heap [] [(mo, .inr (11, [.ref az, .ref ap, .int (iI pm), .ref ak, .int (iI ik), .ref ax, .int (iI ty), .int (iI th), .ref a1, .ref a2, .int (iI mn), .ref a3, .int (iI wt), .ref a4, .ref a5, .ref a6, .ref v1, .ref v2, .ref v3, .ref v4, .ref v5, .ref v6, .int (iI bn), .int (iI wh), .int (iI dp), .int (iI dg)])), (az, gI g 325 Z)] := hW
  have hl : lv_has ls 3 [(0, .ref mo), (1, .int (iI u)), (2, .int (iI x))] := hl
  refine lv_aload_n S0.1 S0.2.1 dX11_stepsToRoot_0 rfl (lv_at hl 0 rfl) ?_
  refine lv_iload_n S0.1 S0.2.1 dX11_stepsToRoot_1 rfl (lv_at hl 1 rfl) ?_
  refine lv_iload_n S0.1 S0.2.1 dX11_stepsToRoot_2 rfl (lv_at hl 2 rfl) ?_
  refine q_cV (n := 2) (rest := []) (wr := []) S0 hK hA hW (c_X11_asksAt2 l g mo az ap ak ax a1 a2 a3 a4 a5 a6 v1 v2 v3 v4 v5 v6 pm ik ty th mn wt bn wh dp dg Z F u x (hG) (hz) (hu) (hx)) gX11_stepsToRoot_X11_asksAt rfl rfl rfl (by decide +kernel) ⟨Nat.le_of_ble_eq_true rfl, Nat.le_of_ble_eq_true rfl⟩ [0, 1] [] rfl rfl rfl rfl (by decide) (q_recv hK hW.1 (ci := 11) (q0 := 0) rfl rfl) (fun _ _ => trivial) (trivial) rfl rfl hl.1 (Nat.le_of_ble_eq_true rfl) ⟨Nat.le_of_ble_eq_true rfl, Nat.le_of_ble_eq_true rfl⟩ dX11_stepsToRoot_3 (fun _ H locs _ hW => ?_)
  have hW : gW g A s.heap H _ [(mo, .inr (11, [.ref az, .ref ap, .int (iI pm), .ref ak, .int (iI ik), .ref ax, .int (iI ty), .int (iI 2), .ref a1, .ref a2, .int (iI mn), .ref a3, .int (iI wt), .ref a4, .ref a5, .ref a6, .ref v1, .ref v2, .ref v3, .ref v4, .ref v5, .ref v6, .int (iI bn), .int (iI wh), .int (iI dp), .int (iI dg)])), (az, gI g 325 Z)] := hW
  refine W.eq (g2 := F0 m 6 ls [.int (iI 0)]) rfl ?_
  refine q_if_eq (tgt := 18) S0 (by omega) dX11_stepsToRoot_6 (by decide) (fun c6 => ?_) (fun c6 => ?_)
  · skip
    refine q_iconst S0 dX11_stepsToRoot_18 ?_
    exact q_iret S0 hr hlocks () (trivial) (rfl) (hW.sub [0, 1] rfl (rfl)) (Nat.le_of_ble_eq_true rfl) (Nat.le_of_ble_eq_true rfl) dX11_stepsToRoot_19
  · skip
    exact absurd c6 (by omega)
set_option maxHeartbeats 4000000 in
set_option maxRecDepth 100000 in
theorem c_X11_stepsToRoot0 (l : Launch) (g : GG) (mo az ap ak ax a1 a2 a3 a4 a5 a6 v1 v2 v3 v4 v5 v6 : Nat) (pm ik ty th mn wt bn wh dp dg : Int) (Z : Nat → Int) (F : FT) (K : KT) (u x : Int) (hG : GF F) (hz : ZR Z F) (hlk : LKG F) (hu : 0 ≤ u ∧ u < 4) (hx : 0 ≤ x ∧ x < fP F) : qMet l yX11_stepsToRoot wsX11_stepsToRoot ({ frames := 6, cells := 0, slots := 0, locals := 146 }) g [.ref mo, .int (iI u), .int (iI x)] [(mo, .inr (11, [.ref az, .ref ap, .int (iI pm), .ref ak, .int (iI ik), .ref ax, .int (iI ty), .int (iI th), .ref a1, .ref a2, .int (iI mn), .ref a3, .int (iI wt), .ref a4, .ref a5, .ref a6, .ref v1, .ref v2, .ref v3, .ref v4, .ref v5, .ref v6, .int (iI bn), .int (iI wh), .int (iI dp), .int (iI dg)])), (az, gI g 325 Z), (a4, gI g 796 (kV K)), (a5, gI g 796 (kH K)), (a6, gI g 796 (kR K)), (v1, gI g 41 (kW K)), (v2, gI g 41 (kS K)), (v3, gI g 41 (kL K)), (v4, gI g 41 (kE K)), (v5, gI g 41 (kX K)), (v6, gI g 41 (kT K))] (fun _ => True) (fun _ => True) (S := KT × Int) (fun u_ => some (.int (iI (stR F u x)))) (fun u_ => [(mo, .inr (11, [.ref az, .ref ap, .int (iI pm), .ref ak, .int (iI ik), .ref ax, .int (iI ty), .int (iI 0), .ref a1, .ref a2, .int (iI mn), .ref a3, .int (iI wt), .ref a4, .ref a5, .ref a6, .ref v1, .ref v2, .ref v3, .ref v4, .ref v5, .ref v6, .int (iI u_.2), .int (iI wh), .int (iI dp), .int (iI dg)])), (az, gI g 325 Z), (a4, gI g 796 (kV u_.1)), (a5, gI g 796 (kH u_.1)), (a6, gI g 796 (kR u_.1)), (v1, gI g 41 (kW u_.1)), (v2, gI g 41 (kS u_.1)), (v3, gI g 41 (kL u_.1)), (v4, gI g 41 (kE u_.1)), (v5, gI g 41 (kX u_.1)), (v6, gI g 41 (kT u_.1))]) (fun u_ => TB F (u + 1) (kV u_.1) (kH u_.1) (kR u_.1)) 0 0 := by
  refine q_ofW (cc := cX11_stepsToRoot) (maxL := 3) (ret := (some .int)) (fun sz h => h.self) (by decide) rfl (Nat.le_of_ble_eq_true rfl) ?_
  intro p e s m args below meth c A ls S0 hr hlocks hnme hK hA hAe hW hD0 hX hl
  have hW : gW g A s.heap s.heap [] [(mo, .inr (11, [.ref az, .ref ap, .int (iI pm), .ref ak, .int (iI ik), .ref ax, .int (iI ty), .int (iI th), .ref a1, .ref a2, .int (iI mn), .ref a3, .int (iI wt), .ref a4, .ref a5, .ref a6, .ref v1, .ref v2, .ref v3, .ref v4, .ref v5, .ref v6, .int (iI bn), .int (iI wh), .int (iI dp), .int (iI dg)])), (az, gI g 325 Z), (a4, gI g 796 (kV K)), (a5, gI g 796 (kH K)), (a6, gI g 796 (kR K)), (v1, gI g 41 (kW K)), (v2, gI g 41 (kS K)), (v3, gI g 41 (kL K)), (v4, gI g 41 (kE K)), (v5, gI g 41 (kX K)), (v6, gI g 41 (kT K))] := hW
  have hl : lv_has ls 3 [(0, .ref mo), (1, .int (iI u)), (2, .int (iI x))] := hl
  have hpr := GF_p hG
  refine lv_aload_n S0.1 S0.2.1 dX11_stepsToRoot_0 rfl (lv_at hl 0 rfl) ?_
  refine lv_iload_n S0.1 S0.2.1 dX11_stepsToRoot_1 rfl (lv_at hl 1 rfl) ?_
  refine lv_iload_n S0.1 S0.2.1 dX11_stepsToRoot_2 rfl (lv_at hl 2 rfl) ?_
  refine q_cV (n := 2) (rest := []) (wr := []) S0 hK hA hW (c_X11_asksAt0 l g mo az ap ak ax a1 a2 a3 a4 a5 a6 v1 v2 v3 v4 v5 v6 pm ik ty th mn wt bn wh dp dg Z F K u x (hG) (hz) (hlk) (hu) (hx)) gX11_stepsToRoot_X11_asksAt rfl rfl rfl (by decide +kernel) ⟨Nat.le_of_ble_eq_true rfl, Nat.le_of_ble_eq_true rfl⟩ [0, 1, 2, 3, 4, 5, 6, 7, 8, 9, 10] [] rfl rfl rfl rfl (by decide) (q_recv hK hW.1 (ci := 11) (q0 := 0) rfl rfl) (fun _ _ => trivial) (trivial) rfl rfl hl.1 (Nat.le_of_ble_eq_true rfl) ⟨Nat.le_of_ble_eq_true rfl, Nat.le_of_ble_eq_true rfl⟩ dX11_stepsToRoot_3 ?_
  rintro ⟨Ka, ba⟩ H locs hp hW
  try dsimp only at hp
  have hW : gW g A s.heap H _ [(mo, .inr (11, [.ref az, .ref ap, .int (iI pm), .ref ak, .int (iI ik), .ref ax, .int (iI ty), .int (iI 0), .ref a1, .ref a2, .int (iI mn), .ref a3, .int (iI wt), .ref a4, .ref a5, .ref a6, .ref v1, .ref v2, .ref v3, .ref v4, .ref v5, .ref v6, .int (iI ba), .int (iI wh), .int (iI dp), .int (iI dg)])), (az, gI g 325 Z), (a4, gI g 796 (kV Ka)), (a5, gI g 796 (kH Ka)), (a6, gI g 796 (kR Ka)), (v1, gI g 41 (kW Ka)), (v2, gI g 41 (kS Ka)), (v3, gI g 41 (kL Ka)), (v4, gI g 41 (kE Ka)), (v5, gI g 41 (kX Ka)), (v6, gI g 41 (kT Ka))] := hW
  refine W.eq (g2 := F0 m 6 ls [.int (iI 1)]) rfl ?_
  have hTB := hp
  refine q_if_eq (tgt := 18) S0 (by omega) dX11_stepsToRoot_6 (by decide) (fun c6 => ?_) (fun c6 => ?_)
  · skip
    exact absurd c6 (by omega)
  · skip
    refine lv_aload_n S0.1 S0.2.1 dX11_stepsToRoot_9 rfl (lv_at hl 0 rfl) ?_
    refine lv_iload_n S0.1 S0.2.1 dX11_stepsToRoot_10 rfl (lv_at hl 1 rfl) ?_
    refine lv_iload_n S0.1 S0.2.1 dX11_stepsToRoot_11 rfl (lv_at hl 2 rfl) ?_
    refine q_pV (n := 2) (rest := []) S0 hK (c_X11_steps l g mo az ap ak ax a1 a2 a3 a4 a5 a6 v1 v2 v3 v4 v5 v6 pm ik ty 0 mn wt ba wh dp dg Z F Ka u x (hG) (hz) (hu) (by omega) (hTB)) (subP hW.1 [0, 1, 2, 4] rfl) (trivial) gX11_stepsToRoot_X11_steps rfl rfl rfl (by decide +kernel) ⟨Nat.le_of_ble_eq_true rfl, Nat.le_of_ble_eq_true rfl⟩ (q_recv hK hW.1 (ci := 11) (q0 := 0) rfl rfl) rfl rfl hl.1 (Nat.le_of_ble_eq_true rfl) ⟨Nat.le_of_ble_eq_true rfl, Nat.le_of_ble_eq_true rfl⟩ dX11_stepsToRoot_12 ?_
    refine W.eq (g2 := F0 m 15 ls [.int (iI (stR F u x))]) rfl ?_
    refine lv_goto (tgt := 19) S0.1 S0.2.1 dX11_stepsToRoot_15 (by decide) ?_
    exact q_iret S0 hr hlocks (Ka, ba) (hTB) (rfl) (hW.sub [0, 1, 2, 3, 4, 5, 6, 7, 8, 9, 10] rfl (rfl)) (Nat.le_of_ble_eq_true rfl) (Nat.le_of_ble_eq_true rfl) dX11_stepsToRoot_19
