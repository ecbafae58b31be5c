def VALP (l : Launch) (g : GG) (F : FT) (d : Nat) : Prop := ∀ (rk t0 q0 t1 q1 t2 q2 t3 q3 t4 q4 t5 q5 : Nat) (r : RT) (u x : Int), 0 ≤ u → u < d → u < 4 → 0 ≤ x ∧ x < fP F → RI F r → qMet l yX5_value wsX5_value ({ frames := 3 * d + 12, cells := 0, slots := 0, locals := 90 * d + 400 }) g [.ref rk, .int (iI u), .int (iI x)] [(rk, .inr (5, [.ref t0, .ref t1, .ref t2, .ref t3, .ref t4, .ref t5, .ref (fS F)])), (t0, .inr (8, [.int (iI 199), .ref q0])), (q0, gI g 796 (rV r)), (t1, .inr (8, [.int (iI 199), .ref q1])), (q1, gI g 796 (rH r)), (t2, .inr (8, [.int (iI 199), .ref q2])), (q2, gI g 796 (rR r)), (t3, .inr (8, [.int (iI 40), .ref q3])), (q3, gI g 160 (nV r)), (t4, .inr (8, [.int (iI 40), .ref q4])), (q4, gI g 160 (nS r)), (t5, .inr (8, [.int (iI 40), .ref q5])), (q5, gI g 160 (nW r))] (fun q => ¬ fzA F q) (FX g F) (S := RT) (fun u_ => some (.int (iI (vv (fP F) (fE F) u.toNat x)))) (fun u_ => [(rk, .inr (5, [.ref t0, .ref t1, .ref t2, .ref t3, .ref t4, .ref t5, .ref (fS F)])), (t0, .inr (8, [.int (iI 199), .ref q0])), (q0, gI g 796 (rV u_)), (t1, .inr (8, [.int (iI 199), .ref q1])), (q1, gI g 796 (rH u_)), (t2, .inr (8, [.int (iI 199), .ref q2])), (q2, gI g 796 (rR u_)), (t3, .inr (8, [.int (iI 40), .ref q3])), (q3, gI g 160 (nV u_)), (t4, .inr (8, [.int (iI 40), .ref q4])), (q4, gI g 160 (nS u_)), (t5, .inr (8, [.int (iI 40), .ref q5])), (q5, gI g 160 (nW u_))]) (fun u_ => RI F u_ ∧ KP u r u_) 0 0
set_option maxHeartbeats 4000000 in
set_option maxRecDepth 100000 in
theorem c_X5_valueOfCall (l : Launch) (g : GG) (F : FT) (d : Nat) (rk t0 q0 t1 q1 t2 q2 t3 q3 t4 q4 t5 q5 : Nat) (r : RT) (u k : Int) (IH : VALP l g F d) (hud : u ≤ d) (hG : GF F) (hI : RI F r) (hu : 0 ≤ u ∧ u < 4) (hk : 0 ≤ k ∧ k < eN (fE F u.toNat)) (hc : eK (fE F u.toNat) k.toNat = 99) (hv : ∀ j, j < k.toNat → 0 ≤ row (nV r) u j ∧ row (nV r) u j < fP F) : qMet l yX5_valueOfCall wsX5_valueOfCall ({ frames := 3 * d + 13, cells := 0, slots := 0, locals := 90 * d + 430 }) g [.ref rk, .int (iI u), .int (iI k)] [(rk, .inr (5, [.ref t0, .ref t1, .ref t2, .ref t3, .ref t4, .ref t5, .ref (fS F)])), (t0, .inr (8, [.int (iI 199), .ref q0])), (q0, gI g 796 (rV r)), (t1, .inr (8, [.int (iI 199), .ref q1])), (q1, gI g 796 (rH r)), (t2, .inr (8, [.int (iI 199), .ref q2])), (q2, gI g 796 (rR r)), (t3, .inr (8, [.int (iI 40), .ref q3])), (q3, gI g 160 (nV r)), (t4, .inr (8, [.int (iI 40), .ref q4])), (q4, gI g 160 (nS r)), (t5, .inr (8, [.int (iI 40), .ref q5])), (q5, gI g 160 (nW r))] (fun q => ¬ fzA F q) (FX g F) (S := RT) (fun u_ => some (.int (iI (vv (fP F) (fE F) (eU (fE F u.toNat) k.toNat).toNat (gv (row (nV r) u) (eL (fE F u.toNat) k.toNat)))))) (fun u_ => [(rk, .inr (5, [.ref t0, .ref t1, .ref t2, .ref t3, .ref t4, .ref t5, .ref (fS F)])), (t0, .inr (8, [.int (iI 199), .ref q0])), (q0, gI g 796 (rV u_)), (t1, .inr (8, [.int (iI 199), .ref q1])), (q1, gI g 796 (rH u_)), (t2, .inr (8, [.int (iI 199), .ref q2])), (q2, gI g 796 (rR u_)), (t3, .inr (8, [.int (iI 40), .ref q3])), (q3, gI g 160 (nV u_)), (t4, .inr (8, [.int (iI 40), .ref q4])), (q4, gI g 160 (nS u_)), (t5, .inr (8, [.int (iI 40), .ref q5])), (q5, gI g 160 (nW u_))]) (fun u_ => RI F u_ ∧ ∀ j : Nat, u * 40 ≤ (j : Int) → nV u_ j = nV r j ∧ nS u_ j = nS r j ∧ nW u_ j = nW r j) 0 0 := by
  refine q_ofW (cc := cX5_valueOfCall) (maxL := 6) (ret := (some .int)) (fun sz h => h.self) (by decide) rfl (Nat.le_of_ble_eq_true rfl) ?_
  intro p e s m args below meth c A ls S0 hr hlocks hnme hK hA hAe hW hD0 hX hl
  have hW : gW g A s.heap s.heap [] [(rk, .inr (5, [.ref t0, .ref t1, .ref t2, .ref t3, .ref t4, .ref t5, .ref (fS F)])), (t0, .inr (8, [.int (iI 199), .ref q0])), (q0, gI g 796 (rV r)), (t1, .inr (8, [.int (iI 199), .ref q1])), (q1, gI g 796 (rH r)), (t2, .inr (8, [.int (iI 199), .ref q2])), (q2, gI g 796 (rR r)), (t3, .inr (8, [.int (iI 40), .ref q3])), (q3, gI g 160 (nV r)), (t4, .inr (8, [.int (iI 40), .ref q4])), (q4, gI g 160 (nS r)), (t5, .inr (8, [.int (iI 40), .ref q5])), (q5, gI g 160 (nW r))] := hW
  have hl : lv_has ls 6 [(0, .ref rk), (1, .int (iI u)), (2, .int (iI k))] := hl
  have hinX5 : ∀ w ∈ wsX50, w ∈ wsX5_valueOfCall := fun w h => List.mem_cons_of_mem _ (List.mem_append_left _ (List.mem_append_left _ (List.mem_append_left _ (List.mem_append_left _ (List.mem_append_right _ h)))))
  have hpr := GF_p hG
  have hO := fz_out hX hD0 hAe
  have hfz : ∀ (H : Heap) (locs : List Loc) (ws : va_W), gW g A s.heap H locs ws → FX g F H := fun H locs ws h => fz_stay hX hO h
  have hE := (hG.2 u.toNat (by omega)).2.1 k.toNat (by omega)
  have hn := (hG.2 u.toNat (by omega)).1
  have hL := WFK_L hE
  have hU := WFK_U hE (by omega)
  have hU9 := hU.2.2.2 hc
  have gu := gv_rng (w := row (nV r) u) (p := fP F) (i := eL (fE F u.toNat) k.toNat) (k := k.toNat) (by omega) hv (by omega) hL
  refine lv_aload_n S0.1 S0.2.1 dX5_valueOfCall_0 rfl (lv_at hl 0 rfl) ?_
  refine q_get (C := RX5) (T := TX5) (N := 7) S0 hK hW.1 hinX5 0 rfl rfl 6 (by decide) (List.mem_of_getElem? (i := 1) rfl) rfl rfl dX5_valueOfCall_1 ?_
  refine lv_iload_n S0.1 S0.2.1 dX5_valueOfCall_4 rfl (lv_at hl 1 rfl) ?_
  refine q_pV (n := 1) (rest := []) S0 hK (c_X7_exprOf l g (fS F) (fR F) (fX F) u (by omega)) (subP ((hfz _ _ _ hW)).1 [0] rfl) (trivial) gX5_valueOfCall_X7_expressionOf rfl rfl rfl (by decide +kernel) ⟨by dsimp only; omega, by dsimp only; omega⟩ (q_recv hK ((hfz _ _ _ hW)).1 (ci := 7) (q0 := 0) rfl rfl) rfl rfl hl.1 (Nat.le_of_ble_eq_true rfl) ⟨Nat.le_of_ble_eq_true rfl, Nat.le_of_ble_eq_true rfl⟩ dX5_valueOfCall_5 ?_
  refine W.eq (g2 := F0 m 8 ls [.ref (fX F u.toNat)]) rfl ?_
  refine lv_astore_n (lv' := [(3, .ref (fX F u.toNat)), (0, .ref rk), (1, .int (iI u)), (2, .int (iI k))]) S0.1 S0.2.1 dX5_valueOfCall_8 rfl hl (by decide) rfl (fun ls hl => ?_)
  refine lv_aload_n S0.1 S0.2.1 dX5_valueOfCall_9 rfl (lv_at hl 0 rfl) ?_
  refine lv_iload_n S0.1 S0.2.1 dX5_valueOfCall_10 rfl (lv_at hl 3 rfl) ?_
  refine q_pV (n := 1) (rest := []) S0 hK (c_X1_numberI l g (fX F u.toNat) (fK F u.toNat 1) (fK F u.toNat 2) (fK F u.toNat 3) (fK F u.toNat 4) (fD F u.toNat) (fU F u.toNat) (fL F u.toNat) (eN (fE F u.toNat)) (eU (fE F u.toNat)) k (by omega) (by omega)) (subP (((hfz _ _ _ hW)).2 u.toNat (by omega)) [0, 2] rfl) (trivial) gX5_valueOfCall_X1_number rfl rfl rfl (by decide +kernel) ⟨by dsimp only; omega, by dsimp only; omega⟩ (q_recv hK (((hfz _ _ _ hW)).2 u.toNat (by omega)) (ci := 1) (q0 := 0) rfl rfl) rfl rfl hl.1 (Nat.le_of_ble_eq_true rfl) ⟨Nat.le_of_ble_eq_true rfl, Nat.le_of_ble_eq_true rfl⟩ dX5_valueOfCall_11 ?_
  refine W.eq (g2 := F0 m 14 ls [.int (iI ((eU (fE F u.toNat)) k.toNat))]) rfl ?_
  refine lv_istore (lv' := [(4, .int (iI ((eU (fE F u.toNat)) k.toNat))), (3, .ref (fX F u.toNat)), (0, .ref rk), (1, .int (iI u)), (2, .int (iI k))]) S0.1 S0.2.1 dX5_valueOfCall_14 hl (by decide) rfl (fun ls hl => ?_)
  refine lv_aload_n S0.1 S0.2.1 dX5_valueOfCall_16 rfl (lv_at hl 2 rfl) ?_
  refine q_get (C := RX5) (T := TX5) (N := 7) S0 hK hW.1 hinX5 0 rfl rfl 3 (by decide) (List.mem_of_getElem? (i := 2) rfl) rfl rfl dX5_valueOfCall_17 ?_
  refine lv_iload_n S0.1 S0.2.1 dX5_valueOfCall_20 rfl (lv_at hl 3 rfl) ?_
  refine lv_aload_n S0.1 S0.2.1 dX5_valueOfCall_21 rfl (lv_at hl 1 rfl) ?_
  refine lv_iload_n S0.1 S0.2.1 dX5_valueOfCall_22 rfl (lv_at hl 4 rfl) ?_
  refine q_pV (n := 1) (rest := [.int (iI u), .ref t3]) S0 hK (c_X1_leftI l g (fX F u.toNat) (fK F u.toNat 1) (fK F u.toNat 2) (fK F u.toNat 3) (fK F u.toNat 4) (fD F u.toNat) (fU F u.toNat) (fL F u.toNat) (eN (fE F u.toNat)) (eL (fE F u.toNat)) k (by omega) (by omega)) (subP (((hfz _ _ _ hW)).2 u.toNat (by omega)) [0, 3] rfl) (trivial) gX5_valueOfCall_X1_left rfl rfl rfl (by decide +kernel) ⟨by dsimp only; omega, by dsimp only; omega⟩ (q_recv hK (((hfz _ _ _ hW)).2 u.toNat (by omega)) (ci := 1) (q0 := 0) rfl rfl) rfl rfl hl.1 (Nat.le_of_ble_eq_true rfl) ⟨Nat.le_of_ble_eq_true rfl, Nat.le_of_ble_eq_true rfl⟩ dX5_valueOfCall_23 ?_
  refine W.eq (g2 := F0 m 26 ls [.int (iI ((eL (fE F u.toNat)) k.toNat)), .int (iI u), .ref t3]) rfl ?_
  refine q_pV (n := 2) (rest := []) S0 hK (c_X8_get40 l g t3 q3 (nV r) u ((eL (fE F u.toNat)) k.toNat) (by omega) (by omega)) (subP hW.1 [7, 8] rfl) (trivial) gX5_valueOfCall_X8_get rfl rfl rfl (by decide +kernel) ⟨by dsimp only; omega, by dsimp only; omega⟩ (q_recv hK hW.1 (ci := 8) (q0 := 7) rfl rfl) rfl rfl hl.1 (Nat.le_of_ble_eq_true rfl) ⟨Nat.le_of_ble_eq_true rfl, Nat.le_of_ble_eq_true rfl⟩ dX5_valueOfCall_26 ?_
  refine W.eq (g2 := F0 m 29 ls [.int (iI (gv (row (nV r) u) ((eL (fE F u.toNat)) k.toNat)))]) rfl ?_
  refine lv_istore (lv' := [(5, .int (iI (gv (row (nV r) u) ((eL (fE F u.toNat)) k.toNat)))), (4, .int (iI ((eU (fE F u.toNat)) k.toNat))), (3, .ref (fX F u.toNat)), (0, .ref rk), (1, .int (iI u)), (2, .int (iI k))]) S0.1 S0.2.1 dX5_valueOfCall_29 hl (by decide) rfl (fun ls hl => ?_)
  refine lv_iload_n S0.1 S0.2.1 dX5_valueOfCall_31 rfl (lv_at hl 4 rfl) ?_
  refine lv_iload S0.1 S0.2.1 dX5_valueOfCall_32 (lv_at hl 1 rfl) ?_
  refine q_pS (n := 2) (rest := []) S0 hK (c_X5_mayUse l g u ((eU (fE F u.toNat)) k.toNat) (by omega) (by omega)) (subP hW.1 [] rfl) (trivial) gX5_valueOfCall_X5_mayUse rfl rfl rfl (by decide +kernel) ⟨by dsimp only; omega, by dsimp only; omega⟩ rfl rfl hl.1 (Nat.le_of_ble_eq_true rfl) ⟨Nat.le_of_ble_eq_true rfl, Nat.le_of_ble_eq_true rfl⟩ dX5_valueOfCall_34 ?_
  refine W.eq (g2 := F0 m 37 ls [.int (iI (if 0 ≤ ((eU (fE F u.toNat)) k.toNat) ∧ ((eU (fE F u.toNat)) k.toNat) < u then (1 : Int) else 0))]) rfl ?_
  refine q_if_eqP (tgt := 51) S0 dX5_valueOfCall_37 (by decide) (fun c37 => ?_) (fun c37 => ?_)
  · skip
    exact absurd ⟨hU.1, (by omega)⟩ c37
  · skip
    refine lv_aload_n S0.1 S0.2.1 dX5_valueOfCall_40 rfl (lv_at hl 3 rfl) ?_
    refine lv_iload S0.1 S0.2.1 dX5_valueOfCall_41 (lv_at hl 1 rfl) ?_
    refine lv_iload S0.1 S0.2.1 dX5_valueOfCall_43 (lv_at hl 0 rfl) ?_
    refine q_cV (n := 2) (rest := []) (wr := []) S0 hK hA hW (IH rk t0 q0 t1 q1 t2 q2 t3 q3 t4 q4 t5 q5 r ((eU (fE F u.toNat)) k.toNat) (gv (row (nV r) u) ((eL (fE F u.toNat)) k.toNat)) (by omega) (by omega) (by omega) (gu) (hI)) gX5_valueOfCall_X5_value rfl rfl rfl (by decide +kernel) ⟨by dsimp only; omega, by dsimp only; omega⟩ [0, 1, 2, 3, 4, 5, 6, 7, 8, 9, 10, 11, 12] [] rfl rfl rfl rfl (by decide) (q_recv hK hW.1 (ci := 5) (q0 := 0) rfl rfl) (hO) (hfz _ _ _ hW) rfl rfl hl.1 (Nat.le_of_ble_eq_true rfl) ⟨Nat.le_of_ble_eq_true rfl, Nat.le_of_ble_eq_true rfl⟩ dX5_valueOfCall_45 ?_
    rintro r1 H locs hp hW
    try dsimp only at hp
    have hW : gW g A s.heap H _ [(rk, .inr (5, [.ref t0, .ref t1, .ref t2, .ref t3, .ref t4, .ref t5, .ref (fS F)])), (t0, .inr (8, [.int (iI 199), .ref q0])), (q0, gI g 796 (rV r1)), (t1, .inr (8, [.int (iI 199), .ref q1])), (q1, gI g 796 (rH r1)), (t2, .inr (8, [.int (iI 199), .ref q2])), (q2, gI g 796 (rR r1)), (t3, .inr (8, [.int (iI 40), .ref q3])), (q3, gI g 160 (nV r1)), (t4, .inr (8, [.int (iI 40), .ref q4])), (q4, gI g 160 (nS r1)), (t5, .inr (8, [.int (iI 40), .ref q5])), (q5, gI g 160 (nW r1))] := hW
    have hp9 := hp
    refine W.eq (g2 := F0 m 48 ls [.int (iI (vv (fP F) (fE F) ((eU (fE F u.toNat)) k.toNat).toNat (gv (row (nV r) u) ((eL (fE F u.toNat)) k.toNat))))]) rfl ?_
    refine lv_goto (tgt := 52) S0.1 S0.2.1 dX5_valueOfCall_48 (by decide) ?_
    exact q_iret S0 hr hlocks r1 (by exact ⟨hp9.1, fun j hj => hp9.2 j (by omega)⟩) (rfl) (hW.sub [0, 1, 2, 3, 4, 5, 6, 7, 8, 9, 10, 11, 12] rfl (rfl)) (Nat.le_of_ble_eq_true rfl) (Nat.le_of_ble_eq_true rfl) dX5_valueOfCall_52
set_option maxHeartbeats 4000000 in
set_option maxRecDepth 100000 in
theorem c_X5_reckonValues (l : Launch) (g : GG) (F : FT) (d : Nat) (rk t0 q0 t1 q1 t2 q2 t3 q3 t4 q4 t5 q5 : Nat) (r : RT) (u x : Int) (IH : VALP l g F d) (hud : u ≤ d) (hG : GF F) (hI : RI F r) (hu : 0 ≤ u ∧ u < 4) (hx : 0 ≤ x ∧ x < fP F) : qMet l yX5_reckonValues wsX5_reckonValues ({ frames := 3 * d + 14, cells := 0, slots := 0, locals := 90 * d + 460 }) g [.ref rk, .int (iI u), .int (iI x)] [(rk, .inr (5, [.ref t0, .ref t1, .ref t2, .ref t3, .ref t4, .ref t5, .ref (fS F)])), (t0, .inr (8, [.int (iI 199), .ref q0])), (q0, gI g 796 (rV r)), (t1, .inr (8, [.int (iI 199), .ref q1])), (q1, gI g 796 (rH r)), (t2, .inr (8, [.int (iI 199), .ref q2])), (q2, gI g 796 (rR r)), (t3, .inr (8, [.int (iI 40), .ref q3])), (q3, gI g 160 (nV r)), (t4, .inr (8, [.int (iI 40), .ref q4])), (q4, gI g 160 (nS r)), (t5, .inr (8, [.int (iI 40), .ref q5])), (q5, gI g 160 (nW r))] (fun q => ¬ fzA F q) (FX g F) (S := RT) (fun u_ => some (.int (iI (vv (fP F) (fE F) u.toNat x)))) (fun u_ => [(rk, .inr (5, [.ref t0, .ref t1, .ref t2, .ref t3, .ref t4, .ref t5, .ref (fS F)])), (t0, .inr (8, [.int (iI 199), .ref q0])), (q0, gI g 796 (rV u_)), (t1, .inr (8, [.int (iI 199), .ref q1])), (q1, gI g 796 (rH u_)), (t2, .inr (8, [.int (iI 199), .ref q2])), (q2, gI g 796 (rR u_)), (t3, .inr (8, [.int (iI 40), .ref q3])), (q3, gI g 160 (nV u_)), (t4, .inr (8, [.int (iI 40), .ref q4])), (q4, gI g 160 (nS u_)), (t5, .inr (8, [.int (iI 40), .ref q5])), (q5, gI g 160 (nW u_))]) (fun u_ => RI F u_ ∧ KP u r u_ ∧ (¬ vv (fP F) (fE F) u.toNat x = -1 → VI F u x (eN (fE F u.toNat)) u_)) 0 0 := by
  refine q_ofW (cc := cX5_reckonValues) (maxL := 6) (ret := (some .int)) (fun sz h => h.self) (by decide) rfl (Nat.le_of_ble_eq_true rfl) ?_
  intro p e s m args below meth c A ls S0 hr hlocks hnme hK hA hAe hW hD0 hX hl
  have hW : gW g A s.heap s.heap [] [(rk, .inr (5, [.ref t0, .ref t1, .ref t2, .ref t3, .ref t4, .ref t5, .ref (fS F)])), (t0, .inr (8, [.int (iI 199), .ref q0])), (q0, gI g 796 (rV r)), (t1, .inr (8, [.int (iI 199), .ref q1])), (q1, gI g 796 (rH r)), (t2, .inr (8, [.int (iI 199), .ref q2])), (q2, gI g 796 (rR r)), (t3, .inr (8, [.int (iI 40), .ref q3])), (q3, gI g 160 (nV r)), (t4, .inr (8, [.int (iI 40), .ref q4])), (q4, gI g 160 (nS r)), (t5, .inr (8, [.int (iI 40), .ref q5])), (q5, gI g 160 (nW r))] := hW
  have hl : lv_has ls 6 [(0, .ref rk), (1, .int (iI u)), (2, .int (iI x))] := hl
  have hinX5 : ∀ w ∈ wsX50, w ∈ wsX5_reckonValues := fun w h => List.mem_cons_of_mem _ (List.mem_append_left _ (List.mem_append_left _ (List.mem_append_left _ (List.mem_append_left _ (List.mem_append_right _ h)))))
  have hpr := GF_p hG
  have hO := fz_out hX hD0 hAe
  have hfz : ∀ (H : Heap) (locs : List Loc) (ws : va_W), gW g A s.heap H locs ws → FX g F H := fun H locs ws h => fz_stay hX hO h
  have hnn := (hG.2 u.toNat (by omega)).1
  refine lv_aload_n S0.1 S0.2.1 dX5_reckonValues_0 rfl (lv_at hl 0 rfl) ?_
  refine q_get (C := RX5) (T := TX5) (N := 7) S0 hK hW.1 hinX5 0 rfl rfl 6 (by decide) (List.mem_of_getElem? (i := 1) rfl) rfl rfl dX5_reckonValues_1 ?_
  refine lv_iload_n S0.1 S0.2.1 dX5_reckonValues_4 rfl (lv_at hl 1 rfl) ?_
  refine q_pV (n := 1) (rest := []) S0 hK (c_X7_exprOf l g (fS F) (fR F) (fX F) u (by omega)) (subP ((hfz _ _ _ hW)).1 [0] rfl) (trivial) gX5_reckonValues_X7_expressionOf rfl rfl rfl (by decide +kernel) ⟨by dsimp only; omega, by dsimp only; omega⟩ (q_recv hK ((hfz _ _ _ hW)).1 (ci := 7) (q0 := 0) rfl rfl) rfl rfl hl.1 (Nat.le_of_ble_eq_true rfl) ⟨Nat.le_of_ble_eq_true rfl, Nat.le_of_ble_eq_true rfl⟩ dX5_reckonValues_5 ?_
  refine W.eq (g2 := F0 m 8 ls [.ref (fX F u.toNat)]) rfl ?_
  refine lv_astore_n (lv' := [(3, .ref (fX F u.toNat)), (0, .ref rk), (1, .int (iI u)), (2, .int (iI x))]) S0.1 S0.2.1 dX5_reckonValues_8 rfl hl (by decide) rfl (fun ls hl => ?_)
  refine q_iconst S0 dX5_reckonValues_9 ?_
  refine lv_istore (lv' := [(4, .int (iI ((-1)))), (3, .ref (fX F u.toNat)), (0, .ref rk), (1, .int (iI u)), (2, .int (iI x))]) S0.1 S0.2.1 dX5_reckonValues_10 hl (by decide) rfl (fun ls hl => ?_)
  refine q_iconst S0 dX5_reckonValues_12 ?_
  refine lv_istore (lv' := [(5, .int (iI 0)), (4, .int (iI ((-1)))), (3, .ref (fX F u.toNat)), (0, .ref rk), (1, .int (iI u)), (2, .int (iI x))]) S0.1 S0.2.1 dX5_reckonValues_13 hl (by decide) rfl (fun ls hl => ?_)
  refine q_loop (α := Int × Int × RT) (fun (z_ : Int × Int × RT) => match z_ with | (i, fo, r1) => RI F r1 ∧ KP u r r1 ∧ VI F u x i r1 ∧ (0 ≤ i ∧ i ≤ eN (fE F u.toNat)) ∧ (-1 ≤ fo ∧ fo < fP F) ∧ (0 < i → fo = row (nV r1) u (i - 1).toNat)) (fun (z_ : Int × Int × RT) => match z_ with | (i, fo, r1) => (eN (fE F u.toNat) - i).toNat) (fun (z_ : Int × Int × RT) => match z_ with | (i, fo, r1) => [(rk, .inr (5, [.ref t0, .ref t1, .ref t2, .ref t3, .ref t4, .ref t5, .ref (fS F)])), (t0, .inr (8, [.int (iI 199), .ref q0])), (q0, gI g 796 (rV r1)), (t1, .inr (8, [.int (iI 199), .ref q1])), (q1, gI g 796 (rH r1)), (t2, .inr (8, [.int (iI 199), .ref q2])), (q2, gI g 796 (rR r1)), (t3, .inr (8, [.int (iI 40), .ref q3])), (q3, gI g 160 (nV r1)), (t4, .inr (8, [.int (iI 40), .ref q4])), (q4, gI g 160 (nS r1)), (t5, .inr (8, [.int (iI 40), .ref q5])), (q5, gI g 160 (nW r1))]) (fun (z_ : Int × Int × RT) => match z_ with | (i, fo, r1) => [(5, .int (iI i)), (4, .int (iI fo)), (3, .ref (fX F u.toNat)), (0, .ref rk), (1, .int (iI u)), (2, .int (iI x))]) ?_ (0, (-1), r) (by exact ⟨hI, KP_rfl, VI_0, by omega, by omega, fun h => absurd h (by omega)⟩) hW (lv_sub hl [0, 1, 2, 3, 4, 5] rfl)
  rintro ⟨i, fo, r1⟩ hinv IHl H locs ls hW hl
  try dsimp only at hinv
  have hW : gW g A s.heap H _ [(rk, .inr (5, [.ref t0, .ref t1, .ref t2, .ref t3, .ref t4, .ref t5, .ref (fS F)])), (t0, .inr (8, [.int (iI 199), .ref q0])), (q0, gI g 796 (rV r1)), (t1, .inr (8, [.int (iI 199), .ref q1])), (q1, gI g 796 (rH r1)), (t2, .inr (8, [.int (iI 199), .ref q2])), (q2, gI g 796 (rR r1)), (t3, .inr (8, [.int (iI 40), .ref q3])), (q3, gI g 160 (nV r1)), (t4, .inr (8, [.int (iI 40), .ref q4])), (q4, gI g 160 (nS r1)), (t5, .inr (8, [.int (iI 40), .ref q5])), (q5, gI g 160 (nW r1))] := hW
  have hl : lv_has ls 6 [(5, .int (iI i)), (4, .int (iI fo)), (3, .ref (fX F u.toNat)), (0, .ref rk), (1, .int (iI u)), (2, .int (iI x))] := hl
  obtain ⟨hI1, hKP, hVI, hi, hfo, hfo2⟩ := hinv
  refine lv_iload S0.1 S0.2.1 dX5_reckonValues_15 (lv_at hl 0 rfl) ?_
  refine lv_aload_n S0.1 S0.2.1 dX5_reckonValues_17 rfl (lv_at hl 2 rfl) ?_
  refine q_pV (n := 0) (rest := [.int (iI i)]) S0 hK (c_X1_size l g (fX F u.toNat) (fK F u.toNat 1) (fK F u.toNat 2) (fK F u.toNat 3) (fK F u.toNat 4) (fD F u.toNat) (fU F u.toNat) (fL F u.toNat) (eN (fE F u.toNat)) (eK (fE F u.toNat)) (by omega)) (subP (((hfz _ _ _ hW)).2 u.toNat (by omega)) [0, 1] rfl) (trivial) gX5_reckonValues_X1_size rfl rfl rfl (by decide +kernel) ⟨by dsimp only; omega, by dsimp only; omega⟩ (q_recv hK (((hfz _ _ _ hW)).2 u.toNat (by omega)) (ci := 1) (q0 := 0) rfl rfl) rfl rfl hl.1 (Nat.le_of_ble_eq_true rfl) ⟨Nat.le_of_ble_eq_true rfl, Nat.le_of_ble_eq_true rfl⟩ dX5_reckonValues_18 ?_
  refine W.eq (g2 := F0 m 21 ls [.int (iI (((eN (fE F u.toNat)) : Int))), .int (iI i)]) rfl ?_
  refine q_icmp_ge (tgt := 81) S0 (by omega) dX5_reckonValues_21 (by decide) (fun c21 => ?_) (fun c21 => ?_)
  · skip
    refine lv_iload S0.1 S0.2.1 dX5_reckonValues_81 (lv_at hl 1 rfl) ?_
    exact q_iret S0 hr hlocks r1 (⟨hI1, hKP, fun _ => by rw [show ((eN (fE F u.toNat) : Nat) : Int) = i by omega]; exact hVI⟩) (by rw [VI_end hG hu (by omega) hVI, hfo2 (by omega)]) (hW.sub [0, 1, 2, 3, 4, 5, 6, 7, 8, 9, 10, 11, 12] rfl (rfl)) (Nat.le_of_ble_eq_true rfl) (Nat.le_of_ble_eq_true rfl) dX5_reckonValues_83
  · skip
    refine lv_aload_n S0.1 S0.2.1 dX5_reckonValues_24 rfl (lv_at hl 2 rfl) ?_
    refine lv_iload S0.1 S0.2.1 dX5_reckonValues_25 (lv_at hl 0 rfl) ?_
    refine q_pV (n := 1) (rest := []) S0 hK (c_X1_kindI l g (fX F u.toNat) (fK F u.toNat 1) (fK F u.toNat 2) (fK F u.toNat 3) (fK F u.toNat 4) (fD F u.toNat) (fU F u.toNat) (fL F u.toNat) (eN (fE F u.toNat)) (eK (fE F u.toNat)) i (by omega) (by omega)) (subP (((hfz _ _ _ hW)).2 u.toNat (by omega)) [0, 1] rfl) (trivial) gX5_reckonValues_X1_kind rfl rfl rfl (by decide +kernel) ⟨by dsimp only; omega, by dsimp only; omega⟩ (q_recv hK (((hfz _ _ _ hW)).2 u.toNat (by omega)) (ci := 1) (q0 := 0) rfl rfl) rfl rfl hl.1 (Nat.le_of_ble_eq_true rfl) ⟨Nat.le_of_ble_eq_true rfl, Nat.le_of_ble_eq_true rfl⟩ dX5_reckonValues_27 ?_
    refine W.eq (g2 := F0 m 30 ls [.int (iI ((eK (fE F u.toNat)) i.toNat))]) rfl ?_
    have hKd := WFK_K ((hG.2 u.toNat (by omega)).2.1 i.toNat (by omega))
    refine q_bipush S0 (by decide) dX5_reckonValues_30 ?_
    refine q_icmp_ne (tgt := 45) S0 (by omega) dX5_reckonValues_32 (by decide) (fun c32 => ?_) (fun c32 => ?_)
    · skip
      refine lv_aload_n S0.1 S0.2.1 dX5_reckonValues_45 rfl (lv_at hl 3 rfl) ?_
      refine lv_iload_n S0.1 S0.2.1 dX5_reckonValues_46 rfl (lv_at hl 4 rfl) ?_
      refine lv_iload S0.1 S0.2.1 dX5_reckonValues_47 (lv_at hl 0 rfl) ?_
      refine lv_iload_n S0.1 S0.2.1 dX5_reckonValues_49 rfl (lv_at hl 5 rfl) ?_
      refine q_pV (n := 3) (rest := []) S0 hK (c_X5_valueOfNode l g rk t0 t1 t2 t3 q3 t4 t5 F (nV r1) u i x (hpr) (hu) (hnn.2) (by omega) ((hG.2 u.toNat (by omega)).2.1 i.toNat (by omega)) (hx) (VI_rng hG hu hx (by omega) hVI)) (subP hW.1 [0, 7, 8] rfl) (hfz _ _ _ hW) gX5_reckonValues_X5_valueOfNode rfl rfl rfl (by decide +kernel) ⟨by dsimp only; omega, by dsimp only; omega⟩ (q_recv hK hW.1 (ci := 5) (q0 := 0) rfl rfl) rfl rfl hl.1 (Nat.le_of_ble_eq_true rfl) ⟨Nat.le_of_ble_eq_true rfl, Nat.le_of_ble_eq_true rfl⟩ dX5_reckonValues_50 ?_
      refine W.eq (g2 := F0 m 53 ls [.int (iI (nvn (fP F) (fE F u.toNat) x (row (nV r1) u) i.toNat))]) rfl ?_
      refine q_nm (fun v9 hv9 => ?_)
      have hn9 : nvl (fP F) (fE F u.toNat) (vv (fP F) (fE F)) x (evs (fP F) (fE F u.toNat) (vv (fP F) (fE F)) x i.toNat).1 i.toNat = v9 := by rw [hv9]; exact VI_node hG hu (by omega) hVI c32
      have hvr : v9 = -1 ∨ (0 ≤ v9 ∧ v9 < fP F) := by rw [hv9]; exact nvn_rng (by omega) hx
      obtain ⟨r2, er2⟩ : ∃ z, z = r1 := ⟨_, rfl⟩
      rw [← er2] at hW
      have hI2 : RI F r2 := by rw [er2]; exact hI1
      have hrow : ∀ j : Nat, (j : Int) < i → row (nV r2) u j = row (nV r1) u j := fun j _ => by rw [er2]
      have hKP2 : KP u r r2 := by rw [er2]; exact hKP
      refine lv_istore (lv' := [(4, .int (iI v9)), (5, .int (iI i)), (3, .ref (fX F u.toNat)), (0, .ref rk), (1, .int (iI u)), (2, .int (iI x))]) S0.1 S0.2.1 dX5_reckonValues_53 hl (by decide) rfl (fun ls hl => ?_)
      refine lv_iload S0.1 S0.2.1 dX5_reckonValues_55 (lv_at hl 0 rfl) ?_
      refine q_iconst S0 dX5_reckonValues_57 ?_
      refine q_icmp_ne (tgt := 63) S0 (by omega) dX5_reckonValues_58 (by decide) (fun c58 => ?_) (fun c58 => ?_)
      · skip
        refine lv_aload_n S0.1 S0.2.1 dX5_reckonValues_63 rfl (lv_at hl 3 rfl) ?_
        refine q_get (C := RX5) (T := TX5) (N := 7) S0 hK hW.1 hinX5 0 rfl rfl 3 (by decide) (List.mem_of_getElem? (i := 2) rfl) rfl rfl dX5_reckonValues_64 ?_
        refine lv_iload_n S0.1 S0.2.1 dX5_reckonValues_67 rfl (lv_at hl 4 rfl) ?_
        refine lv_iload S0.1 S0.2.1 dX5_reckonValues_68 (lv_at hl 1 rfl) ?_
        refine lv_iload S0.1 S0.2.1 dX5_reckonValues_70 (lv_at hl 0 rfl) ?_
        refine q_cV (n := 3) (rest := []) (wr := [(rk, .inr (5, [.ref t0, .ref t1, .ref t2, .ref t3, .ref t4, .ref t5, .ref (fS F)])), (t0, .inr (8, [.int (iI 199), .ref q0])), (q0, gI g 796 (rV r2)), (t1, .inr (8, [.int (iI 199), .ref q1])), (q1, gI g 796 (rH r2)), (t2, .inr (8, [.int (iI 199), .ref q2])), (q2, gI g 796 (rR r2)), (t4, .inr (8, [.int (iI 40), .ref q4])), (q4, gI g 160 (nS r2)), (t5, .inr (8, [.int (iI 40), .ref q5])), (q5, gI g 160 (nW r2))]) S0 hK hA hW (c_X8_set40 l g t3 q3 (nV r2) u i v9 (by omega) (by omega)) gX5_reckonValues_X8_set rfl rfl rfl (by decide +kernel) ⟨by dsimp only; omega, by dsimp only; omega⟩ [7, 8] [0, 1, 2, 3, 4, 5, 6, 9, 10, 11, 12] rfl rfl rfl rfl (by decide) (q_recv hK hW.1 (ci := 8) (q0 := 7) rfl rfl) (fun _ _ => trivial) (trivial) rfl rfl hl.1 (Nat.le_of_ble_eq_true rfl) ⟨Nat.le_of_ble_eq_true rfl, Nat.le_of_ble_eq_true rfl⟩ dX5_reckonValues_72 (fun _ H locs _ hW => ?_)
        have hW : gW g A s.heap H _ [(rk, .inr (5, [.ref t0, .ref t1, .ref t2, .ref t3, .ref t4, .ref t5, .ref (fS F)])), (t0, .inr (8, [.int (iI 199), .ref q0])), (q0, gI g 796 (rV r2)), (t1, .inr (8, [.int (iI 199), .ref q1])), (q1, gI g 796 (rH r2)), (t2, .inr (8, [.int (iI 199), .ref q2])), (q2, gI g 796 (rR r2)), (t4, .inr (8, [.int (iI 40), .ref q4])), (q4, gI g 160 (nS r2)), (t5, .inr (8, [.int (iI 40), .ref q5])), (q5, gI g 160 (nW r2)), (t3, .inr (8, [.int (iI 40), .ref q3])), (q3, gI g 160 (up (nV r2) (u * 40 + i).toNat v9))] := hW
        refine W.eq (g2 := F0 m 75 ls []) rfl ?_
        refine q_iinc (lv' := [(5, .int (iI (i + 1))), (4, .int (iI v9)), (3, .ref (fX F u.toNat)), (0, .ref rk), (1, .int (iI u)), (2, .int (iI x))]) S0 dX5_reckonValues_75 hl (k := 1) rfl (by decide) rfl (fun ls hl => ?_)
        refine lv_goto (tgt := 15) S0.1 S0.2.1 dX5_reckonValues_78 (by decide) ?_
        exact IHl (i + 1, v9, mkR (rV r2) (rH r2) (rR r2) (up (nV r2) (u * 40 + i).toNat v9) (nS r2) (nW r2)) H locs ls (by exact ⟨hI2, KP_set (by omega) (by omega) r2 hKP2 ⟨v9, Or.inl rfl⟩ ⟨0, Or.inr rfl⟩ ⟨0, Or.inr rfl⟩, VI_next (by omega) (by omega) hVI hrow hn9 (by omega), by omega, by omega, fun _ => by show v9 = row (up (nV r2) (u * 40 + i).toNat v9) u (i + 1 - 1).toNat; rw [row_up (by omega) (by omega), if_pos (by omega)]⟩) (by (try dsimp only); omega) (hW.sub [0, 1, 2, 3, 4, 5, 6, 11, 12, 7, 8, 9, 10] rfl rfl) (lv_sub hl [0, 1, 2, 3, 4, 5] rfl)
      · skip
        refine q_iconst S0 dX5_reckonValues_61 ?_
        exact q_iret S0 hr hlocks r2 (⟨hI2, hKP2, fun h => absurd (VI_bad hG hu (by omega) (hn9.trans c58)) h⟩) (by rw [VI_bad hG hu (by omega) (hn9.trans c58)]) (hW.sub [0, 1, 2, 3, 4, 5, 6, 7, 8, 9, 10, 11, 12] rfl (rfl)) (Nat.le_of_ble_eq_true rfl) (Nat.le_of_ble_eq_true rfl) dX5_reckonValues_62
    · skip
      refine lv_aload_n S0.1 S0.2.1 dX5_reckonValues_35 rfl (lv_at hl 3 rfl) ?_
      refine lv_iload_n S0.1 S0.2.1 dX5_reckonValues_36 rfl (lv_at hl 4 rfl) ?_
      refine lv_iload S0.1 S0.2.1 dX5_reckonValues_37 (lv_at hl 0 rfl) ?_
      refine q_cV (n := 2) (rest := []) (wr := []) S0 hK hA hW (c_X5_valueOfCall l g F d rk t0 q0 t1 q1 t2 q2 t3 q3 t4 q4 t5 q5 r1 u i (IH) (hud) (hG) (hI1) (hu) (by omega) (c32) (VI_rng hG hu hx (by omega) hVI)) gX5_reckonValues_X5_valueOfCall rfl rfl rfl (by decide +kernel) ⟨by dsimp only; omega, by dsimp only; omega⟩ [0, 1, 2, 3, 4, 5, 6, 7, 8, 9, 10, 11, 12] [] rfl rfl rfl rfl (by decide) (q_recv hK hW.1 (ci := 5) (q0 := 0) rfl rfl) (hO) (hfz _ _ _ hW) rfl rfl hl.1 (Nat.le_of_ble_eq_true rfl) ⟨Nat.le_of_ble_eq_true rfl, Nat.le_of_ble_eq_true rfl⟩ dX5_reckonValues_39 ?_
      rintro r2 H locs hp hW
      try dsimp only at hp
      have hW : gW g A s.heap H _ [(rk, .inr (5, [.ref t0, .ref t1, .ref t2, .ref t3, .ref t4, .ref t5, .ref (fS F)])), (t0, .inr (8, [.int (iI 199), .ref q0])), (q0, gI g 796 (rV r2)), (t1, .inr (8, [.int (iI 199), .ref q1])), (q1, gI g 796 (rH r2)), (t2, .inr (8, [.int (iI 199), .ref q2])), (q2, gI g 796 (rR r2)), (t3, .inr (8, [.int (iI 40), .ref q3])), (q3, gI g 160 (nV r2)), (t4, .inr (8, [.int (iI 40), .ref q4])), (q4, gI g 160 (nS r2)), (t5, .inr (8, [.int (iI 40), .ref q5])), (q5, gI g 160 (nW r2))] := hW
      refine W.eq (g2 := F0 m 42 ls [.int (iI (vv (fP F) (fE F) (eU (fE F u.toNat) i.toNat).toNat (gv (row (nV r1) u) (eL (fE F u.toNat) i.toNat))))]) rfl ?_
      refine q_nm (fun v9 hv9 => ?_)
      have hn9 : nvl (fP F) (fE F u.toNat) (vv (fP F) (fE F)) x (evs (fP F) (fE F u.toNat) (vv (fP F) (fE F)) x i.toNat).1 i.toNat = v9 := by rw [hv9]; exact VI_call hG hu (by omega) hVI c32
      have hE9 := (hG.2 u.toNat (by omega)).2.1 i.toNat (by omega)
      have hU9 := WFK_U hE9 (by omega)
      have gu9 := gv_rng (w := row (nV r1) u) (p := fP F) (i := eL (fE F u.toNat) i.toNat) (k := i.toNat) (by omega) (VI_rng hG hu hx (by omega) hVI) (by omega) (WFK_L hE9)
      have hvr : v9 = -1 ∨ (0 ≤ v9 ∧ v9 < fP F) := by rw [hv9]; exact vv_rng (by omega) hG.2 _ (by have := hU9.2.2.2 c32; omega) _ gu9.1 gu9.2
      have hI2 := hp.1
      have hrow : ∀ j : Nat, (j : Int) < i → row (nV r2) u j = row (nV r1) u j := fun j _ => (hp.2 (u * 40 + j).toNat (by omega)).1
      have hKP2 : KP u r r2 := fun j hj => ⟨(hp.2 j (by omega)).1.trans (hKP j hj).1, (hp.2 j (by omega)).2.1.trans (hKP j hj).2.1, (hp.2 j (by omega)).2.2.trans (hKP j hj).2.2⟩
      refine lv_goto (tgt := 53) S0.1 S0.2.1 dX5_reckonValues_42 (by decide) ?_
      refine lv_istore (lv' := [(4, .int (iI v9)), (5, .int (iI i)), (3, .ref (fX F u.toNat)), (0, .ref rk), (1, .int (iI u)), (2, .int (iI x))]) S0.1 S0.2.1 dX5_reckonValues_53 hl (by decide) rfl (fun ls hl => ?_)
      refine lv_iload S0.1 S0.2.1 dX5_reckonValues_55 (lv_at hl 0 rfl) ?_
      refine q_iconst S0 dX5_reckonValues_57 ?_
      refine q_icmp_ne (tgt := 63) S0 (by omega) dX5_reckonValues_58 (by decide) (fun c58 => ?_) (fun c58 => ?_)
      · skip
        refine lv_aload_n S0.1 S0.2.1 dX5_reckonValues_63 rfl (lv_at hl 3 rfl) ?_
        refine q_get (C := RX5) (T := TX5) (N := 7) S0 hK hW.1 hinX5 0 rfl rfl 3 (by decide) (List.mem_of_getElem? (i := 2) rfl) rfl rfl dX5_reckonValues_64 ?_
        refine lv_iload_n S0.1 S0.2.1 dX5_reckonValues_67 rfl (lv_at hl 4 rfl) ?_
        refine lv_iload S0.1 S0.2.1 dX5_reckonValues_68 (lv_at hl 1 rfl) ?_
        refine lv_iload S0.1 S0.2.1 dX5_reckonValues_70 (lv_at hl 0 rfl) ?_
        refine q_cV (n := 3) (rest := []) (wr := [(rk, .inr (5, [.ref t0, .ref t1, .ref t2, .ref t3, .ref t4, .ref t5, .ref (fS F)])), (t0, .inr (8, [.int (iI 199), .ref q0])), (q0, gI g 796 (rV r2)), (t1, .inr (8, [.int (iI 199), .ref q1])), (q1, gI g 796 (rH r2)), (t2, .inr (8, [.int (iI 199), .ref q2])), (q2, gI g 796 (rR r2)), (t4, .inr (8, [.int (iI 40), .ref q4])), (q4, gI g 160 (nS r2)), (t5, .inr (8, [.int (iI 40), .ref q5])), (q5, gI g 160 (nW r2))]) S0 hK hA hW (c_X8_set40 l g t3 q3 (nV r2) u i v9 (by omega) (by omega)) gX5_reckonValues_X8_set rfl rfl rfl (by decide +kernel) ⟨by dsimp only; omega, by dsimp only; omega⟩ [7, 8] [0, 1, 2, 3, 4, 5, 6, 9, 10, 11, 12] rfl rfl rfl rfl (by decide) (q_recv hK hW.1 (ci := 8) (q0 := 7) rfl rfl) (fun _ _ => trivial) (trivial) rfl rfl hl.1 (Nat.le_of_ble_eq_true rfl) ⟨Nat.le_of_ble_eq_true rfl, Nat.le_of_ble_eq_true rfl⟩ dX5_reckonValues_72 (fun _ H locs _ hW => ?_)
        have hW : gW g A s.heap H _ [(rk, .inr (5, [.ref t0, .ref t1, .ref t2, .ref t3, .ref t4, .ref t5, .ref (fS F)])), (t0, .inr (8, [.int (iI 199), .ref q0])), (q0, gI g 796 (rV r2)), (t1, .inr (8, [.int (iI 199), .ref q1])), (q1, gI g 796 (rH r2)), (t2, .inr (8, [.int (iI 199), .ref q2])), (q2, gI g 796 (rR r2)), (t4, .inr (8, [.int (iI 40), .ref q4])), (q4, gI g 160 (nS r2)), (t5, .inr (8, [.int (iI 40), .ref q5])), (q5, gI g 160 (nW r2)), (t3, .inr (8, [.int (iI 40), .ref q3])), (q3, gI g 160 (up (nV r2) (u * 40 + i).toNat v9))] := hW
        refine W.eq (g2 := F0 m 75 ls []) rfl ?_
        refine q_iinc (lv' := [(5, .int (iI (i + 1))), (4, .int (iI v9)), (3, .ref (fX F u.toNat)), (0, .ref rk), (1, .int (iI u)), (2, .int (iI x))]) S0 dX5_reckonValues_75 hl (k := 1) rfl (by decide) rfl (fun ls hl => ?_)
        refine lv_goto (tgt := 15) S0.1 S0.2.1 dX5_reckonValues_78 (by decide) ?_
        exact IHl (i + 1, v9, mkR (rV r2) (rH r2) (rR r2) (up (nV r2) (u * 40 + i).toNat v9) (nS r2) (nW r2)) H locs ls (by exact ⟨hI2, KP_set (by omega) (by omega) r2 hKP2 ⟨v9, Or.inl rfl⟩ ⟨0, Or.inr rfl⟩ ⟨0, Or.inr rfl⟩, VI_next (by omega) (by omega) hVI hrow hn9 (by omega), by omega, by omega, fun _ => by show v9 = row (up (nV r2) (u * 40 + i).toNat v9) u (i + 1 - 1).toNat; rw [row_up (by omega) (by omega), if_pos (by omega)]⟩) (by (try dsimp only); omega) (hW.sub [0, 1, 2, 3, 4, 5, 6, 11, 12, 7, 8, 9, 10] rfl rfl) (lv_sub hl [0, 1, 2, 3, 4, 5] rfl)
      · skip
        refine q_iconst S0 dX5_reckonValues_61 ?_
        exact q_iret S0 hr hlocks r2 (⟨hI2, hKP2, fun h => absurd (VI_bad hG hu (by omega) (hn9.trans c58)) h⟩) (by rw [VI_bad hG hu (by omega) (hn9.trans c58)]) (hW.sub [0, 1, 2, 3, 4, 5, 6, 7, 8, 9, 10, 11, 12] rfl (rfl)) (Nat.le_of_ble_eq_true rfl) (Nat.le_of_ble_eq_true rfl) dX5_reckonValues_62
set_option maxHeartbeats 4000000 in
set_option maxRecDepth 100000 in
theorem c_X5_value (l : Launch) (g : GG) (F : FT) (d : Nat) (rk t0 q0 t1 q1 t2 q2 t3 q3 t4 q4 t5 q5 : Nat) (r : RT) (u x : Int) (IH : VALP l g F d) (hud : u ≤ d) (hG : GF F) (hI : RI F r) (hu : 0 ≤ u ∧ u < 4) (hx : 0 ≤ x ∧ x < fP F) : qMet l yX5_value wsX5_value ({ frames := 3 * d + 15, cells := 0, slots := 0, locals := 90 * d + 490 }) g [.ref rk, .int (iI u), .int (iI x)] [(rk, .inr (5, [.ref t0, .ref t1, .ref t2, .ref t3, .ref t4, .ref t5, .ref (fS F)])), (t0, .inr (8, [.int (iI 199), .ref q0])), (q0, gI g 796 (rV r)), (t1, .inr (8, [.int (iI 199), .ref q1])), (q1, gI g 796 (rH r)), (t2, .inr (8, [.int (iI 199), .ref q2])), (q2, gI g 796 (rR r)), (t3, .inr (8, [.int (iI 40), .ref q3])), (q3, gI g 160 (nV r)), (t4, .inr (8, [.int (iI 40), .ref q4])), (q4, gI g 160 (nS r)), (t5, .inr (8, [.int (iI 40), .ref q5])), (q5, gI g 160 (nW r))] (fun q => ¬ fzA F q) (FX g F) (S := RT) (fun u_ => some (.int (iI (vv (fP F) (fE F) u.toNat x)))) (fun u_ => [(rk, .inr (5, [.ref t0, .ref t1, .ref t2, .ref t3, .ref t4, .ref t5, .ref (fS F)])), (t0, .inr (8, [.int (iI 199), .ref q0])), (q0, gI g 796 (rV u_)), (t1, .inr (8, [.int (iI 199), .ref q1])), (q1, gI g 796 (rH u_)), (t2, .inr (8, [.int (iI 199), .ref q2])), (q2, gI g 796 (rR u_)), (t3, .inr (8, [.int (iI 40), .ref q3])), (q3, gI g 160 (nV u_)), (t4, .inr (8, [.int (iI 40), .ref q4])), (q4, gI g 160 (nS u_)), (t5, .inr (8, [.int (iI 40), .ref q5])), (q5, gI g 160 (nW u_))]) (fun u_ => RI F u_ ∧ KP u r u_) 0 0 := by
  refine q_ofW (cc := cX5_value) (maxL := 5) (ret := (some .int)) (fun sz h => h.self) (by decide) rfl (Nat.le_of_ble_eq_true rfl) ?_
  intro p e s m args below meth c A ls S0 hr hlocks hnme hK hA hAe hW hD0 hX hl
  have hW : gW g A s.heap s.heap [] [(rk, .inr (5, [.ref t0, .ref t1, .ref t2, .ref t3, .ref t4, .ref t5, .ref (fS F)])), (t0, .inr (8, [.int (iI 199), .ref q0])), (q0, gI g 796 (rV r)), (t1, .inr (8, [.int (iI 199), .ref q1])), (q1, gI g 796 (rH r)), (t2, .inr (8, [.int (iI 199), .ref q2])), (q2, gI g 796 (rR r)), (t3, .inr (8, [.int (iI 40), .ref q3])), (q3, gI g 160 (nV r)), (t4, .inr (8, [.int (iI 40), .ref q4])), (q4, gI g 160 (nS r)), (t5, .inr (8, [.int (iI 40), .ref q5])), (q5, gI g 160 (nW r))] := hW
  have hl : lv_has ls 5 [(0, .ref rk), (1, .int (iI u)), (2, .int (iI x))] := hl
  have hinX5 : ∀ w ∈ wsX50, w ∈ wsX5_value := fun w h => List.mem_cons_of_mem _ (List.mem_append_left _ (List.mem_append_left _ (List.mem_append_left _ (List.mem_append_left _ (List.mem_append_right _ h)))))
  have hpr := GF_p hG
  have hO := fz_out hX hD0 hAe
  have hfz : ∀ (H : Heap) (locs : List Loc) (ws : va_W), gW g A s.heap H locs ws → FX g F H := fun H locs ws h => fz_stay hX hO h
  have hR := hI u x hu.1 hu.2 hx.1 hx.2
  have hvr := GF_vv hG hu hx
  refine lv_aload_n S0.1 S0.2.1 dX5_value_0 rfl (lv_at hl 0 rfl) ?_
  refine q_get (C := RX5) (T := TX5) (N := 7) S0 hK hW.1 hinX5 0 rfl rfl 0 (by decide) (List.mem_of_getElem? (i := 1) rfl) rfl rfl dX5_value_1 ?_
  refine lv_iload_n S0.1 S0.2.1 dX5_value_4 rfl (lv_at hl 1 rfl) ?_
  refine lv_iload_n S0.1 S0.2.1 dX5_value_5 rfl (lv_at hl 2 rfl) ?_
  refine q_pV (n := 2) (rest := []) S0 hK (c_X8_get199 l g t0 q0 (rV r) u x (by omega) (by omega)) (subP hW.1 [1, 2] rfl) (trivial) gX5_value_X8_get rfl rfl rfl (by decide +kernel) ⟨by dsimp only; omega, by dsimp only; omega⟩ (q_recv hK hW.1 (ci := 8) (q0 := 1) rfl rfl) rfl rfl hl.1 (Nat.le_of_ble_eq_true rfl) ⟨Nat.le_of_ble_eq_true rfl, Nat.le_of_ble_eq_true rfl⟩ dX5_value_6 ?_
  refine W.eq (g2 := F0 m 9 ls [.int (iI ((rV r) (u * 199 + x).toNat))]) rfl ?_
  refine q_nm (fun kn hkn => ?_)
  refine lv_istore_n (lv' := [(3, .int (iI kn)), (0, .ref rk), (1, .int (iI u)), (2, .int (iI x))]) S0.1 S0.2.1 dX5_value_9 rfl hl (by decide) rfl (fun ls hl => ?_)
  refine lv_iload_n S0.1 S0.2.1 dX5_value_10 rfl (lv_at hl 0 rfl) ?_
  refine q_bipush S0 (by decide) dX5_value_11 ?_
  refine q_icmp_eq (tgt := 18) S0 (by rcases hR.1 with q | q <;> (first | omega | (rw [q] at hkn; omega))) dX5_value_13 (by decide) (fun c13 => ?_) (fun c13 => ?_)
  · skip
    refine lv_aload_n S0.1 S0.2.1 dX5_value_18 rfl (lv_at hl 1 rfl) ?_
    refine lv_iload_n S0.1 S0.2.1 dX5_value_19 rfl (lv_at hl 2 rfl) ?_
    refine lv_iload_n S0.1 S0.2.1 dX5_value_20 rfl (lv_at hl 3 rfl) ?_
    refine q_cV (n := 2) (rest := []) (wr := []) S0 hK hA hW (c_X5_reckonValues l g F d rk t0 q0 t1 q1 t2 q2 t3 q3 t4 q4 t5 q5 r u x (IH) (hud) (hG) (hI) (hu) (hx)) gX5_value_X5_reckonValues rfl rfl rfl (by decide +kernel) ⟨by dsimp only; omega, by dsimp only; omega⟩ [0, 1, 2, 3, 4, 5, 6, 7, 8, 9, 10, 11, 12] [] rfl rfl rfl rfl (by decide) (q_recv hK hW.1 (ci := 5) (q0 := 0) rfl rfl) (hO) (hfz _ _ _ hW) rfl rfl hl.1 (Nat.le_of_ble_eq_true rfl) ⟨Nat.le_of_ble_eq_true rfl, Nat.le_of_ble_eq_true rfl⟩ dX5_value_21 ?_
    rintro r1 H locs hp hW
    try dsimp only at hp
    have hW : gW g A s.heap H _ [(rk, .inr (5, [.ref t0, .ref t1, .ref t2, .ref t3, .ref t4, .ref t5, .ref (fS F)])), (t0, .inr (8, [.int (iI 199), .ref q0])), (q0, gI g 796 (rV r1)), (t1, .inr (8, [.int (iI 199), .ref q1])), (q1, gI g 796 (rH r1)), (t2, .inr (8, [.int (iI 199), .ref q2])), (q2, gI g 796 (rR r1)), (t3, .inr (8, [.int (iI 40), .ref q3])), (q3, gI g 160 (nV r1)), (t4, .inr (8, [.int (iI 40), .ref q4])), (q4, gI g 160 (nS r1)), (t5, .inr (8, [.int (iI 40), .ref q5])), (q5, gI g 160 (nW r1))] := hW
    refine W.eq (g2 := F0 m 24 ls [.int (iI (vv (fP F) (fE F) u.toNat x))]) rfl ?_
    refine lv_istore (lv' := [(4, .int (iI (vv (fP F) (fE F) u.toNat x))), (3, .int (iI kn)), (0, .ref rk), (1, .int (iI u)), (2, .int (iI x))]) S0.1 S0.2.1 dX5_value_24 hl (by decide) rfl (fun ls hl => ?_)
    refine lv_aload_n S0.1 S0.2.1 dX5_value_26 rfl (lv_at hl 2 rfl) ?_
    refine q_get (C := RX5) (T := TX5) (N := 7) S0 hK hW.1 hinX5 0 rfl rfl 0 (by decide) (List.mem_of_getElem? (i := 1) rfl) rfl rfl dX5_value_27 ?_
    refine lv_iload_n S0.1 S0.2.1 dX5_value_30 rfl (lv_at hl 3 rfl) ?_
    refine lv_iload_n S0.1 S0.2.1 dX5_value_31 rfl (lv_at hl 4 rfl) ?_
    refine lv_iload S0.1 S0.2.1 dX5_value_32 (lv_at hl 0 rfl) ?_
    refine q_cV (n := 3) (rest := []) (wr := [(rk, .inr (5, [.ref t0, .ref t1, .ref t2, .ref t3, .ref t4, .ref t5, .ref (fS F)])), (t1, .inr (8, [.int (iI 199), .ref q1])), (q1, gI g 796 (rH r1)), (t2, .inr (8, [.int (iI 199), .ref q2])), (q2, gI g 796 (rR r1)), (t3, .inr (8, [.int (iI 40), .ref q3])), (q3, gI g 160 (nV r1)), (t4, .inr (8, [.int (iI 40), .ref q4])), (q4, gI g 160 (nS r1)), (t5, .inr (8, [.int (iI 40), .ref q5])), (q5, gI g 160 (nW r1))]) S0 hK hA hW (c_X8_set199 l g t0 q0 (rV r1) u x (vv (fP F) (fE F) u.toNat x) (by omega) (by omega)) gX5_value_X8_set rfl rfl rfl (by decide +kernel) ⟨by dsimp only; omega, by dsimp only; omega⟩ [1, 2] [0, 3, 4, 5, 6, 7, 8, 9, 10, 11, 12] rfl rfl rfl rfl (by decide) (q_recv hK hW.1 (ci := 8) (q0 := 1) rfl rfl) (fun _ _ => trivial) (trivial) rfl rfl hl.1 (Nat.le_of_ble_eq_true rfl) ⟨Nat.le_of_ble_eq_true rfl, Nat.le_of_ble_eq_true rfl⟩ dX5_value_34 (fun _ H locs _ hW => ?_)
    have hW : gW g A s.heap H _ [(rk, .inr (5, [.ref t0, .ref t1, .ref t2, .ref t3, .ref t4, .ref t5, .ref (fS F)])), (t1, .inr (8, [.int (iI 199), .ref q1])), (q1, gI g 796 (rH r1)), (t2, .inr (8, [.int (iI 199), .ref q2])), (q2, gI g 796 (rR r1)), (t3, .inr (8, [.int (iI 40), .ref q3])), (q3, gI g 160 (nV r1)), (t4, .inr (8, [.int (iI 40), .ref q4])), (q4, gI g 160 (nS r1)), (t5, .inr (8, [.int (iI 40), .ref q5])), (q5, gI g 160 (nW r1)), (t0, .inr (8, [.int (iI 199), .ref q0])), (q0, gI g 796 (up (rV r1) (u * 199 + x).toNat (vv (fP F) (fE F) u.toNat x)))] := hW
    refine W.eq (g2 := F0 m 37 ls []) rfl ?_
    refine lv_iload S0.1 S0.2.1 dX5_value_37 (lv_at hl 0 rfl) ?_
    exact q_iret S0 hr hlocks (mkR (up (rV r1) (u * 199 + x).toNat (vv (fP F) (fE F) u.toNat x)) (rH r1) (rR r1) (nV r1) (nS r1) (nW r1)) (⟨RI_setV hpr.2 hp.1 hu hx, hp.2.1⟩) (rfl) (hW.sub [0, 11, 12, 1, 2, 3, 4, 5, 6, 7, 8, 9, 10] rfl (rfl)) (Nat.le_of_ble_eq_true rfl) (Nat.le_of_ble_eq_true rfl) dX5_value_39
  · skip
    refine lv_iload_n S0.1 S0.2.1 dX5_value_16 rfl (lv_at hl 0 rfl) ?_
    exact q_iret S0 hr hlocks r (⟨hI, KP_rfl⟩) (by rcases hR.1 with q | q <;> (first | (exfalso; omega) | (rw [hkn, q]))) (hW.sub [0, 1, 2, 3, 4, 5, 6, 7, 8, 9, 10, 11, 12] rfl (rfl)) (Nat.le_of_ble_eq_true rfl) (Nat.le_of_ble_eq_true rfl) dX5_value_17
theorem VAL_step (l : Launch) (g : GG) (F : FT) (hG : GF F) (d : Nat) (IH : VALP l g F d) : VALP l g F (d + 1) := fun rk t0 q0 t1 q1 t2 q2 t3 q3 t4 q4 t5 q5 r u x h0 hd h4 hx hI => c_X5_value l g F d rk t0 q0 t1 q1 t2 q2 t3 q3 t4 q4 t5 q5 r u x IH (by omega) hG hI ⟨h0, h4⟩ hx
theorem VAL_all (l : Launch) (g : GG) (F : FT) (hG : GF F) : ∀ d, VALP l g F d
  | 0 => fun rk t0 q0 t1 q1 t2 q2 t3 q3 t4 q4 t5 q5 r u x h0 hd h4 hx hI => absurd hd (by omega)
  | d + 1 => VAL_step l g F hG d (VAL_all l g F hG d)
