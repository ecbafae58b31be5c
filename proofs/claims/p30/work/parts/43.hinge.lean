def HSLP (l : Launch) (g : GG) (F : FT) (d : Nat) : Prop := ∀ (rk t0 q0 t1 q1 t2 q2 t3 q3 t4 q4 t5 q5 : Nat) (r : RT) (u x : Int), 0 ≤ u → u < d → u < 4 → 0 ≤ x ∧ x < fP F → RI F r → qMet l yX5_hingeSlope wsX5_hingeSlope ({ frames := 3 * d + 15, cells := 0, slots := 0, locals := 90 * d + 400 }) g [.ref rk, .int (iI u), .int (iI x)] [(rk, .inr (5, [.ref t0, .ref t1, .ref t2, .ref t3, .ref t4, .ref t5, .ref (fS F)])), (t0, .inr (8, [.int (iI 199), .ref q0])), (q0, gI g 796 (rV r)), (t1, .inr (8, [.int (iI 199), .ref q1])), (q1, gI g 796 (rH r)), (t2, .inr (8, [.int (iI 199), .ref q2])), (q2, gI g 796 (rR r)), (t3, .inr (8, [.int (iI 40), .ref q3])), (q3, gI g 160 (nV r)), (t4, .inr (8, [.int (iI 40), .ref q4])), (q4, gI g 160 (nS r)), (t5, .inr (8, [.int (iI 40), .ref q5])), (q5, gI g 160 (nW r))] (fun q => ¬ fzA F q) (FX g F) (S := RT) (fun u_ => some (.int (iI (hh (fP F) (fE F) u.toNat x)))) (fun u_ => [(rk, .inr (5, [.ref t0, .ref t1, .ref t2, .ref t3, .ref t4, .ref t5, .ref (fS F)])), (t0, .inr (8, [.int (iI 199), .ref q0])), (q0, gI g 796 (rV u_)), (t1, .inr (8, [.int (iI 199), .ref q1])), (q1, gI g 796 (rH u_)), (t2, .inr (8, [.int (iI 199), .ref q2])), (q2, gI g 796 (rR u_)), (t3, .inr (8, [.int (iI 40), .ref q3])), (q3, gI g 160 (nV u_)), (t4, .inr (8, [.int (iI 40), .ref q4])), (q4, gI g 160 (nS u_)), (t5, .inr (8, [.int (iI 40), .ref q5])), (q5, gI g 160 (nW u_))]) (fun u_ => RI F u_ ∧ KP u r u_ ∧ rV u_ (u * 199 + x).toNat = vv (fP F) (fE F) u.toNat x) 0 0
set_option maxHeartbeats 4000000 in
set_option maxRecDepth 100000 in
/-- the slope of a node that is no call -/
theorem c_X5_slopeOfNode (l : Launch) (g : GG) (rk t0 t1 t2 t3 q3 t4 q4 t5 : Nat) (F : FT) (N M : Nat → Int) (u k x : Int) (hp : 2 ≤ fP F ∧ fP F ≤ 199) (hu : 0 ≤ u ∧ u < 4) (hn : eN (fE F u.toNat) ≤ 40) (hk : 0 ≤ k ∧ k < eN (fE F u.toNat)) (hE : WFK (fE F u.toNat) u.toNat k.toNat) (hv : ∀ j, j < k.toNat → 0 ≤ row N u j ∧ row N u j < fP F) (hs : ∀ j, j < k.toNat → 0 ≤ row M u j ∧ row M u j < fP F) (hsx : 0 ≤ x ∧ x < fP F) (hc : ¬ eK (fE F u.toNat) k.toNat = 99) : qPure l yX5_slopeOfNode wsX5_slopeOfNode ({ frames := 2, cells := 0, slots := 0, locals := 47 }) g [.ref rk, .int (iI u), .int (iI k), .int (iI x)] [(rk, .inr (5, [.ref t0, .ref t1, .ref t2, .ref t3, .ref t4, .ref t5, .ref (fS F)])), (t3, .inr (8, [.int (iI 40), .ref q3])), (q3, gI g 160 N), (t4, .inr (8, [.int (iI 40), .ref q4])), (q4, gI g 160 M)] (FX g F) (some (.int (iI (nsl (fP F) (fE F u.toNat) (hh (fP F) (fE F)) x (row N u) (row M u) k.toNat)))) := by
  refine q_ofP (cc := cX5_slopeOfNode) (maxL := 10) (ret := (some .int)) (by decide) rfl (Nat.le_of_ble_eq_true rfl) ?_
  intro p e s m args below meth c ls S0 hr hlocks hK hP hX hl
  have hP : va_P g.1 vwCl [(rk, .inr (5, [.ref t0, .ref t1, .ref t2, .ref t3, .ref t4, .ref t5, .ref (fS F)])), (t3, .inr (8, [.int (iI 40), .ref q3])), (q3, gI g 160 N), (t4, .inr (8, [.int (iI 40), .ref q4])), (q4, gI g 160 M)] s.heap := hP
  have hl : lv_has ls 10 [(0, .ref rk), (1, .int (iI u)), (2, .int (iI k)), (3, .int (iI x))] := hl
  have hinX5 : ∀ w ∈ wsX50, w ∈ wsX5_slopeOfNode := fun w h => List.mem_cons_of_mem _ (List.mem_append_left _ (List.mem_append_left _ (List.mem_append_left _ (List.mem_append_left _ (List.mem_append_right _ h)))))
  have hL := WFK_L hE
  have hV := WFK_V hE
  have hU := WFK_U hE (by omega)
  have gu := gv_rng (w := row N u) (p := fP F) (i := eL (fE F u.toNat) k.toNat) (k := k.toNat) (by omega) hv (by omega) hL
  have gw := gv_rng (w := row N u) (p := fP F) (i := eV (fE F u.toNat) k.toNat) (k := k.toNat) (by omega) hv (by omega) hV
  have hKK := WFK_K hE
  have gs := gv_rng (w := row M u) (p := fP F) (i := eL (fE F u.toNat) k.toNat) (k := k.toNat) (by omega) hs (by omega) hL
  have gt := gv_rng (w := row M u) (p := fP F) (i := eV (fE F u.toNat) k.toNat) (k := k.toNat) (by omega) hs (by omega) hV
  refine lv_aload_n S0.1 S0.2.1 dX5_slopeOfNode_0 rfl (lv_at hl 0 rfl) ?_
  refine q_get (C := RX5) (T := TX5) (N := 7) S0 hK hP hinX5 0 rfl rfl 6 (by decide) (List.mem_of_getElem? (i := 1) rfl) rfl rfl dX5_slopeOfNode_1 ?_
  refine lv_iload_n S0.1 S0.2.1 dX5_slopeOfNode_4 rfl (lv_at hl 1 rfl) ?_
  refine q_pV (n := 1) (rest := []) S0 hK (c_X7_exprOf l g (fS F) (fR F) (fX F) u (by omega)) (subP (hX).1 [0] rfl) (trivial) gX5_slopeOfNode_X7_expressionOf rfl rfl rfl (by decide +kernel) ⟨Nat.le_of_ble_eq_true rfl, Nat.le_of_ble_eq_true rfl⟩ (q_recv hK (hX).1 (ci := 7) (q0 := 0) rfl rfl) rfl rfl hl.1 (Nat.le_of_ble_eq_true rfl) ⟨Nat.le_of_ble_eq_true rfl, Nat.le_of_ble_eq_true rfl⟩ dX5_slopeOfNode_5 ?_
  refine W.eq (g2 := F0 m 8 ls [.ref (fX F u.toNat)]) rfl ?_
  refine lv_astore (lv' := [(4, .ref (fX F u.toNat)), (0, .ref rk), (1, .int (iI u)), (2, .int (iI k)), (3, .int (iI x))]) S0.1 S0.2.1 dX5_slopeOfNode_8 hl (by decide) rfl (fun ls hl => ?_)
  refine lv_aload_n S0.1 S0.2.1 dX5_slopeOfNode_10 rfl (lv_at hl 1 rfl) ?_
  refine q_get (C := RX5) (T := TX5) (N := 7) S0 hK hP hinX5 0 rfl rfl 6 (by decide) (List.mem_of_getElem? (i := 1) rfl) rfl rfl dX5_slopeOfNode_11 ?_
  refine q_pV (n := 0) (rest := []) S0 hK (c_X7_numbers l g (fS F) (fR F) (fX F 0) (fX F 1) (fX F 2) (fX F 3)) (subP (hX).1 [0] rfl) (trivial) gX5_slopeOfNode_X7_numbers rfl rfl rfl (by decide +kernel) ⟨Nat.le_of_ble_eq_true rfl, Nat.le_of_ble_eq_true rfl⟩ (q_recv hK (hX).1 (ci := 7) (q0 := 0) rfl rfl) rfl rfl hl.1 (Nat.le_of_ble_eq_true rfl) ⟨Nat.le_of_ble_eq_true rfl, Nat.le_of_ble_eq_true rfl⟩ dX5_slopeOfNode_14 ?_
  refine W.eq (g2 := F0 m 17 ls [.ref (fR F)]) rfl ?_
  refine lv_astore (lv' := [(5, .ref (fR F)), (4, .ref (fX F u.toNat)), (0, .ref rk), (1, .int (iI u)), (2, .int (iI k)), (3, .int (iI x))]) S0.1 S0.2.1 dX5_slopeOfNode_17 hl (by decide) rfl (fun ls hl => ?_)
  refine lv_aload_n S0.1 S0.2.1 dX5_slopeOfNode_19 rfl (lv_at hl 2 rfl) ?_
  refine q_get (C := RX5) (T := TX5) (N := 7) S0 hK hP hinX5 0 rfl rfl 3 (by decide) (List.mem_of_getElem? (i := 2) rfl) rfl rfl dX5_slopeOfNode_20 ?_
  refine lv_iload_n S0.1 S0.2.1 dX5_slopeOfNode_23 rfl (lv_at hl 3 rfl) ?_
  refine lv_aload S0.1 S0.2.1 dX5_slopeOfNode_24 (lv_at hl 1 rfl) ?_
  refine lv_iload_n S0.1 S0.2.1 dX5_slopeOfNode_26 rfl (lv_at hl 4 rfl) ?_
  refine q_pV (n := 1) (rest := [.int (iI u), .ref t3]) S0 hK (c_X1_leftI l g (fX F u.toNat) (fK F u.toNat 1) (fK F u.toNat 2) (fK F u.toNat 3) (fK F u.toNat 4) (fD F u.toNat) (fU F u.toNat) (fL F u.toNat) (eN (fE F u.toNat)) (eL (fE F u.toNat)) k (by omega) (by omega)) (subP ((hX).2 u.toNat (by omega)) [0, 3] rfl) (trivial) gX5_slopeOfNode_X1_left rfl rfl rfl (by decide +kernel) ⟨Nat.le_of_ble_eq_true rfl, Nat.le_of_ble_eq_true rfl⟩ (q_recv hK ((hX).2 u.toNat (by omega)) (ci := 1) (q0 := 0) rfl rfl) rfl rfl hl.1 (Nat.le_of_ble_eq_true rfl) ⟨Nat.le_of_ble_eq_true rfl, Nat.le_of_ble_eq_true rfl⟩ dX5_slopeOfNode_27 ?_
  refine W.eq (g2 := F0 m 30 ls [.int (iI ((eL (fE F u.toNat)) k.toNat)), .int (iI u), .ref t3]) rfl ?_
  refine q_pV (n := 2) (rest := []) S0 hK (c_X8_get40 l g t3 q3 N u ((eL (fE F u.toNat)) k.toNat) (by omega) (by omega)) (subP hP [1, 2] rfl) (trivial) gX5_slopeOfNode_X8_get rfl rfl rfl (by decide +kernel) ⟨Nat.le_of_ble_eq_true rfl, Nat.le_of_ble_eq_true rfl⟩ (q_recv hK hP (ci := 8) (q0 := 1) rfl rfl) rfl rfl hl.1 (Nat.le_of_ble_eq_true rfl) ⟨Nat.le_of_ble_eq_true rfl, Nat.le_of_ble_eq_true rfl⟩ dX5_slopeOfNode_30 ?_
  refine W.eq (g2 := F0 m 33 ls [.int (iI (gv (row N u) ((eL (fE F u.toNat)) k.toNat)))]) rfl ?_
  refine lv_istore (lv' := [(6, .int (iI (gv (row N u) ((eL (fE F u.toNat)) k.toNat)))), (5, .ref (fR F)), (4, .ref (fX F u.toNat)), (0, .ref rk), (1, .int (iI u)), (2, .int (iI k)), (3, .int (iI x))]) S0.1 S0.2.1 dX5_slopeOfNode_33 hl (by decide) rfl (fun ls hl => ?_)
  refine lv_aload_n S0.1 S0.2.1 dX5_slopeOfNode_35 rfl (lv_at hl 3 rfl) ?_
  refine q_get (C := RX5) (T := TX5) (N := 7) S0 hK hP hinX5 0 rfl rfl 3 (by decide) (List.mem_of_getElem? (i := 2) rfl) rfl rfl dX5_slopeOfNode_36 ?_
  refine lv_iload_n S0.1 S0.2.1 dX5_slopeOfNode_39 rfl (lv_at hl 4 rfl) ?_
  refine lv_aload S0.1 S0.2.1 dX5_slopeOfNode_40 (lv_at hl 2 rfl) ?_
  refine lv_iload_n S0.1 S0.2.1 dX5_slopeOfNode_42 rfl (lv_at hl 5 rfl) ?_
  refine q_pV (n := 1) (rest := [.int (iI u), .ref t3]) S0 hK (c_X1_rightI l g (fX F u.toNat) (fK F u.toNat 1) (fK F u.toNat 2) (fK F u.toNat 3) (fK F u.toNat 4) (fD F u.toNat) (fU F u.toNat) (fL F u.toNat) (eN (fE F u.toNat)) (eV (fE F u.toNat)) k (by omega) (by omega)) (subP ((hX).2 u.toNat (by omega)) [0, 4] rfl) (trivial) gX5_slopeOfNode_X1_right rfl rfl rfl (by decide +kernel) ⟨Nat.le_of_ble_eq_true rfl, Nat.le_of_ble_eq_true rfl⟩ (q_recv hK ((hX).2 u.toNat (by omega)) (ci := 1) (q0 := 0) rfl rfl) rfl rfl hl.1 (Nat.le_of_ble_eq_true rfl) ⟨Nat.le_of_ble_eq_true rfl, Nat.le_of_ble_eq_true rfl⟩ dX5_slopeOfNode_43 ?_
  refine W.eq (g2 := F0 m 46 ls [.int (iI ((eV (fE F u.toNat)) k.toNat)), .int (iI u), .ref t3]) rfl ?_
  refine q_pV (n := 2) (rest := []) S0 hK (c_X8_get40 l g t3 q3 N u ((eV (fE F u.toNat)) k.toNat) (by omega) (by omega)) (subP hP [1, 2] rfl) (trivial) gX5_slopeOfNode_X8_get rfl rfl rfl (by decide +kernel) ⟨Nat.le_of_ble_eq_true rfl, Nat.le_of_ble_eq_true rfl⟩ (q_recv hK hP (ci := 8) (q0 := 1) rfl rfl) rfl rfl hl.1 (Nat.le_of_ble_eq_true rfl) ⟨Nat.le_of_ble_eq_true rfl, Nat.le_of_ble_eq_true rfl⟩ dX5_slopeOfNode_46 ?_
  refine W.eq (g2 := F0 m 49 ls [.int (iI (gv (row N u) ((eV (fE F u.toNat)) k.toNat)))]) rfl ?_
  refine lv_istore (lv' := [(7, .int (iI (gv (row N u) ((eV (fE F u.toNat)) k.toNat)))), (6, .int (iI (gv (row N u) ((eL (fE F u.toNat)) k.toNat)))), (5, .ref (fR F)), (4, .ref (fX F u.toNat)), (0, .ref rk), (1, .int (iI u)), (2, .int (iI k)), (3, .int (iI x))]) S0.1 S0.2.1 dX5_slopeOfNode_49 hl (by decide) rfl (fun ls hl => ?_)
  refine lv_aload_n S0.1 S0.2.1 dX5_slopeOfNode_51 rfl (lv_at hl 4 rfl) ?_
  refine q_get (C := RX5) (T := TX5) (N := 7) S0 hK hP hinX5 0 rfl rfl 4 (by decide) (List.mem_of_getElem? (i := 3) rfl) rfl rfl dX5_slopeOfNode_52 ?_
  refine lv_iload_n S0.1 S0.2.1 dX5_slopeOfNode_55 rfl (lv_at hl 5 rfl) ?_
  refine lv_aload S0.1 S0.2.1 dX5_slopeOfNode_56 (lv_at hl 3 rfl) ?_
  refine lv_iload_n S0.1 S0.2.1 dX5_slopeOfNode_58 rfl (lv_at hl 6 rfl) ?_
  refine q_pV (n := 1) (rest := [.int (iI u), .ref t4]) S0 hK (c_X1_leftI l g (fX F u.toNat) (fK F u.toNat 1) (fK F u.toNat 2) (fK F u.toNat 3) (fK F u.toNat 4) (fD F u.toNat) (fU F u.toNat) (fL F u.toNat) (eN (fE F u.toNat)) (eL (fE F u.toNat)) k (by omega) (by omega)) (subP ((hX).2 u.toNat (by omega)) [0, 3] rfl) (trivial) gX5_slopeOfNode_X1_left rfl rfl rfl (by decide +kernel) ⟨Nat.le_of_ble_eq_true rfl, Nat.le_of_ble_eq_true rfl⟩ (q_recv hK ((hX).2 u.toNat (by omega)) (ci := 1) (q0 := 0) rfl rfl) rfl rfl hl.1 (Nat.le_of_ble_eq_true rfl) ⟨Nat.le_of_ble_eq_true rfl, Nat.le_of_ble_eq_true rfl⟩ dX5_slopeOfNode_59 ?_
  refine W.eq (g2 := F0 m 62 ls [.int (iI ((eL (fE F u.toNat)) k.toNat)), .int (iI u), .ref t4]) rfl ?_
  refine q_pV (n := 2) (rest := []) S0 hK (c_X8_get40 l g t4 q4 M u ((eL (fE F u.toNat)) k.toNat) (by omega) (by omega)) (subP hP [3, 4] rfl) (trivial) gX5_slopeOfNode_X8_get rfl rfl rfl (by decide +kernel) ⟨Nat.le_of_ble_eq_true rfl, Nat.le_of_ble_eq_true rfl⟩ (q_recv hK hP (ci := 8) (q0 := 3) rfl rfl) rfl rfl hl.1 (Nat.le_of_ble_eq_true rfl) ⟨Nat.le_of_ble_eq_true rfl, Nat.le_of_ble_eq_true rfl⟩ dX5_slopeOfNode_62 ?_
  refine W.eq (g2 := F0 m 65 ls [.int (iI (gv (row M u) ((eL (fE F u.toNat)) k.toNat)))]) rfl ?_
  refine lv_istore (lv' := [(8, .int (iI (gv (row M u) ((eL (fE F u.toNat)) k.toNat)))), (7, .int (iI (gv (row N u) ((eV (fE F u.toNat)) k.toNat)))), (6, .int (iI (gv (row N u) ((eL (fE F u.toNat)) k.toNat)))), (5, .ref (fR F)), (4, .ref (fX F u.toNat)), (0, .ref rk), (1, .int (iI u)), (2, .int (iI k)), (3, .int (iI x))]) S0.1 S0.2.1 dX5_slopeOfNode_65 hl (by decide) rfl (fun ls hl => ?_)
  refine lv_aload_n S0.1 S0.2.1 dX5_slopeOfNode_67 rfl (lv_at hl 5 rfl) ?_
  refine q_get (C := RX5) (T := TX5) (N := 7) S0 hK hP hinX5 0 rfl rfl 4 (by decide) (List.mem_of_getElem? (i := 3) rfl) rfl rfl dX5_slopeOfNode_68 ?_
  refine lv_iload_n S0.1 S0.2.1 dX5_slopeOfNode_71 rfl (lv_at hl 6 rfl) ?_
  refine lv_aload S0.1 S0.2.1 dX5_slopeOfNode_72 (lv_at hl 4 rfl) ?_
  refine lv_iload_n S0.1 S0.2.1 dX5_slopeOfNode_74 rfl (lv_at hl 7 rfl) ?_
  refine q_pV (n := 1) (rest := [.int (iI u), .ref t4]) S0 hK (c_X1_rightI l g (fX F u.toNat) (fK F u.toNat 1) (fK F u.toNat 2) (fK F u.toNat 3) (fK F u.toNat 4) (fD F u.toNat) (fU F u.toNat) (fL F u.toNat) (eN (fE F u.toNat)) (eV (fE F u.toNat)) k (by omega) (by omega)) (subP ((hX).2 u.toNat (by omega)) [0, 4] rfl) (trivial) gX5_slopeOfNode_X1_right rfl rfl rfl (by decide +kernel) ⟨Nat.le_of_ble_eq_true rfl, Nat.le_of_ble_eq_true rfl⟩ (q_recv hK ((hX).2 u.toNat (by omega)) (ci := 1) (q0 := 0) rfl rfl) rfl rfl hl.1 (Nat.le_of_ble_eq_true rfl) ⟨Nat.le_of_ble_eq_true rfl, Nat.le_of_ble_eq_true rfl⟩ dX5_slopeOfNode_75 ?_
  refine W.eq (g2 := F0 m 78 ls [.int (iI ((eV (fE F u.toNat)) k.toNat)), .int (iI u), .ref t4]) rfl ?_
  refine q_pV (n := 2) (rest := []) S0 hK (c_X8_get40 l g t4 q4 M u ((eV (fE F u.toNat)) k.toNat) (by omega) (by omega)) (subP hP [3, 4] rfl) (trivial) gX5_slopeOfNode_X8_get rfl rfl rfl (by decide +kernel) ⟨Nat.le_of_ble_eq_true rfl, Nat.le_of_ble_eq_true rfl⟩ (q_recv hK hP (ci := 8) (q0 := 3) rfl rfl) rfl rfl hl.1 (Nat.le_of_ble_eq_true rfl) ⟨Nat.le_of_ble_eq_true rfl, Nat.le_of_ble_eq_true rfl⟩ dX5_slopeOfNode_78 ?_
  refine W.eq (g2 := F0 m 81 ls [.int (iI (gv (row M u) ((eV (fE F u.toNat)) k.toNat)))]) rfl ?_
  refine lv_istore (lv' := [(9, .int (iI (gv (row M u) ((eV (fE F u.toNat)) k.toNat)))), (8, .int (iI (gv (row M u) ((eL (fE F u.toNat)) k.toNat)))), (7, .int (iI (gv (row N u) ((eV (fE F u.toNat)) k.toNat)))), (6, .int (iI (gv (row N u) ((eL (fE F u.toNat)) k.toNat)))), (5, .ref (fR F)), (4, .ref (fX F u.toNat)), (0, .ref rk), (1, .int (iI u)), (2, .int (iI k)), (3, .int (iI x))]) S0.1 S0.2.1 dX5_slopeOfNode_81 hl (by decide) rfl (fun ls hl => ?_)
  refine lv_aload S0.1 S0.2.1 dX5_slopeOfNode_83 (lv_at hl 5 rfl) ?_
  refine lv_iload_n S0.1 S0.2.1 dX5_slopeOfNode_85 rfl (lv_at hl 8 rfl) ?_
  refine q_pV (n := 1) (rest := []) S0 hK (c_X1_kindI l g (fX F u.toNat) (fK F u.toNat 1) (fK F u.toNat 2) (fK F u.toNat 3) (fK F u.toNat 4) (fD F u.toNat) (fU F u.toNat) (fL F u.toNat) (eN (fE F u.toNat)) (eK (fE F u.toNat)) k (by omega) (by omega)) (subP ((hX).2 u.toNat (by omega)) [0, 1] rfl) (trivial) gX5_slopeOfNode_X1_kind rfl rfl rfl (by decide +kernel) ⟨Nat.le_of_ble_eq_true rfl, Nat.le_of_ble_eq_true rfl⟩ (q_recv hK ((hX).2 u.toNat (by omega)) (ci := 1) (q0 := 0) rfl rfl) rfl rfl hl.1 (Nat.le_of_ble_eq_true rfl) ⟨Nat.le_of_ble_eq_true rfl, Nat.le_of_ble_eq_true rfl⟩ dX5_slopeOfNode_86 ?_
  refine W.eq (g2 := F0 m 89 ls [.int (iI ((eK (fE F u.toNat)) k.toNat))]) rfl ?_
  by_cases k89_42 : (eK (fE F u.toNat)) k.toNat = 42
  · refine q_topI k89_42 ?_
    refine lv_lookup (off := 98) (tgt := 187) S0.1 S0.2.1 dX5_slopeOfNode_89 (by decide) (by decide) (by decide) ?_
    refine lv_aload S0.1 S0.2.1 dX5_slopeOfNode_187 (lv_at hl 4 rfl) ?_
    refine lv_iload S0.1 S0.2.1 dX5_slopeOfNode_189 (lv_at hl 1 rfl) ?_
    refine lv_iload S0.1 S0.2.1 dX5_slopeOfNode_191 (lv_at hl 2 rfl) ?_
    refine q_imul S0 dX5_slopeOfNode_193 ?_
    refine lv_iload S0.1 S0.2.1 dX5_slopeOfNode_194 (lv_at hl 3 rfl) ?_
    refine lv_iload S0.1 S0.2.1 dX5_slopeOfNode_196 (lv_at hl 0 rfl) ?_
    refine q_imul S0 dX5_slopeOfNode_198 ?_
    refine q_iadd S0 dX5_slopeOfNode_199 ?_
    have hm1 := mul_rng (a := gv (row M u) (eL (fE F u.toNat) k.toNat)) (b := gv (row N u) (eV (fE F u.toNat) k.toNat)) (n := 200) (k := 200) (by omega) (by omega)
    have hm2 := mul_rng (a := gv (row N u) (eL (fE F u.toNat) k.toNat)) (b := gv (row M u) (eV (fE F u.toNat) k.toNat)) (n := 200) (k := 200) (by omega) (by omega)
    refine q_pV (n := 1) (rest := []) S0 hK (c_X6_of l g (fR F) (fP F) (((gv (row M u) ((eL (fE F u.toNat)) k.toNat)) * (gv (row N u) ((eV (fE F u.toNat)) k.toNat))) + ((gv (row N u) ((eL (fE F u.toNat)) k.toNat)) * (gv (row M u) ((eV (fE F u.toNat)) k.toNat)))) (by omega) (by omega)) (subP (hX).1 [1] rfl) (trivial) gX5_slopeOfNode_X6_of rfl rfl rfl (by decide +kernel) ⟨Nat.le_of_ble_eq_true rfl, Nat.le_of_ble_eq_true rfl⟩ (q_recv hK (hX).1 (ci := 6) (q0 := 1) rfl rfl) rfl rfl hl.1 (Nat.le_of_ble_eq_true rfl) ⟨Nat.le_of_ble_eq_true rfl, Nat.le_of_ble_eq_true rfl⟩ dX5_slopeOfNode_200 ?_
    refine W.eq (g2 := F0 m 203 ls [.int (iI ((((gv (row M u) ((eL (fE F u.toNat)) k.toNat)) * (gv (row N u) ((eV (fE F u.toNat)) k.toNat))) + ((gv (row N u) ((eL (fE F u.toNat)) k.toNat)) * (gv (row M u) ((eV (fE F u.toNat)) k.toNat)))) % (fP F)))]) rfl ?_
    exact qp_iret S0 hr hlocks (by unfold nsl inv'; (repeat (first | rw [if_pos (by omega)] | rw [if_neg (by omega)])); first | done | rfl) dX5_slopeOfNode_203
  by_cases k89_43 : (eK (fE F u.toNat)) k.toNat = 43
  · refine q_topI k89_43 ?_
    refine lv_lookup (off := 78) (tgt := 167) S0.1 S0.2.1 dX5_slopeOfNode_89 (by decide) (by decide) (by decide) ?_
    refine lv_aload S0.1 S0.2.1 dX5_slopeOfNode_167 (lv_at hl 4 rfl) ?_
    refine lv_iload S0.1 S0.2.1 dX5_slopeOfNode_169 (lv_at hl 1 rfl) ?_
    refine lv_iload S0.1 S0.2.1 dX5_slopeOfNode_171 (lv_at hl 0 rfl) ?_
    refine q_pV (n := 2) (rest := []) S0 hK (c_X6_add l g (fR F) (fP F) (gv (row M u) ((eL (fE F u.toNat)) k.toNat)) (gv (row M u) ((eV (fE F u.toNat)) k.toNat)) (by omega) (by omega)) (subP (hX).1 [1] rfl) (trivial) gX5_slopeOfNode_X6_add rfl rfl rfl (by decide +kernel) ⟨Nat.le_of_ble_eq_true rfl, Nat.le_of_ble_eq_true rfl⟩ (q_recv hK (hX).1 (ci := 6) (q0 := 1) rfl rfl) rfl rfl hl.1 (Nat.le_of_ble_eq_true rfl) ⟨Nat.le_of_ble_eq_true rfl, Nat.le_of_ble_eq_true rfl⟩ dX5_slopeOfNode_173 ?_
    refine W.eq (g2 := F0 m 176 ls [.int (iI (((gv (row M u) ((eL (fE F u.toNat)) k.toNat)) + (gv (row M u) ((eV (fE F u.toNat)) k.toNat))) % (fP F)))]) rfl ?_
    exact qp_iret S0 hr hlocks (by unfold nsl inv'; (repeat (first | rw [if_pos (by omega)] | rw [if_neg (by omega)])); first | done | rfl) dX5_slopeOfNode_176
  by_cases k89_45 : (eK (fE F u.toNat)) k.toNat = 45
  · refine q_topI k89_45 ?_
    refine lv_lookup (off := 88) (tgt := 177) S0.1 S0.2.1 dX5_slopeOfNode_89 (by decide) (by decide) (by decide) ?_
    refine lv_aload S0.1 S0.2.1 dX5_slopeOfNode_177 (lv_at hl 4 rfl) ?_
    refine lv_iload S0.1 S0.2.1 dX5_slopeOfNode_179 (lv_at hl 1 rfl) ?_
    refine lv_iload S0.1 S0.2.1 dX5_slopeOfNode_181 (lv_at hl 0 rfl) ?_
    refine q_pV (n := 2) (rest := []) S0 hK (c_X6_subtract l g (fR F) (fP F) (gv (row M u) ((eL (fE F u.toNat)) k.toNat)) (gv (row M u) ((eV (fE F u.toNat)) k.toNat)) (by omega) (by omega)) (subP (hX).1 [1] rfl) (trivial) gX5_slopeOfNode_X6_subtract rfl rfl rfl (by decide +kernel) ⟨Nat.le_of_ble_eq_true rfl, Nat.le_of_ble_eq_true rfl⟩ (q_recv hK (hX).1 (ci := 6) (q0 := 1) rfl rfl) rfl rfl hl.1 (Nat.le_of_ble_eq_true rfl) ⟨Nat.le_of_ble_eq_true rfl, Nat.le_of_ble_eq_true rfl⟩ dX5_slopeOfNode_183 ?_
    refine W.eq (g2 := F0 m 186 ls [.int (iI (((gv (row M u) ((eL (fE F u.toNat)) k.toNat)) - (gv (row M u) ((eV (fE F u.toNat)) k.toNat))) % (fP F)))]) rfl ?_
    exact qp_iret S0 hr hlocks (by unfold nsl inv'; (repeat (first | rw [if_pos (by omega)] | rw [if_neg (by omega)])); first | done | rfl) dX5_slopeOfNode_186
  by_cases k89_47 : (eK (fE F u.toNat)) k.toNat = 47
  · refine q_topI k89_47 ?_
    refine lv_lookup (off := 115) (tgt := 204) S0.1 S0.2.1 dX5_slopeOfNode_89 (by decide) (by decide) (by decide) ?_
    refine lv_aload S0.1 S0.2.1 dX5_slopeOfNode_204 (lv_at hl 4 rfl) ?_
    refine lv_aload S0.1 S0.2.1 dX5_slopeOfNode_206 (lv_at hl 4 rfl) ?_
    refine lv_iload S0.1 S0.2.1 dX5_slopeOfNode_208 (lv_at hl 1 rfl) ?_
    refine lv_iload S0.1 S0.2.1 dX5_slopeOfNode_210 (lv_at hl 2 rfl) ?_
    refine q_imul S0 dX5_slopeOfNode_212 ?_
    refine lv_iload S0.1 S0.2.1 dX5_slopeOfNode_213 (lv_at hl 3 rfl) ?_
    refine lv_iload S0.1 S0.2.1 dX5_slopeOfNode_215 (lv_at hl 0 rfl) ?_
    refine q_imul S0 dX5_slopeOfNode_217 ?_
    refine q_isub S0 dX5_slopeOfNode_218 ?_
    have hm1 := mul_rng (a := gv (row M u) (eL (fE F u.toNat) k.toNat)) (b := gv (row N u) (eV (fE F u.toNat) k.toNat)) (n := 200) (k := 200) (by omega) (by omega)
    have hm2 := mul_rng (a := gv (row N u) (eL (fE F u.toNat) k.toNat)) (b := gv (row M u) (eV (fE F u.toNat) k.toNat)) (n := 200) (k := 200) (by omega) (by omega)
    refine q_pV (n := 1) (rest := [.ref (fR F)]) S0 hK (c_X6_of l g (fR F) (fP F) (((gv (row M u) ((eL (fE F u.toNat)) k.toNat)) * (gv (row N u) ((eV (fE F u.toNat)) k.toNat))) - ((gv (row N u) ((eL (fE F u.toNat)) k.toNat)) * (gv (row M u) ((eV (fE F u.toNat)) k.toNat)))) (by omega) (by omega)) (subP (hX).1 [1] rfl) (trivial) gX5_slopeOfNode_X6_of rfl rfl rfl (by decide +kernel) ⟨Nat.le_of_ble_eq_true rfl, Nat.le_of_ble_eq_true rfl⟩ (q_recv hK (hX).1 (ci := 6) (q0 := 1) rfl rfl) rfl rfl hl.1 (Nat.le_of_ble_eq_true rfl) ⟨Nat.le_of_ble_eq_true rfl, Nat.le_of_ble_eq_true rfl⟩ dX5_slopeOfNode_219 ?_
    refine W.eq (g2 := F0 m 222 ls [.int (iI ((((gv (row M u) ((eL (fE F u.toNat)) k.toNat)) * (gv (row N u) ((eV (fE F u.toNat)) k.toNat))) - ((gv (row N u) ((eL (fE F u.toNat)) k.toNat)) * (gv (row M u) ((eV (fE F u.toNat)) k.toNat)))) % (fP F))), .ref (fR F)]) rfl ?_
    refine lv_aload S0.1 S0.2.1 dX5_slopeOfNode_222 (lv_at hl 4 rfl) ?_
    refine lv_iload S0.1 S0.2.1 dX5_slopeOfNode_224 (lv_at hl 2 rfl) ?_
    refine lv_iload S0.1 S0.2.1 dX5_slopeOfNode_226 (lv_at hl 2 rfl) ?_
    have hm3 := mul_rng (a := gv (row N u) (eV (fE F u.toNat) k.toNat)) (b := gv (row N u) (eV (fE F u.toNat) k.toNat)) (n := 200) (k := 200) (by omega) (by omega)
    refine q_pV (n := 2) (rest := [.int (iI ((((gv (row M u) ((eL (fE F u.toNat)) k.toNat)) * (gv (row N u) ((eV (fE F u.toNat)) k.toNat))) - ((gv (row N u) ((eL (fE F u.toNat)) k.toNat)) * (gv (row M u) ((eV (fE F u.toNat)) k.toNat)))) % (fP F))), .ref (fR F)]) S0 hK (c_X6_multiply l g (fR F) (fP F) (gv (row N u) ((eV (fE F u.toNat)) k.toNat)) (gv (row N u) ((eV (fE F u.toNat)) k.toNat)) (by omega) (by omega)) (subP (hX).1 [1] rfl) (trivial) gX5_slopeOfNode_X6_multiply rfl rfl rfl (by decide +kernel) ⟨Nat.le_of_ble_eq_true rfl, Nat.le_of_ble_eq_true rfl⟩ (q_recv hK (hX).1 (ci := 6) (q0 := 1) rfl rfl) rfl rfl hl.1 (Nat.le_of_ble_eq_true rfl) ⟨Nat.le_of_ble_eq_true rfl, Nat.le_of_ble_eq_true rfl⟩ dX5_slopeOfNode_228 ?_
    refine W.eq (g2 := F0 m 231 ls [.int (iI (((gv (row N u) ((eV (fE F u.toNat)) k.toNat)) * (gv (row N u) ((eV (fE F u.toNat)) k.toNat))) % (fP F))), .int (iI ((((gv (row M u) ((eL (fE F u.toNat)) k.toNat)) * (gv (row N u) ((eV (fE F u.toNat)) k.toNat))) - ((gv (row N u) ((eL (fE F u.toNat)) k.toNat)) * (gv (row M u) ((eV (fE F u.toNat)) k.toNat)))) % (fP F))), .ref (fR F)]) rfl ?_
    have he1 := emod_rng (gv (row M u) (eL (fE F u.toNat) k.toNat) * gv (row N u) (eV (fE F u.toNat) k.toNat) - gv (row N u) (eL (fE F u.toNat) k.toNat) * gv (row M u) (eV (fE F u.toNat) k.toNat)) (p := fP F) (by omega)
    have he2 := emod_rng (gv (row N u) (eV (fE F u.toNat) k.toNat) * gv (row N u) (eV (fE F u.toNat) k.toNat)) (p := fP F) (by omega)
    refine q_pV (n := 2) (rest := []) S0 hK (c_X6_divide l g (fR F) (fP F) ((((gv (row M u) ((eL (fE F u.toNat)) k.toNat)) * (gv (row N u) ((eV (fE F u.toNat)) k.toNat))) - ((gv (row N u) ((eL (fE F u.toNat)) k.toNat)) * (gv (row M u) ((eV (fE F u.toNat)) k.toNat)))) % (fP F)) (((gv (row N u) ((eV (fE F u.toNat)) k.toNat)) * (gv (row N u) ((eV (fE F u.toNat)) k.toNat))) % (fP F)) (by omega) (by omega) (by omega)) (subP (hX).1 [1] rfl) (trivial) gX5_slopeOfNode_X6_divide rfl rfl rfl (by decide +kernel) ⟨Nat.le_of_ble_eq_true rfl, Nat.le_of_ble_eq_true rfl⟩ (q_recv hK (hX).1 (ci := 6) (q0 := 1) rfl rfl) rfl rfl hl.1 (Nat.le_of_ble_eq_true rfl) ⟨Nat.le_of_ble_eq_true rfl, Nat.le_of_ble_eq_true rfl⟩ dX5_slopeOfNode_231 ?_
    refine W.eq (g2 := F0 m 234 ls [.int (iI (((((gv (row M u) ((eL (fE F u.toNat)) k.toNat)) * (gv (row N u) ((eV (fE F u.toNat)) k.toNat))) - ((gv (row N u) ((eL (fE F u.toNat)) k.toNat)) * (gv (row M u) ((eV (fE F u.toNat)) k.toNat)))) % (fP F)) * ((((gv (row N u) ((eV (fE F u.toNat)) k.toNat)) * (gv (row N u) ((eV (fE F u.toNat)) k.toNat))) % (fP F)) ^ ((fP F) - 2).toNat % (fP F)) % (fP F)))]) rfl ?_
    exact qp_iret S0 hr hlocks (by unfold nsl inv'; (repeat (first | rw [if_pos (by omega)] | rw [if_neg (by omega)])); first | done | rfl) dX5_slopeOfNode_234
  by_cases k89_94 : (eK (fE F u.toNat)) k.toNat = 94
  · refine q_topI k89_94 ?_
    refine lv_lookup (off := 146) (tgt := 235) S0.1 S0.2.1 dX5_slopeOfNode_89 (by decide) (by decide) (by decide) ?_
    refine lv_aload S0.1 S0.2.1 dX5_slopeOfNode_235 (lv_at hl 4 rfl) ?_
    refine lv_aload S0.1 S0.2.1 dX5_slopeOfNode_237 (lv_at hl 4 rfl) ?_
    refine lv_iload S0.1 S0.2.1 dX5_slopeOfNode_239 (lv_at hl 3 rfl) ?_
    refine lv_aload S0.1 S0.2.1 dX5_slopeOfNode_241 (lv_at hl 5 rfl) ?_
    refine lv_iload_n S0.1 S0.2.1 dX5_slopeOfNode_243 rfl (lv_at hl 8 rfl) ?_
    refine q_pV (n := 1) (rest := [.int (iI (gv (row N u) ((eL (fE F u.toNat)) k.toNat))), .ref (fR F), .ref (fR F)]) S0 hK (c_X1_numberI l g (fX F u.toNat) (fK F u.toNat 1) (fK F u.toNat 2) (fK F u.toNat 3) (fK F u.toNat 4) (fD F u.toNat) (fU F u.toNat) (fL F u.toNat) (eN (fE F u.toNat)) (eU (fE F u.toNat)) k (by omega) (by omega)) (subP ((hX).2 u.toNat (by omega)) [0, 2] rfl) (trivial) gX5_slopeOfNode_X1_number rfl rfl rfl (by decide +kernel) ⟨Nat.le_of_ble_eq_true rfl, Nat.le_of_ble_eq_true rfl⟩ (q_recv hK ((hX).2 u.toNat (by omega)) (ci := 1) (q0 := 0) rfl rfl) rfl rfl hl.1 (Nat.le_of_ble_eq_true rfl) ⟨Nat.le_of_ble_eq_true rfl, Nat.le_of_ble_eq_true rfl⟩ dX5_slopeOfNode_244 ?_
    refine W.eq (g2 := F0 m 247 ls [.int (iI ((eU (fE F u.toNat)) k.toNat)), .int (iI (gv (row N u) ((eL (fE F u.toNat)) k.toNat))), .ref (fR F), .ref (fR F)]) rfl ?_
    refine q_pV (n := 2) (rest := [.ref (fR F)]) S0 hK (c_X6_powerSlope l g (fR F) (fP F) (gv (row N u) ((eL (fE F u.toNat)) k.toNat)) ((eU (fE F u.toNat)) k.toNat) (by omega) (by omega) (by omega)) (subP (hX).1 [1] rfl) (trivial) gX5_slopeOfNode_X6_powerSlope rfl rfl rfl (by decide +kernel) ⟨Nat.le_of_ble_eq_true rfl, Nat.le_of_ble_eq_true rfl⟩ (q_recv hK (hX).1 (ci := 6) (q0 := 1) rfl rfl) rfl rfl hl.1 (Nat.le_of_ble_eq_true rfl) ⟨Nat.le_of_ble_eq_true rfl, Nat.le_of_ble_eq_true rfl⟩ dX5_slopeOfNode_247 ?_
    refine W.eq (g2 := F0 m 250 ls [.int (iI (((eU (fE F u.toNat)) k.toNat) * ((gv (row N u) ((eL (fE F u.toNat)) k.toNat)) ^ (((eU (fE F u.toNat)) k.toNat) - 1).toNat % (fP F)) % (fP F))), .ref (fR F)]) rfl ?_
    refine lv_iload S0.1 S0.2.1 dX5_slopeOfNode_250 (lv_at hl 1 rfl) ?_
    have he3 := emod_rng (eU (fE F u.toNat) k.toNat * ((gv (row N u) (eL (fE F u.toNat) k.toNat)) ^ (eU (fE F u.toNat) k.toNat - 1).toNat % fP F)) (p := fP F) (by omega)
    have hm4 := mul_rng (a := eU (fE F u.toNat) k.toNat * ((gv (row N u) (eL (fE F u.toNat) k.toNat)) ^ (eU (fE F u.toNat) k.toNat - 1).toNat % fP F) % fP F) (b := gv (row M u) (eL (fE F u.toNat) k.toNat)) (n := 200) (k := 200) (by omega) (by omega)
    refine q_pV (n := 2) (rest := []) S0 hK (c_X6_multiply l g (fR F) (fP F) (((eU (fE F u.toNat)) k.toNat) * ((gv (row N u) ((eL (fE F u.toNat)) k.toNat)) ^ (((eU (fE F u.toNat)) k.toNat) - 1).toNat % (fP F)) % (fP F)) (gv (row M u) ((eL (fE F u.toNat)) k.toNat)) (by omega) (by omega)) (subP (hX).1 [1] rfl) (trivial) gX5_slopeOfNode_X6_multiply rfl rfl rfl (by decide +kernel) ⟨Nat.le_of_ble_eq_true rfl, Nat.le_of_ble_eq_true rfl⟩ (q_recv hK (hX).1 (ci := 6) (q0 := 1) rfl rfl) rfl rfl hl.1 (Nat.le_of_ble_eq_true rfl) ⟨Nat.le_of_ble_eq_true rfl, Nat.le_of_ble_eq_true rfl⟩ dX5_slopeOfNode_252 ?_
    refine W.eq (g2 := F0 m 255 ls [.int (iI (((((eU (fE F u.toNat)) k.toNat) * ((gv (row N u) ((eL (fE F u.toNat)) k.toNat)) ^ (((eU (fE F u.toNat)) k.toNat) - 1).toNat % (fP F)) % (fP F)) * (gv (row M u) ((eL (fE F u.toNat)) k.toNat))) % (fP F)))]) rfl ?_
    exact qp_iret S0 hr hlocks (by unfold nsl inv'; (repeat (first | rw [if_pos (by omega)] | rw [if_neg (by omega)])); first | done | rfl) dX5_slopeOfNode_255
  by_cases k89_110 : (eK (fE F u.toNat)) k.toNat = 110
  · refine q_topI k89_110 ?_
    refine lv_lookup (off := 69) (tgt := 158) S0.1 S0.2.1 dX5_slopeOfNode_89 (by decide) (by decide) (by decide) ?_
    refine lv_aload S0.1 S0.2.1 dX5_slopeOfNode_158 (lv_at hl 4 rfl) ?_
    refine q_iconst S0 dX5_slopeOfNode_160 ?_
    refine lv_iload S0.1 S0.2.1 dX5_slopeOfNode_161 (lv_at hl 1 rfl) ?_
    refine q_pV (n := 2) (rest := []) S0 hK (c_X6_subtract l g (fR F) (fP F) 0 (gv (row M u) ((eL (fE F u.toNat)) k.toNat)) (by omega) (by omega)) (subP (hX).1 [1] rfl) (trivial) gX5_slopeOfNode_X6_subtract rfl rfl rfl (by decide +kernel) ⟨Nat.le_of_ble_eq_true rfl, Nat.le_of_ble_eq_true rfl⟩ (q_recv hK (hX).1 (ci := 6) (q0 := 1) rfl rfl) rfl rfl hl.1 (Nat.le_of_ble_eq_true rfl) ⟨Nat.le_of_ble_eq_true rfl, Nat.le_of_ble_eq_true rfl⟩ dX5_slopeOfNode_163 ?_
    refine W.eq (g2 := F0 m 166 ls [.int (iI ((0 - (gv (row M u) ((eL (fE F u.toNat)) k.toNat))) % (fP F)))]) rfl ?_
    exact qp_iret S0 hr hlocks (by unfold nsl inv'; (repeat (first | rw [if_pos (by omega)] | rw [if_neg (by omega)])); first | done | rfl) dX5_slopeOfNode_166
  by_cases k89_120 : (eK (fE F u.toNat)) k.toNat = 120
  · refine q_topI k89_120 ?_
    refine lv_lookup (off := 67) (tgt := 156) S0.1 S0.2.1 dX5_slopeOfNode_89 (by decide) (by decide) (by decide) ?_
    refine lv_iload_n S0.1 S0.2.1 dX5_slopeOfNode_156 rfl (lv_at hl 9 rfl) ?_
    exact qp_iret S0 hr hlocks (by unfold nsl inv'; (repeat (first | rw [if_pos (by omega)] | rw [if_neg (by omega)])); first | done | rfl) dX5_slopeOfNode_157
  refine lv_lookup (off := 167) (tgt := 256) S0.1 S0.2.1 dX5_slopeOfNode_89 (by decide) (by rw [iI_t (by omega) (by omega)]; show Op.lookupswitch.offset [(42, 98), (43, 78), (45, 88), (47, 115), (94, 146), (110, 69), (120, 67)] 167 ((eK (fE F u.toNat)) k.toNat) = 167; (repeat rw [Op.lookupswitch.offset_cons, if_neg (by omega)]); rfl) (by decide) ?_
  refine q_iconst S0 dX5_slopeOfNode_256 ?_
  exact qp_iret S0 hr hlocks (by unfold nsl inv'; (repeat (first | rw [if_pos (by omega)] | rw [if_neg (by omega)])); first | done | rfl) dX5_slopeOfNode_257
set_option maxHeartbeats 4000000 in
set_option maxRecDepth 100000 in
theorem c_X5_hingeOfNode (l : Launch) (g : GG) (F : FT) (rk t0 q0 t1 q1 t2 q2 t3 q3 t4 q4 t5 q5 : Nat) (r : RT) (u k x sx : Int) (hG : GF F) (hu : 0 ≤ u ∧ u < 4) (hk : 0 ≤ k ∧ k < eN (fE F u.toNat)) (hx : 0 ≤ x ∧ x < fP F) (hv : ∀ j, j < k.toNat → 0 ≤ row (nV r) u j ∧ row (nV r) u j < fP F) (hs : ∀ j, j < k.toNat → 0 ≤ row (nS r) u j ∧ row (nS r) u j < fP F) (hsx : 0 ≤ sx ∧ sx < fP F) (hc : ¬ eK (fE F u.toNat) k.toNat = 99) : qMet l yX5_hingeOfNode wsX5_hingeOfNode ({ frames := 3, cells := 0, slots := 0, locals := 76 }) g [.ref rk, .int (iI u), .int (iI k), .int (iI x), .int (iI sx)] [(rk, .inr (5, [.ref t0, .ref t1, .ref t2, .ref t3, .ref t4, .ref t5, .ref (fS F)])), (t0, .inr (8, [.int (iI 199), .ref q0])), (q0, gI g 796 (rV r)), (t1, .inr (8, [.int (iI 199), .ref q1])), (q1, gI g 796 (rH r)), (t2, .inr (8, [.int (iI 199), .ref q2])), (q2, gI g 796 (rR r)), (t3, .inr (8, [.int (iI 40), .ref q3])), (q3, gI g 160 (nV r)), (t4, .inr (8, [.int (iI 40), .ref q4])), (q4, gI g 160 (nS r)), (t5, .inr (8, [.int (iI 40), .ref q5])), (q5, gI g 160 (nW r))] (fun q => ¬ fzA F q) (FX g F) (S := Unit) (fun _ => some (.int (iI (hnv F r u k x sx)))) (fun _ => [(rk, .inr (5, [.ref t0, .ref t1, .ref t2, .ref t3, .ref t4, .ref t5, .ref (fS F)])), (t0, .inr (8, [.int (iI 199), .ref q0])), (q0, gI g 796 (rV ((hnr F r u k x)))), (t1, .inr (8, [.int (iI 199), .ref q1])), (q1, gI g 796 (rH ((hnr F r u k x)))), (t2, .inr (8, [.int (iI 199), .ref q2])), (q2, gI g 796 (rR ((hnr F r u k x)))), (t3, .inr (8, [.int (iI 40), .ref q3])), (q3, gI g 160 (nV ((hnr F r u k x)))), (t4, .inr (8, [.int (iI 40), .ref q4])), (q4, gI g 160 (nS ((hnr F r u k x)))), (t5, .inr (8, [.int (iI 40), .ref q5])), (q5, gI g 160 (nW ((hnr F r u k x))))]) (fun _ => True) 0 0 := by
  refine q_ofW (cc := cX5_hingeOfNode) (maxL := 6) (ret := (some .int)) (fun sz h => h.self) (by decide) rfl (Nat.le_of_ble_eq_true rfl) ?_
  intro p e s m args below meth c A ls S0 hr hlocks hnme hK hA hAe hW hD0 hX hl
  have hW : gW g A s.heap s.heap [] [(rk, .inr (5, [.ref t0, .ref t1, .ref t2, .ref t3, .ref t4, .ref t5, .ref (fS F)])), (t0, .inr (8, [.int (iI 199), .ref q0])), (q0, gI g 796 (rV r)), (t1, .inr (8, [.int (iI 199), .ref q1])), (q1, gI g 796 (rH r)), (t2, .inr (8, [.int (iI 199), .ref q2])), (q2, gI g 796 (rR r)), (t3, .inr (8, [.int (iI 40), .ref q3])), (q3, gI g 160 (nV r)), (t4, .inr (8, [.int (iI 40), .ref q4])), (q4, gI g 160 (nS r)), (t5, .inr (8, [.int (iI 40), .ref q5])), (q5, gI g 160 (nW r))] := hW
  have hl : lv_has ls 6 [(0, .ref rk), (1, .int (iI u)), (2, .int (iI k)), (3, .int (iI x)), (4, .int (iI sx))] := hl
  have hinX5 : ∀ w ∈ wsX50, w ∈ wsX5_hingeOfNode := fun w h => List.mem_cons_of_mem _ (List.mem_append_left _ (List.mem_append_left _ (List.mem_append_left _ (List.mem_append_left _ (List.mem_append_right _ h)))))
  have hpr := GF_p hG
  have hO := fz_out hX hD0 hAe
  have hfz : ∀ (H : Heap) (locs : List Loc) (ws : va_W), gW g A s.heap H locs ws → FX g F H := fun H locs ws h => fz_stay hX hO h
  have hnn := (hG.2 u.toNat (by omega)).1
  have hE := (hG.2 u.toNat (by omega)).2.1 k.toNat (by omega)
  have hvr := nvn_rng (p := fP F) (E := fE F u.toNat) (x := x) (w := row (nV r) u) (k := k.toNat) (by omega) hx
  refine lv_aload_n S0.1 S0.2.1 dX5_hingeOfNode_0 rfl (lv_at hl 0 rfl) ?_
  refine lv_iload_n S0.1 S0.2.1 dX5_hingeOfNode_1 rfl (lv_at hl 1 rfl) ?_
  refine lv_iload_n S0.1 S0.2.1 dX5_hingeOfNode_2 rfl (lv_at hl 2 rfl) ?_
  refine lv_iload_n S0.1 S0.2.1 dX5_hingeOfNode_3 rfl (lv_at hl 3 rfl) ?_
  refine q_pV (n := 3) (rest := []) S0 hK (c_X5_valueOfNode l g rk t0 t1 t2 t3 q3 t4 t5 F (nV r) u k x (hpr) (hu) (hnn.2) (hk) (hE) (hx) (hv)) (subP hW.1 [0, 7, 8] rfl) (hfz _ _ _ hW) gX5_hingeOfNode_X5_valueOfNode rfl rfl rfl (by decide +kernel) ⟨Nat.le_of_ble_eq_true rfl, Nat.le_of_ble_eq_true rfl⟩ (q_recv hK hW.1 (ci := 5) (q0 := 0) rfl rfl) rfl rfl hl.1 (Nat.le_of_ble_eq_true rfl) ⟨Nat.le_of_ble_eq_true rfl, Nat.le_of_ble_eq_true rfl⟩ dX5_hingeOfNode_4 ?_
  refine W.eq (g2 := F0 m 7 ls [.int (iI (nvn (fP F) (fE F u.toNat) x (row (nV r) u) k.toNat))]) rfl ?_
  refine lv_istore (lv' := [(5, .int (iI (nvn (fP F) (fE F u.toNat) x (row (nV r) u) k.toNat))), (0, .ref rk), (1, .int (iI u)), (2, .int (iI k)), (3, .int (iI x)), (4, .int (iI sx))]) S0.1 S0.2.1 dX5_hingeOfNode_7 hl (by decide) rfl (fun ls hl => ?_)
  refine lv_iload S0.1 S0.2.1 dX5_hingeOfNode_9 (lv_at hl 0 rfl) ?_
  refine q_iconst S0 dX5_hingeOfNode_11 ?_
  refine q_icmp_ne (tgt := 17) S0 (by omega) dX5_hingeOfNode_12 (by decide) (fun c12 => ?_) (fun c12 => ?_)
  · skip
    refine lv_aload_n S0.1 S0.2.1 dX5_hingeOfNode_17 rfl (lv_at hl 1 rfl) ?_
    refine q_get (C := RX5) (T := TX5) (N := 7) S0 hK hW.1 hinX5 0 rfl rfl 3 (by decide) (List.mem_of_getElem? (i := 1) rfl) rfl rfl dX5_hingeOfNode_18 ?_
    refine lv_iload_n S0.1 S0.2.1 dX5_hingeOfNode_21 rfl (lv_at hl 2 rfl) ?_
    refine lv_iload_n S0.1 S0.2.1 dX5_hingeOfNode_22 rfl (lv_at hl 3 rfl) ?_
    refine lv_iload S0.1 S0.2.1 dX5_hingeOfNode_23 (lv_at hl 0 rfl) ?_
    refine q_cV (n := 3) (rest := []) (wr := [(rk, .inr (5, [.ref t0, .ref t1, .ref t2, .ref t3, .ref t4, .ref t5, .ref (fS F)])), (t0, .inr (8, [.int (iI 199), .ref q0])), (q0, gI g 796 (rV r)), (t1, .inr (8, [.int (iI 199), .ref q1])), (q1, gI g 796 (rH r)), (t2, .inr (8, [.int (iI 199), .ref q2])), (q2, gI g 796 (rR r)), (t4, .inr (8, [.int (iI 40), .ref q4])), (q4, gI g 160 (nS r)), (t5, .inr (8, [.int (iI 40), .ref q5])), (q5, gI g 160 (nW r))]) S0 hK hA hW (c_X8_set40 l g t3 q3 (nV r) u k (nvn (fP F) (fE F u.toNat) x (row (nV r) u) k.toNat) (by omega) (by omega)) gX5_hingeOfNode_X8_set rfl rfl rfl (by decide +kernel) ⟨Nat.le_of_ble_eq_true rfl, Nat.le_of_ble_eq_true rfl⟩ [7, 8] [0, 1, 2, 3, 4, 5, 6, 9, 10, 11, 12] rfl rfl rfl rfl (by decide) (q_recv hK hW.1 (ci := 8) (q0 := 7) rfl rfl) (fun _ _ => trivial) (trivial) rfl rfl hl.1 (Nat.le_of_ble_eq_true rfl) ⟨Nat.le_of_ble_eq_true rfl, Nat.le_of_ble_eq_true rfl⟩ dX5_hingeOfNode_25 (fun _ H locs _ hW => ?_)
    have hW : gW g A s.heap H _ [(rk, .inr (5, [.ref t0, .ref t1, .ref t2, .ref t3, .ref t4, .ref t5, .ref (fS F)])), (t0, .inr (8, [.int (iI 199), .ref q0])), (q0, gI g 796 (rV r)), (t1, .inr (8, [.int (iI 199), .ref q1])), (q1, gI g 796 (rH r)), (t2, .inr (8, [.int (iI 199), .ref q2])), (q2, gI g 796 (rR r)), (t4, .inr (8, [.int (iI 40), .ref q4])), (q4, gI g 160 (nS r)), (t5, .inr (8, [.int (iI 40), .ref q5])), (q5, gI g 160 (nW r)), (t3, .inr (8, [.int (iI 40), .ref q3])), (q3, gI g 160 (up (nV r) (u * 40 + k).toNat (nvn (fP F) (fE F u.toNat) x (row (nV r) u) k.toNat)))] := hW
    refine W.eq (g2 := F0 m 28 ls []) rfl ?_
    refine lv_aload_n S0.1 S0.2.1 dX5_hingeOfNode_28 rfl (lv_at hl 1 rfl) ?_
    refine lv_iload_n S0.1 S0.2.1 dX5_hingeOfNode_29 rfl (lv_at hl 2 rfl) ?_
    refine lv_iload_n S0.1 S0.2.1 dX5_hingeOfNode_30 rfl (lv_at hl 3 rfl) ?_
    refine lv_iload S0.1 S0.2.1 dX5_hingeOfNode_31 (lv_at hl 5 rfl) ?_
    have hrw : ∀ j, j < k.toNat → row (up (nV r) (u * 40 + k).toNat (nvn (fP F) (fE F u.toNat) x (row (nV r) u) k.toNat)) u j = row (nV r) u j := fun j hj => by rw [row_up (by omega) (by omega), if_neg (by omega)]
    refine q_pV (n := 3) (rest := []) S0 hK (c_X5_slopeOfNode l g rk t0 t1 t2 t3 q3 t4 q4 t5 F (up (nV r) (u * 40 + k).toNat (nvn (fP F) (fE F u.toNat) x (row (nV r) u) k.toNat)) (nS r) u k sx (hpr) (hu) (hnn.2) (hk) (hE) (fun j hj => by rw [hrw j hj]; exact hv j hj) (hs) (hsx) (hc)) (subP hW.1 [0, 11, 12, 7, 8] rfl) (hfz _ _ _ hW) gX5_hingeOfNode_X5_slopeOfNode rfl rfl rfl (by decide +kernel) ⟨Nat.le_of_ble_eq_true rfl, Nat.le_of_ble_eq_true rfl⟩ (q_recv hK hW.1 (ci := 5) (q0 := 0) rfl rfl) rfl rfl hl.1 (Nat.le_of_ble_eq_true rfl) ⟨Nat.le_of_ble_eq_true rfl, Nat.le_of_ble_eq_true rfl⟩ dX5_hingeOfNode_33 ?_
    refine W.eq (g2 := F0 m 36 ls [.int (iI (nsl (fP F) (fE F u.toNat) (hh (fP F) (fE F)) sx (row (up (nV r) (u * 40 + k).toNat (nvn (fP F) (fE F u.toNat) x (row (nV r) u) k.toNat)) u) (row (nS r) u) k.toNat))]) rfl ?_
    exact q_iret S0 hr hlocks () (trivial) (by unfold hnv; rw [if_neg c12, nsl_congr hE hrw (fun j _ => rfl)]) (hW.sub [0, 1, 2, 3, 4, 5, 6, 11, 12, 7, 8, 9, 10] rfl (by unfold hnr; rw [if_neg c12]; rfl)) (Nat.le_of_ble_eq_true rfl) (Nat.le_of_ble_eq_true rfl) dX5_hingeOfNode_36
  · skip
    refine q_iconst S0 dX5_hingeOfNode_15 ?_
    exact q_iret S0 hr hlocks () (trivial) (by unfold hnv; rw [if_pos c12]) (hW.sub [0, 1, 2, 3, 4, 5, 6, 7, 8, 9, 10, 11, 12] rfl (by unfold hnr; rw [if_pos c12]; rfl)) (Nat.le_of_ble_eq_true rfl) (Nat.le_of_ble_eq_true rfl) dX5_hingeOfNode_16
set_option maxHeartbeats 4000000 in
set_option maxRecDepth 100000 in
theorem c_X5_hingeOfCall (l : Launch) (g : GG) (F : FT) (d : Nat) (rk t0 q0 t1 q1 t2 q2 t3 q3 t4 q4 t5 q5 : Nat) (r : RT) (u k : Int) (IH : HSLP l g F d) (hud : u ≤ d) (hG : GF F) (hI : RI F r) (hu : 0 ≤ u ∧ u < 4) (hk : 0 ≤ k ∧ k < eN (fE F u.toNat)) (hc : eK (fE F u.toNat) k.toNat = 99) (hv : ∀ j, j < k.toNat → 0 ≤ row (nV r) u j ∧ row (nV r) u j < fP F) (hs : ∀ j, j < k.toNat → 0 ≤ row (nS r) u j ∧ row (nS r) u j < fP F) : qMet l yX5_hingeOfCall wsX5_hingeOfCall ({ frames := 3 * d + 16, cells := 0, slots := 0, locals := 90 * d + 430 }) g [.ref rk, .int (iI u), .int (iI k)] [(rk, .inr (5, [.ref t0, .ref t1, .ref t2, .ref t3, .ref t4, .ref t5, .ref (fS F)])), (t0, .inr (8, [.int (iI 199), .ref q0])), (q0, gI g 796 (rV r)), (t1, .inr (8, [.int (iI 199), .ref q1])), (q1, gI g 796 (rH r)), (t2, .inr (8, [.int (iI 199), .ref q2])), (q2, gI g 796 (rR r)), (t3, .inr (8, [.int (iI 40), .ref q3])), (q3, gI g 160 (nV r)), (t4, .inr (8, [.int (iI 40), .ref q4])), (q4, gI g 160 (nS r)), (t5, .inr (8, [.int (iI 40), .ref q5])), (q5, gI g 160 (nW r))] (fun q => ¬ fzA F q) (FX g F) (S := RT) (fun u_ => some (.int (iI (if hh (fP F) (fE F) (eU (fE F u.toNat) k.toNat).toNat (gv (row (nV r) u) (eL (fE F u.toNat) k.toNat)) = -1 then (-1 : Int) else hh (fP F) (fE F) (eU (fE F u.toNat) k.toNat).toNat (gv (row (nV r) u) (eL (fE F u.toNat) k.toNat)) * gv (row (nS r) u) (eL (fE F u.toNat) k.toNat) % fP F)))) (fun u_ => [(rk, .inr (5, [.ref t0, .ref t1, .ref t2, .ref t3, .ref t4, .ref t5, .ref (fS F)])), (t0, .inr (8, [.int (iI 199), .ref q0])), (q0, gI g 796 (rV u_)), (t1, .inr (8, [.int (iI 199), .ref q1])), (q1, gI g 796 (rH u_)), (t2, .inr (8, [.int (iI 199), .ref q2])), (q2, gI g 796 (rR u_)), (t3, .inr (8, [.int (iI 40), .ref q3])), (q3, gI g 160 (nV u_)), (t4, .inr (8, [.int (iI 40), .ref q4])), (q4, gI g 160 (nS u_)), (t5, .inr (8, [.int (iI 40), .ref q5])), (q5, gI g 160 (nW u_))]) (fun u_ => RI F u_ ∧ ∀ j : Nat, u * 40 ≤ (j : Int) → nV u_ j = (if hh (fP F) (fE F) (eU (fE F u.toNat) k.toNat).toNat (gv (row (nV r) u) (eL (fE F u.toNat) k.toNat)) = -1 then nV r j else up (nV r) (u * 40 + k).toNat (vv (fP F) (fE F) (eU (fE F u.toNat) k.toNat).toNat (gv (row (nV r) u) (eL (fE F u.toNat) k.toNat))) j) ∧ nS u_ j = nS r j ∧ nW u_ j = nW r j) 0 0 := by
  refine q_ofW (cc := cX5_hingeOfCall) (maxL := 7) (ret := (some .int)) (fun sz h => h.self) (by decide) rfl (Nat.le_of_ble_eq_true rfl) ?_
  intro p e s m args below meth c A ls S0 hr hlocks hnme hK hA hAe hW hD0 hX hl
  have hW : gW g A s.heap s.heap [] [(rk, .inr (5, [.ref t0, .ref t1, .ref t2, .ref t3, .ref t4, .ref t5, .ref (fS F)])), (t0, .inr (8, [.int (iI 199), .ref q0])), (q0, gI g 796 (rV r)), (t1, .inr (8, [.int (iI 199), .ref q1])), (q1, gI g 796 (rH r)), (t2, .inr (8, [.int (iI 199), .ref q2])), (q2, gI g 796 (rR r)), (t3, .inr (8, [.int (iI 40), .ref q3])), (q3, gI g 160 (nV r)), (t4, .inr (8, [.int (iI 40), .ref q4])), (q4, gI g 160 (nS r)), (t5, .inr (8, [.int (iI 40), .ref q5])), (q5, gI g 160 (nW r))] := hW
  have hl : lv_has ls 7 [(0, .ref rk), (1, .int (iI u)), (2, .int (iI k))] := hl
  have hinX5 : ∀ w ∈ wsX50, w ∈ wsX5_hingeOfCall := fun w h => List.mem_cons_of_mem _ (List.mem_append_left _ (List.mem_append_left _ (List.mem_append_left _ (List.mem_append_left _ (List.mem_append_right _ h)))))
  have hpr := GF_p hG
  have hO := fz_out hX hD0 hAe
  have hfz : ∀ (H : Heap) (locs : List Loc) (ws : va_W), gW g A s.heap H locs ws → FX g F H := fun H locs ws h => fz_stay hX hO h
  have hE := (hG.2 u.toNat (by omega)).2.1 k.toNat (by omega)
  have hn := (hG.2 u.toNat (by omega)).1
  have hL := WFK_L hE
  have hU := WFK_U hE (by omega)
  have hU9 := hU.2.2.2 hc
  have gu := gv_rng (w := row (nV r) u) (p := fP F) (i := eL (fE F u.toNat) k.toNat) (k := k.toNat) (by omega) hv (by omega) hL
  refine lv_aload_n S0.1 S0.2.1 dX5_hingeOfCall_0 rfl (lv_at hl 0 rfl) ?_
  refine q_get (C := RX5) (T := TX5) (N := 7) S0 hK hW.1 hinX5 0 rfl rfl 6 (by decide) (List.mem_of_getElem? (i := 1) rfl) rfl rfl dX5_hingeOfCall_1 ?_
  refine lv_iload_n S0.1 S0.2.1 dX5_hingeOfCall_4 rfl (lv_at hl 1 rfl) ?_
  refine q_pV (n := 1) (rest := []) S0 hK (c_X7_exprOf l g (fS F) (fR F) (fX F) u (by omega)) (subP ((hfz _ _ _ hW)).1 [0] rfl) (trivial) gX5_hingeOfCall_X7_expressionOf rfl rfl rfl (by decide +kernel) ⟨by dsimp only; omega, by dsimp only; omega⟩ (q_recv hK ((hfz _ _ _ hW)).1 (ci := 7) (q0 := 0) rfl rfl) rfl rfl hl.1 (Nat.le_of_ble_eq_true rfl) ⟨Nat.le_of_ble_eq_true rfl, Nat.le_of_ble_eq_true rfl⟩ dX5_hingeOfCall_5 ?_
  refine W.eq (g2 := F0 m 8 ls [.ref (fX F u.toNat)]) rfl ?_
  refine lv_astore_n (lv' := [(3, .ref (fX F u.toNat)), (0, .ref rk), (1, .int (iI u)), (2, .int (iI k))]) S0.1 S0.2.1 dX5_hingeOfCall_8 rfl hl (by decide) rfl (fun ls hl => ?_)
  refine lv_aload_n S0.1 S0.2.1 dX5_hingeOfCall_9 rfl (lv_at hl 0 rfl) ?_
  refine lv_iload_n S0.1 S0.2.1 dX5_hingeOfCall_10 rfl (lv_at hl 3 rfl) ?_
  refine q_pV (n := 1) (rest := []) S0 hK (c_X1_numberI l g (fX F u.toNat) (fK F u.toNat 1) (fK F u.toNat 2) (fK F u.toNat 3) (fK F u.toNat 4) (fD F u.toNat) (fU F u.toNat) (fL F u.toNat) (eN (fE F u.toNat)) (eU (fE F u.toNat)) k (by omega) (by omega)) (subP (((hfz _ _ _ hW)).2 u.toNat (by omega)) [0, 2] rfl) (trivial) gX5_hingeOfCall_X1_number rfl rfl rfl (by decide +kernel) ⟨by dsimp only; omega, by dsimp only; omega⟩ (q_recv hK (((hfz _ _ _ hW)).2 u.toNat (by omega)) (ci := 1) (q0 := 0) rfl rfl) rfl rfl hl.1 (Nat.le_of_ble_eq_true rfl) ⟨Nat.le_of_ble_eq_true rfl, Nat.le_of_ble_eq_true rfl⟩ dX5_hingeOfCall_11 ?_
  refine W.eq (g2 := F0 m 14 ls [.int (iI ((eU (fE F u.toNat)) k.toNat))]) rfl ?_
  refine lv_istore (lv' := [(4, .int (iI ((eU (fE F u.toNat)) k.toNat))), (3, .ref (fX F u.toNat)), (0, .ref rk), (1, .int (iI u)), (2, .int (iI k))]) S0.1 S0.2.1 dX5_hingeOfCall_14 hl (by decide) rfl (fun ls hl => ?_)
  refine lv_aload_n S0.1 S0.2.1 dX5_hingeOfCall_16 rfl (lv_at hl 2 rfl) ?_
  refine q_get (C := RX5) (T := TX5) (N := 7) S0 hK hW.1 hinX5 0 rfl rfl 3 (by decide) (List.mem_of_getElem? (i := 2) rfl) rfl rfl dX5_hingeOfCall_17 ?_
  refine lv_iload_n S0.1 S0.2.1 dX5_hingeOfCall_20 rfl (lv_at hl 3 rfl) ?_
  refine lv_aload_n S0.1 S0.2.1 dX5_hingeOfCall_21 rfl (lv_at hl 1 rfl) ?_
  refine lv_iload_n S0.1 S0.2.1 dX5_hingeOfCall_22 rfl (lv_at hl 4 rfl) ?_
  refine q_pV (n := 1) (rest := [.int (iI u), .ref t3]) S0 hK (c_X1_leftI l g (fX F u.toNat) (fK F u.toNat 1) (fK F u.toNat 2) (fK F u.toNat 3) (fK F u.toNat 4) (fD F u.toNat) (fU F u.toNat) (fL F u.toNat) (eN (fE F u.toNat)) (eL (fE F u.toNat)) k (by omega) (by omega)) (subP (((hfz _ _ _ hW)).2 u.toNat (by omega)) [0, 3] rfl) (trivial) gX5_hingeOfCall_X1_left rfl rfl rfl (by decide +kernel) ⟨by dsimp only; omega, by dsimp only; omega⟩ (q_recv hK (((hfz _ _ _ hW)).2 u.toNat (by omega)) (ci := 1) (q0 := 0) rfl rfl) rfl rfl hl.1 (Nat.le_of_ble_eq_true rfl) ⟨Nat.le_of_ble_eq_true rfl, Nat.le_of_ble_eq_true rfl⟩ dX5_hingeOfCall_23 ?_
  refine W.eq (g2 := F0 m 26 ls [.int (iI ((eL (fE F u.toNat)) k.toNat)), .int (iI u), .ref t3]) rfl ?_
  refine q_pV (n := 2) (rest := []) S0 hK (c_X8_get40 l g t3 q3 (nV r) u ((eL (fE F u.toNat)) k.toNat) (by omega) (by omega)) (subP hW.1 [7, 8] rfl) (trivial) gX5_hingeOfCall_X8_get rfl rfl rfl (by decide +kernel) ⟨by dsimp only; omega, by dsimp only; omega⟩ (q_recv hK hW.1 (ci := 8) (q0 := 7) rfl rfl) rfl rfl hl.1 (Nat.le_of_ble_eq_true rfl) ⟨Nat.le_of_ble_eq_true rfl, Nat.le_of_ble_eq_true rfl⟩ dX5_hingeOfCall_26 ?_
  refine W.eq (g2 := F0 m 29 ls [.int (iI (gv (row (nV r) u) ((eL (fE F u.toNat)) k.toNat)))]) rfl ?_
  refine lv_istore (lv' := [(5, .int (iI (gv (row (nV r) u) ((eL (fE F u.toNat)) k.toNat)))), (4, .int (iI ((eU (fE F u.toNat)) k.toNat))), (3, .ref (fX F u.toNat)), (0, .ref rk), (1, .int (iI u)), (2, .int (iI k))]) S0.1 S0.2.1 dX5_hingeOfCall_29 hl (by decide) rfl (fun ls hl => ?_)
  refine lv_iload_n S0.1 S0.2.1 dX5_hingeOfCall_31 rfl (lv_at hl 4 rfl) ?_
  refine lv_iload S0.1 S0.2.1 dX5_hingeOfCall_32 (lv_at hl 1 rfl) ?_
  refine q_pS (n := 2) (rest := []) S0 hK (c_X5_mayUse l g u ((eU (fE F u.toNat)) k.toNat) (by omega) (by omega)) (subP hW.1 [] rfl) (trivial) gX5_hingeOfCall_X5_mayUse rfl rfl rfl (by decide +kernel) ⟨by dsimp only; omega, by dsimp only; omega⟩ rfl rfl hl.1 (Nat.le_of_ble_eq_true rfl) ⟨Nat.le_of_ble_eq_true rfl, Nat.le_of_ble_eq_true rfl⟩ dX5_hingeOfCall_34 ?_
  refine W.eq (g2 := F0 m 37 ls [.int (iI (if 0 ≤ ((eU (fE F u.toNat)) k.toNat) ∧ ((eU (fE F u.toNat)) k.toNat) < u then (1 : Int) else 0))]) rfl ?_
  refine q_if_eqP (tgt := 51) S0 dX5_hingeOfCall_37 (by decide) (fun c37 => ?_) (fun c37 => ?_)
  · skip
    exact absurd ⟨hU.1, (by omega)⟩ c37
  · skip
    refine lv_aload_n S0.1 S0.2.1 dX5_hingeOfCall_40 rfl (lv_at hl 3 rfl) ?_
    refine lv_iload S0.1 S0.2.1 dX5_hingeOfCall_41 (lv_at hl 1 rfl) ?_
    refine lv_iload S0.1 S0.2.1 dX5_hingeOfCall_43 (lv_at hl 0 rfl) ?_
    refine q_cV (n := 2) (rest := []) (wr := []) S0 hK hA hW (IH rk t0 q0 t1 q1 t2 q2 t3 q3 t4 q4 t5 q5 r ((eU (fE F u.toNat)) k.toNat) (gv (row (nV r) u) ((eL (fE F u.toNat)) k.toNat)) (by omega) (by omega) (by omega) (gu) (hI)) gX5_hingeOfCall_X5_hingeSlope rfl rfl rfl (by decide +kernel) ⟨by dsimp only; omega, by dsimp only; omega⟩ [0, 1, 2, 3, 4, 5, 6, 7, 8, 9, 10, 11, 12] [] rfl rfl rfl rfl (by decide) (q_recv hK hW.1 (ci := 5) (q0 := 0) rfl rfl) (hO) (hfz _ _ _ hW) rfl rfl hl.1 (Nat.le_of_ble_eq_true rfl) ⟨Nat.le_of_ble_eq_true rfl, Nat.le_of_ble_eq_true rfl⟩ dX5_hingeOfCall_45 ?_
    rintro r2 H locs hp hW
    try dsimp only at hp
    have hW : gW g A s.heap H _ [(rk, .inr (5, [.ref t0, .ref t1, .ref t2, .ref t3, .ref t4, .ref t5, .ref (fS F)])), (t0, .inr (8, [.int (iI 199), .ref q0])), (q0, gI g 796 (rV r2)), (t1, .inr (8, [.int (iI 199), .ref q1])), (q1, gI g 796 (rH r2)), (t2, .inr (8, [.int (iI 199), .ref q2])), (q2, gI g 796 (rR r2)), (t3, .inr (8, [.int (iI 40), .ref q3])), (q3, gI g 160 (nV r2)), (t4, .inr (8, [.int (iI 40), .ref q4])), (q4, gI g 160 (nS r2)), (t5, .inr (8, [.int (iI 40), .ref q5])), (q5, gI g 160 (nW r2))] := hW
    refine W.eq (g2 := F0 m 48 ls [.int (iI (hh (fP F) (fE F) ((eU (fE F u.toNat)) k.toNat).toNat (gv (row (nV r) u) ((eL (fE F u.toNat)) k.toNat))))]) rfl ?_
    have hrw : ∀ j : Nat, u * 40 ≤ (j : Int) → nV r2 j = nV r j ∧ nS r2 j = nS r j ∧ nW r2 j = nW r j := fun j hj => hp.2.1 j (by omega)
    have hsrow : row (nS r2) u = row (nS r) u := by funext j; exact (hrw (u * 40 + j).toNat (by omega)).2.1
    have hhr := GF_hh hG (f := (eU (fE F u.toNat) k.toNat).toNat) (x := gv (row (nV r) u) (eL (fE F u.toNat) k.toNat)) (by omega)
    have hI2 := hp.1
    have hval := hp.2.2
    refine lv_goto (tgt := 52) S0.1 S0.2.1 dX5_hingeOfCall_48 (by decide) ?_
    refine lv_istore (lv' := [(6, .int (iI (hh (fP F) (fE F) ((eU (fE F u.toNat)) k.toNat).toNat (gv (row (nV r) u) ((eL (fE F u.toNat)) k.toNat))))), (5, .int (iI (gv (row (nV r) u) ((eL (fE F u.toNat)) k.toNat)))), (4, .int (iI ((eU (fE F u.toNat)) k.toNat))), (3, .ref (fX F u.toNat)), (0, .ref rk), (1, .int (iI u)), (2, .int (iI k))]) S0.1 S0.2.1 dX5_hingeOfCall_52 hl (by decide) rfl (fun ls hl => ?_)
    refine lv_iload S0.1 S0.2.1 dX5_hingeOfCall_54 (lv_at hl 0 rfl) ?_
    refine q_iconst S0 dX5_hingeOfCall_56 ?_
    refine q_icmp_ne (tgt := 62) S0 (by omega) dX5_hingeOfCall_57 (by decide) (fun c57 => ?_) (fun c57 => ?_)
    · skip
      refine lv_aload_n S0.1 S0.2.1 dX5_hingeOfCall_62 rfl (lv_at hl 4 rfl) ?_
      refine q_get (C := RX5) (T := TX5) (N := 7) S0 hK hW.1 hinX5 0 rfl rfl 3 (by decide) (List.mem_of_getElem? (i := 2) rfl) rfl rfl dX5_hingeOfCall_63 ?_
      refine lv_iload_n S0.1 S0.2.1 dX5_hingeOfCall_66 rfl (lv_at hl 5 rfl) ?_
      refine lv_iload_n S0.1 S0.2.1 dX5_hingeOfCall_67 rfl (lv_at hl 6 rfl) ?_
      refine lv_aload_n S0.1 S0.2.1 dX5_hingeOfCall_68 rfl (lv_at hl 4 rfl) ?_
      refine q_get (C := RX5) (T := TX5) (N := 7) S0 hK hW.1 hinX5 0 rfl rfl 0 (by decide) (List.mem_of_getElem? (i := 3) rfl) rfl rfl dX5_hingeOfCall_69 ?_
      refine lv_iload S0.1 S0.2.1 dX5_hingeOfCall_72 (lv_at hl 2 rfl) ?_
      refine lv_iload S0.1 S0.2.1 dX5_hingeOfCall_74 (lv_at hl 1 rfl) ?_
      refine q_pV (n := 2) (rest := [.int (iI k), .int (iI u), .ref t3]) S0 hK (c_X8_get199 l g t0 q0 (rV r2) ((eU (fE F u.toNat)) k.toNat) (gv (row (nV r) u) ((eL (fE F u.toNat)) k.toNat)) (by omega) (by omega)) (subP hW.1 [1, 2] rfl) (trivial) gX5_hingeOfCall_X8_get rfl rfl rfl (by decide +kernel) ⟨by dsimp only; omega, by dsimp only; omega⟩ (q_recv hK hW.1 (ci := 8) (q0 := 1) rfl rfl) rfl rfl hl.1 (Nat.le_of_ble_eq_true rfl) ⟨Nat.le_of_ble_eq_true rfl, Nat.le_of_ble_eq_true rfl⟩ dX5_hingeOfCall_76 ?_
      refine W.eq (g2 := F0 m 79 ls [.int (iI ((rV r2) (((eU (fE F u.toNat)) k.toNat) * 199 + (gv (row (nV r) u) ((eL (fE F u.toNat)) k.toNat))).toNat)), .int (iI k), .int (iI u), .ref t3]) rfl ?_
      refine q_topI (b := vv (fP F) (fE F) (eU (fE F u.toNat) k.toNat).toNat (gv (row (nV r) u) (eL (fE F u.toNat) k.toNat))) (by rw [← hval]) ?_
      refine q_cV (n := 3) (rest := []) (wr := [(rk, .inr (5, [.ref t0, .ref t1, .ref t2, .ref t3, .ref t4, .ref t5, .ref (fS F)])), (t0, .inr (8, [.int (iI 199), .ref q0])), (q0, gI g 796 (rV r2)), (t1, .inr (8, [.int (iI 199), .ref q1])), (q1, gI g 796 (rH r2)), (t2, .inr (8, [.int (iI 199), .ref q2])), (q2, gI g 796 (rR r2)), (t4, .inr (8, [.int (iI 40), .ref q4])), (q4, gI g 160 (nS r2)), (t5, .inr (8, [.int (iI 40), .ref q5])), (q5, gI g 160 (nW r2))]) S0 hK hA hW (c_X8_set40 l g t3 q3 (nV r2) u k (vv (fP F) (fE F) (eU (fE F u.toNat) k.toNat).toNat (gv (row (nV r) u) (eL (fE F u.toNat) k.toNat))) (by omega) (by omega)) gX5_hingeOfCall_X8_set rfl rfl rfl (by decide +kernel) ⟨by dsimp only; omega, by dsimp only; omega⟩ [7, 8] [0, 1, 2, 3, 4, 5, 6, 9, 10, 11, 12] rfl rfl rfl rfl (by decide) (q_recv hK hW.1 (ci := 8) (q0 := 7) rfl rfl) (fun _ _ => trivial) (trivial) rfl rfl hl.1 (Nat.le_of_ble_eq_true rfl) ⟨Nat.le_of_ble_eq_true rfl, Nat.le_of_ble_eq_true rfl⟩ dX5_hingeOfCall_79 (fun _ H locs _ hW => ?_)
      have hW : gW g A s.heap H _ [(rk, .inr (5, [.ref t0, .ref t1, .ref t2, .ref t3, .ref t4, .ref t5, .ref (fS F)])), (t0, .inr (8, [.int (iI 199), .ref q0])), (q0, gI g 796 (rV r2)), (t1, .inr (8, [.int (iI 199), .ref q1])), (q1, gI g 796 (rH r2)), (t2, .inr (8, [.int (iI 199), .ref q2])), (q2, gI g 796 (rR r2)), (t4, .inr (8, [.int (iI 40), .ref q4])), (q4, gI g 160 (nS r2)), (t5, .inr (8, [.int (iI 40), .ref q5])), (q5, gI g 160 (nW r2)), (t3, .inr (8, [.int (iI 40), .ref q3])), (q3, gI g 160 (up (nV r2) (u * 40 + k).toNat (vv (fP F) (fE F) (eU (fE F u.toNat) k.toNat).toNat (gv (row (nV r) u) (eL (fE F u.toNat) k.toNat)))))] := hW
      refine W.eq (g2 := F0 m 82 ls []) rfl ?_
      refine lv_aload_n S0.1 S0.2.1 dX5_hingeOfCall_82 rfl (lv_at hl 4 rfl) ?_
      refine q_get (C := RX5) (T := TX5) (N := 7) S0 hK hW.1 hinX5 0 rfl rfl 6 (by decide) (List.mem_of_getElem? (i := 1) rfl) rfl rfl dX5_hingeOfCall_83 ?_
      refine q_pV (n := 0) (rest := []) S0 hK (c_X7_numbers l g (fS F) (fR F) (fX F 0) (fX F 1) (fX F 2) (fX F 3)) (subP ((hfz _ _ _ hW)).1 [0] rfl) (trivial) gX5_hingeOfCall_X7_numbers rfl rfl rfl (by decide +kernel) ⟨by dsimp only; omega, by dsimp only; omega⟩ (q_recv hK ((hfz _ _ _ hW)).1 (ci := 7) (q0 := 0) rfl rfl) rfl rfl hl.1 (Nat.le_of_ble_eq_true rfl) ⟨Nat.le_of_ble_eq_true rfl, Nat.le_of_ble_eq_true rfl⟩ dX5_hingeOfCall_86 ?_
      refine W.eq (g2 := F0 m 89 ls [.ref (fR F)]) rfl ?_
      refine lv_iload S0.1 S0.2.1 dX5_hingeOfCall_89 (lv_at hl 0 rfl) ?_
      refine lv_aload_n S0.1 S0.2.1 dX5_hingeOfCall_91 rfl (lv_at hl 4 rfl) ?_
      refine q_get (C := RX5) (T := TX5) (N := 7) S0 hK hW.1 hinX5 0 rfl rfl 4 (by decide) (List.mem_of_getElem? (i := 4) rfl) rfl rfl dX5_hingeOfCall_92 ?_
      refine lv_iload_n S0.1 S0.2.1 dX5_hingeOfCall_95 rfl (lv_at hl 5 rfl) ?_
      refine lv_aload_n S0.1 S0.2.1 dX5_hingeOfCall_96 rfl (lv_at hl 3 rfl) ?_
      refine lv_iload_n S0.1 S0.2.1 dX5_hingeOfCall_97 rfl (lv_at hl 6 rfl) ?_
      refine q_pV (n := 1) (rest := [.int (iI u), .ref t4, .int (iI (hh (fP F) (fE F) ((eU (fE F u.toNat)) k.toNat).toNat (gv (row (nV r) u) ((eL (fE F u.toNat)) k.toNat)))), .ref (fR F)]) S0 hK (c_X1_leftI l g (fX F u.toNat) (fK F u.toNat 1) (fK F u.toNat 2) (fK F u.toNat 3) (fK F u.toNat 4) (fD F u.toNat) (fU F u.toNat) (fL F u.toNat) (eN (fE F u.toNat)) (eL (fE F u.toNat)) k (by omega) (by omega)) (subP (((hfz _ _ _ hW)).2 u.toNat (by omega)) [0, 3] rfl) (trivial) gX5_hingeOfCall_X1_left rfl rfl rfl (by decide +kernel) ⟨by dsimp only; omega, by dsimp only; omega⟩ (q_recv hK (((hfz _ _ _ hW)).2 u.toNat (by omega)) (ci := 1) (q0 := 0) rfl rfl) rfl rfl hl.1 (Nat.le_of_ble_eq_true rfl) ⟨Nat.le_of_ble_eq_true rfl, Nat.le_of_ble_eq_true rfl⟩ dX5_hingeOfCall_98 ?_
      refine W.eq (g2 := F0 m 101 ls [.int (iI ((eL (fE F u.toNat)) k.toNat)), .int (iI u), .ref t4, .int (iI (hh (fP F) (fE F) ((eU (fE F u.toNat)) k.toNat).toNat (gv (row (nV r) u) ((eL (fE F u.toNat)) k.toNat)))), .ref (fR F)]) rfl ?_
      refine q_pV (n := 2) (rest := [.int (iI (hh (fP F) (fE F) ((eU (fE F u.toNat)) k.toNat).toNat (gv (row (nV r) u) ((eL (fE F u.toNat)) k.toNat)))), .ref (fR F)]) S0 hK (c_X8_get40 l g t4 q4 (nS r2) u ((eL (fE F u.toNat)) k.toNat) (by omega) (by omega)) (subP hW.1 [7, 8] rfl) (trivial) gX5_hingeOfCall_X8_get rfl rfl rfl (by decide +kernel) ⟨by dsimp only; omega, by dsimp only; omega⟩ (q_recv hK hW.1 (ci := 8) (q0 := 7) rfl rfl) rfl rfl hl.1 (Nat.le_of_ble_eq_true rfl) ⟨Nat.le_of_ble_eq_true rfl, Nat.le_of_ble_eq_true rfl⟩ dX5_hingeOfCall_101 ?_
      refine W.eq (g2 := F0 m 104 ls [.int (iI (gv (row (nS r2) u) ((eL (fE F u.toNat)) k.toNat))), .int (iI (hh (fP F) (fE F) ((eU (fE F u.toNat)) k.toNat).toNat (gv (row (nV r) u) ((eL (fE F u.toNat)) k.toNat)))), .ref (fR F)]) rfl ?_
      refine q_topI (b := gv (row (nS r) u) (eL (fE F u.toNat) k.toNat)) (by rw [hsrow]) ?_
      have gs := gv_rng (w := row (nS r) u) (p := fP F) (i := eL (fE F u.toNat) k.toNat) (k := k.toNat) (by omega) hs (by omega) hL
      have hm := mul_rng (a := hh (fP F) (fE F) (eU (fE F u.toNat) k.toNat).toNat (gv (row (nV r) u) (eL (fE F u.toNat) k.toNat))) (b := gv (row (nS r) u) (eL (fE F u.toNat) k.toNat)) (n := 200) (k := 200) (by omega) (by omega)
      refine q_pV (n := 2) (rest := []) S0 hK (c_X6_multiply l g (fR F) (fP F) (hh (fP F) (fE F) ((eU (fE F u.toNat)) k.toNat).toNat (gv (row (nV r) u) ((eL (fE F u.toNat)) k.toNat))) (gv (row (nS r) u) (eL (fE F u.toNat) k.toNat)) (by omega) (by omega)) (subP ((hfz _ _ _ hW)).1 [1] rfl) (trivial) gX5_hingeOfCall_X6_multiply rfl rfl rfl (by decide +kernel) ⟨by dsimp only; omega, by dsimp only; omega⟩ (q_recv hK ((hfz _ _ _ hW)).1 (ci := 6) (q0 := 1) rfl rfl) rfl rfl hl.1 (Nat.le_of_ble_eq_true rfl) ⟨Nat.le_of_ble_eq_true rfl, Nat.le_of_ble_eq_true rfl⟩ dX5_hingeOfCall_104 ?_
      refine W.eq (g2 := F0 m 107 ls [.int (iI (((hh (fP F) (fE F) ((eU (fE F u.toNat)) k.toNat).toNat (gv (row (nV r) u) ((eL (fE F u.toNat)) k.toNat))) * (gv (row (nS r) u) (eL (fE F u.toNat) k.toNat))) % (fP F)))]) rfl ?_
      exact q_iret S0 hr hlocks (mkR (rV r2) (rH r2) (rR r2) (up (nV r2) (u * 40 + k).toNat (vv (fP F) (fE F) (eU (fE F u.toNat) k.toNat).toNat (gv (row (nV r) u) (eL (fE F u.toNat) k.toNat)))) (nS r2) (nW r2)) (⟨RI_nodes hI2 _ _ _, fun j hj => ⟨by rw [if_neg c57]; show up (nV r2) (u * 40 + k).toNat _ j = up (nV r) (u * 40 + k).toNat _ j; unfold up; split; rfl; exact (hrw j hj).1, (hrw j hj).2⟩⟩) (by rw [if_neg c57]) (hW.sub [0, 1, 2, 3, 4, 5, 6, 11, 12, 7, 8, 9, 10] rfl (rfl)) (Nat.le_of_ble_eq_true rfl) (Nat.le_of_ble_eq_true rfl) dX5_hingeOfCall_107
    · skip
      refine q_iconst S0 dX5_hingeOfCall_60 ?_
      exact q_iret S0 hr hlocks r2 (⟨hI2, fun j hj => ⟨by rw [if_pos c57]; exact (hrw j hj).1, (hrw j hj).2⟩⟩) (by rw [if_pos c57]) (hW.sub [0, 1, 2, 3, 4, 5, 6, 7, 8, 9, 10, 11, 12] rfl (rfl)) (Nat.le_of_ble_eq_true rfl) (Nat.le_of_ble_eq_true rfl) dX5_hingeOfCall_61
