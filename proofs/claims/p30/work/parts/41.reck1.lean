set_option maxHeartbeats 4000000 in
set_option maxRecDepth 100000 in
theorem c_X5_mayUse (l : Launch) (g : GG) (f u : Int) (hf : -2147483648 ≤ f ∧ f < 2147483648) (hu : -2147483648 ≤ u ∧ u < 2147483648) : qPure l yX5_mayUse wsX5_mayUse ({ frames := 0, cells := 0, slots := 0, locals := 0 }) g [.int (iI f), .int (iI u)] [] (fun _ => True) (some (.int (iI (if 0 ≤ u ∧ u < f then (1 : Int) else 0)))) := by
  refine q_ofP (cc := cX5_mayUse) (maxL := 2) (ret := (some .boolean)) (by decide) rfl (Nat.le_of_ble_eq_true rfl) ?_
  intro p e s m args below meth c ls S0 hr hlocks hK hP hX hl
  have hP : va_P g.1 vwCl [] s.heap := hP
  have hl : lv_has ls 2 [(0, .int (iI f)), (1, .int (iI u))] := hl
  refine lv_iload_n S0.1 S0.2.1 dX5_mayUse_0 rfl (lv_at hl 1 rfl) ?_
  refine q_if_lt (tgt := 13) S0 (by omega) dX5_mayUse_1 (by decide) (fun c1 => ?_) (fun c1 => ?_)
  · skip
    refine q_iconst S0 dX5_mayUse_13 ?_
    exact qp_zret S0 hr hlocks (by first | exact Or.inl rfl | exact Or.inr rfl | omega) (by first | (rw [if_pos (by omega)]; done) | (rw [if_neg (by omega)]; done) | (exfalso; omega)) dX5_mayUse_14
  · skip
    refine lv_iload_n S0.1 S0.2.1 dX5_mayUse_4 rfl (lv_at hl 1 rfl) ?_
    refine lv_iload_n S0.1 S0.2.1 dX5_mayUse_5 rfl (lv_at hl 0 rfl) ?_
    refine q_icmp_ge (tgt := 13) S0 (by omega) dX5_mayUse_6 (by decide) (fun c6 => ?_) (fun c6 => ?_)
    · skip
      refine q_iconst S0 dX5_mayUse_13 ?_
      exact qp_zret S0 hr hlocks (by first | exact Or.inl rfl | exact Or.inr rfl | omega) (by first | (rw [if_pos (by omega)]; done) | (rw [if_neg (by omega)]; done) | (exfalso; omega)) dX5_mayUse_14
    · skip
      refine q_iconst S0 dX5_mayUse_9 ?_
      refine lv_goto (tgt := 14) S0.1 S0.2.1 dX5_mayUse_10 (by decide) ?_
      exact qp_zret S0 hr hlocks (by first | exact Or.inl rfl | exact Or.inr rfl | omega) (by first | (rw [if_pos (by omega)]; done) | (rw [if_neg (by omega)]; done) | (exfalso; omega)) dX5_mayUse_14
set_option maxHeartbeats 4000000 in
set_option maxRecDepth 100000 in
theorem c_X5_state (l : Launch) (g : GG) (rk t0 t1 t2 t3 t4 t5 st : Nat) : qPure l yX5_state wsX5_state ({ frames := 0, cells := 0, slots := 0, locals := 0 }) g [.ref rk] [(rk, .inr (5, [.ref t0, .ref t1, .ref t2, .ref t3, .ref t4, .ref t5, .ref st]))] (fun _ => True) (some (.ref st)) := by
  refine q_ofP (cc := cX5_state) (maxL := 1) (ret := (some (.object "HingeNumbers$State"))) (by decide) rfl (Nat.le_of_ble_eq_true rfl) ?_
  intro p e s m args below meth c ls S0 hr hlocks hK hP hX hl
  have hP : va_P g.1 vwCl [(rk, .inr (5, [.ref t0, .ref t1, .ref t2, .ref t3, .ref t4, .ref t5, .ref st]))] s.heap := hP
  have hl : lv_has ls 1 [(0, .ref rk)] := hl
  have hinX5 : ∀ w ∈ wsX50, w ∈ wsX5_state := fun w h => List.mem_cons_of_mem _ (List.mem_append_right _ h)
  refine lv_aload_n S0.1 S0.2.1 dX5_state_0 rfl (lv_at hl 0 rfl) ?_
  refine q_get (C := RX5) (T := TX5) (N := 7) S0 hK hP hinX5 0 rfl rfl 6 (by decide) (List.mem_of_getElem? (i := 1) rfl) rfl rfl dX5_state_1 ?_
  exact qp_aret S0 hr (Or.inl ⟨_, rfl⟩) hlocks (Or.inr ⟨_, rfl⟩) (rfl) dX5_state_4
set_option maxHeartbeats 4000000 in
set_option maxRecDepth 100000 in
/-- the value of a node that is no call -/
theorem c_X5_valueOfNode (l : Launch) (g : GG) (rk t0 t1 t2 t3 q3 t4 t5 : Nat) (F : FT) (N : Nat → Int) (u k x : Int) (hp : 2 ≤ fP F ∧ fP F ≤ 199) (hu : 0 ≤ u ∧ u < 4) (hn : eN (fE F u.toNat) ≤ 40) (hk : 0 ≤ k ∧ k < eN (fE F u.toNat)) (hE : WFK (fE F u.toNat) u.toNat k.toNat) (hx : 0 ≤ x ∧ x < fP F) (hv : ∀ j, j < k.toNat → 0 ≤ row N u j ∧ row N u j < fP F) : qPure l yX5_valueOfNode wsX5_valueOfNode ({ frames := 2, cells := 0, slots := 0, locals := 47 }) g [.ref rk, .int (iI u), .int (iI k), .int (iI x)] [(rk, .inr (5, [.ref t0, .ref t1, .ref t2, .ref t3, .ref t4, .ref t5, .ref (fS F)])), (t3, .inr (8, [.int (iI 40), .ref q3])), (q3, gI g 160 N)] (FX g F) (some (.int (iI (nvn (fP F) (fE F u.toNat) x (row N u) k.toNat)))) := by
  refine q_ofP (cc := cX5_valueOfNode) (maxL := 8) (ret := (some .int)) (by decide) rfl (Nat.le_of_ble_eq_true rfl) ?_
  intro p e s m args below meth c ls S0 hr hlocks hK hP hX hl
  have hP : va_P g.1 vwCl [(rk, .inr (5, [.ref t0, .ref t1, .ref t2, .ref t3, .ref t4, .ref t5, .ref (fS F)])), (t3, .inr (8, [.int (iI 40), .ref q3])), (q3, gI g 160 N)] s.heap := hP
  have hl : lv_has ls 8 [(0, .ref rk), (1, .int (iI u)), (2, .int (iI k)), (3, .int (iI x))] := hl
  have hinX5 : ∀ w ∈ wsX50, w ∈ wsX5_valueOfNode := fun w h => List.mem_cons_of_mem _ (List.mem_append_left _ (List.mem_append_left _ (List.mem_append_left _ (List.mem_append_left _ (List.mem_append_right _ h)))))
  have hL := WFK_L hE
  have hV := WFK_V hE
  have hU := WFK_U hE (by omega)
  have gu := gv_rng (w := row N u) (p := fP F) (i := eL (fE F u.toNat) k.toNat) (k := k.toNat) (by omega) hv (by omega) hL
  have gw := gv_rng (w := row N u) (p := fP F) (i := eV (fE F u.toNat) k.toNat) (k := k.toNat) (by omega) hv (by omega) hV
  have hKK := WFK_K hE
  refine lv_aload_n S0.1 S0.2.1 dX5_valueOfNode_0 rfl (lv_at hl 0 rfl) ?_
  refine q_get (C := RX5) (T := TX5) (N := 7) S0 hK hP hinX5 0 rfl rfl 6 (by decide) (List.mem_of_getElem? (i := 1) rfl) rfl rfl dX5_valueOfNode_1 ?_
  refine lv_iload_n S0.1 S0.2.1 dX5_valueOfNode_4 rfl (lv_at hl 1 rfl) ?_
  refine q_pV (n := 1) (rest := []) S0 hK (c_X7_exprOf l g (fS F) (fR F) (fX F) u (by omega)) (subP (hX).1 [0] rfl) (trivial) gX5_valueOfNode_X7_expressionOf rfl rfl rfl (by decide +kernel) ⟨Nat.le_of_ble_eq_true rfl, Nat.le_of_ble_eq_true rfl⟩ (q_recv hK (hX).1 (ci := 7) (q0 := 0) rfl rfl) rfl rfl hl.1 (Nat.le_of_ble_eq_true rfl) ⟨Nat.le_of_ble_eq_true rfl, Nat.le_of_ble_eq_true rfl⟩ dX5_valueOfNode_5 ?_
  refine W.eq (g2 := F0 m 8 ls [.ref (fX F u.toNat)]) rfl ?_
  refine lv_astore (lv' := [(4, .ref (fX F u.toNat)), (0, .ref rk), (1, .int (iI u)), (2, .int (iI k)), (3, .int (iI x))]) S0.1 S0.2.1 dX5_valueOfNode_8 hl (by decide) rfl (fun ls hl => ?_)
  refine lv_aload_n S0.1 S0.2.1 dX5_valueOfNode_10 rfl (lv_at hl 1 rfl) ?_
  refine q_get (C := RX5) (T := TX5) (N := 7) S0 hK hP hinX5 0 rfl rfl 6 (by decide) (List.mem_of_getElem? (i := 1) rfl) rfl rfl dX5_valueOfNode_11 ?_
  refine q_pV (n := 0) (rest := []) S0 hK (c_X7_numbers l g (fS F) (fR F) (fX F 0) (fX F 1) (fX F 2) (fX F 3)) (subP (hX).1 [0] rfl) (trivial) gX5_valueOfNode_X7_numbers rfl rfl rfl (by decide +kernel) ⟨Nat.le_of_ble_eq_true rfl, Nat.le_of_ble_eq_true rfl⟩ (q_recv hK (hX).1 (ci := 7) (q0 := 0) rfl rfl) rfl rfl hl.1 (Nat.le_of_ble_eq_true rfl) ⟨Nat.le_of_ble_eq_true rfl, Nat.le_of_ble_eq_true rfl⟩ dX5_valueOfNode_14 ?_
  refine W.eq (g2 := F0 m 17 ls [.ref (fR F)]) rfl ?_
  refine lv_astore (lv' := [(5, .ref (fR F)), (4, .ref (fX F u.toNat)), (0, .ref rk), (1, .int (iI u)), (2, .int (iI k)), (3, .int (iI x))]) S0.1 S0.2.1 dX5_valueOfNode_17 hl (by decide) rfl (fun ls hl => ?_)
  refine lv_aload_n S0.1 S0.2.1 dX5_valueOfNode_19 rfl (lv_at hl 2 rfl) ?_
  refine q_get (C := RX5) (T := TX5) (N := 7) S0 hK hP hinX5 0 rfl rfl 3 (by decide) (List.mem_of_getElem? (i := 2) rfl) rfl rfl dX5_valueOfNode_20 ?_
  refine lv_iload_n S0.1 S0.2.1 dX5_valueOfNode_23 rfl (lv_at hl 3 rfl) ?_
  refine lv_aload S0.1 S0.2.1 dX5_valueOfNode_24 (lv_at hl 1 rfl) ?_
  refine lv_iload_n S0.1 S0.2.1 dX5_valueOfNode_26 rfl (lv_at hl 4 rfl) ?_
  refine q_pV (n := 1) (rest := [.int (iI u), .ref t3]) S0 hK (c_X1_leftI l g (fX F u.toNat) (fK F u.toNat 1) (fK F u.toNat 2) (fK F u.toNat 3) (fK F u.toNat 4) (fD F u.toNat) (fU F u.toNat) (fL F u.toNat) (eN (fE F u.toNat)) (eL (fE F u.toNat)) k (by omega) (by omega)) (subP ((hX).2 u.toNat (by omega)) [0, 3] rfl) (trivial) gX5_valueOfNode_X1_left rfl rfl rfl (by decide +kernel) ⟨Nat.le_of_ble_eq_true rfl, Nat.le_of_ble_eq_true rfl⟩ (q_recv hK ((hX).2 u.toNat (by omega)) (ci := 1) (q0 := 0) rfl rfl) rfl rfl hl.1 (Nat.le_of_ble_eq_true rfl) ⟨Nat.le_of_ble_eq_true rfl, Nat.le_of_ble_eq_true rfl⟩ dX5_valueOfNode_27 ?_
  refine W.eq (g2 := F0 m 30 ls [.int (iI ((eL (fE F u.toNat)) k.toNat)), .int (iI u), .ref t3]) rfl ?_
  refine q_pV (n := 2) (rest := []) S0 hK (c_X8_get40 l g t3 q3 N u ((eL (fE F u.toNat)) k.toNat) (by omega) (by omega)) (subP hP [1, 2] rfl) (trivial) gX5_valueOfNode_X8_get rfl rfl rfl (by decide +kernel) ⟨Nat.le_of_ble_eq_true rfl, Nat.le_of_ble_eq_true rfl⟩ (q_recv hK hP (ci := 8) (q0 := 1) rfl rfl) rfl rfl hl.1 (Nat.le_of_ble_eq_true rfl) ⟨Nat.le_of_ble_eq_true rfl, Nat.le_of_ble_eq_true rfl⟩ dX5_valueOfNode_30 ?_
  refine W.eq (g2 := F0 m 33 ls [.int (iI (gv (row N u) ((eL (fE F u.toNat)) k.toNat)))]) rfl ?_
  refine lv_istore (lv' := [(6, .int (iI (gv (row N u) ((eL (fE F u.toNat)) k.toNat)))), (5, .ref (fR F)), (4, .ref (fX F u.toNat)), (0, .ref rk), (1, .int (iI u)), (2, .int (iI k)), (3, .int (iI x))]) S0.1 S0.2.1 dX5_valueOfNode_33 hl (by decide) rfl (fun ls hl => ?_)
  refine lv_aload_n S0.1 S0.2.1 dX5_valueOfNode_35 rfl (lv_at hl 3 rfl) ?_
  refine q_get (C := RX5) (T := TX5) (N := 7) S0 hK hP hinX5 0 rfl rfl 3 (by decide) (List.mem_of_getElem? (i := 2) rfl) rfl rfl dX5_valueOfNode_36 ?_
  refine lv_iload_n S0.1 S0.2.1 dX5_valueOfNode_39 rfl (lv_at hl 4 rfl) ?_
  refine lv_aload S0.1 S0.2.1 dX5_valueOfNode_40 (lv_at hl 2 rfl) ?_
  refine lv_iload_n S0.1 S0.2.1 dX5_valueOfNode_42 rfl (lv_at hl 5 rfl) ?_
  refine q_pV (n := 1) (rest := [.int (iI u), .ref t3]) S0 hK (c_X1_rightI l g (fX F u.toNat) (fK F u.toNat 1) (fK F u.toNat 2) (fK F u.toNat 3) (fK F u.toNat 4) (fD F u.toNat) (fU F u.toNat) (fL F u.toNat) (eN (fE F u.toNat)) (eV (fE F u.toNat)) k (by omega) (by omega)) (subP ((hX).2 u.toNat (by omega)) [0, 4] rfl) (trivial) gX5_valueOfNode_X1_right rfl rfl rfl (by decide +kernel) ⟨Nat.le_of_ble_eq_true rfl, Nat.le_of_ble_eq_true rfl⟩ (q_recv hK ((hX).2 u.toNat (by omega)) (ci := 1) (q0 := 0) rfl rfl) rfl rfl hl.1 (Nat.le_of_ble_eq_true rfl) ⟨Nat.le_of_ble_eq_true rfl, Nat.le_of_ble_eq_true rfl⟩ dX5_valueOfNode_43 ?_
  refine W.eq (g2 := F0 m 46 ls [.int (iI ((eV (fE F u.toNat)) k.toNat)), .int (iI u), .ref t3]) rfl ?_
  refine q_pV (n := 2) (rest := []) S0 hK (c_X8_get40 l g t3 q3 N u ((eV (fE F u.toNat)) k.toNat) (by omega) (by omega)) (subP hP [1, 2] rfl) (trivial) gX5_valueOfNode_X8_get rfl rfl rfl (by decide +kernel) ⟨Nat.le_of_ble_eq_true rfl, Nat.le_of_ble_eq_true rfl⟩ (q_recv hK hP (ci := 8) (q0 := 1) rfl rfl) rfl rfl hl.1 (Nat.le_of_ble_eq_true rfl) ⟨Nat.le_of_ble_eq_true rfl, Nat.le_of_ble_eq_true rfl⟩ dX5_valueOfNode_46 ?_
  refine W.eq (g2 := F0 m 49 ls [.int (iI (gv (row N u) ((eV (fE F u.toNat)) k.toNat)))]) rfl ?_
  refine lv_istore (lv' := [(7, .int (iI (gv (row N u) ((eV (fE F u.toNat)) k.toNat)))), (6, .int (iI (gv (row N u) ((eL (fE F u.toNat)) k.toNat)))), (5, .ref (fR F)), (4, .ref (fX F u.toNat)), (0, .ref rk), (1, .int (iI u)), (2, .int (iI k)), (3, .int (iI x))]) S0.1 S0.2.1 dX5_valueOfNode_49 hl (by decide) rfl (fun ls hl => ?_)
  refine lv_aload S0.1 S0.2.1 dX5_valueOfNode_51 (lv_at hl 3 rfl) ?_
  refine lv_iload_n S0.1 S0.2.1 dX5_valueOfNode_53 rfl (lv_at hl 6 rfl) ?_
  refine q_pV (n := 1) (rest := []) S0 hK (c_X1_kindI l g (fX F u.toNat) (fK F u.toNat 1) (fK F u.toNat 2) (fK F u.toNat 3) (fK F u.toNat 4) (fD F u.toNat) (fU F u.toNat) (fL F u.toNat) (eN (fE F u.toNat)) (eK (fE F u.toNat)) k (by omega) (by omega)) (subP ((hX).2 u.toNat (by omega)) [0, 1] rfl) (trivial) gX5_valueOfNode_X1_kind rfl rfl rfl (by decide +kernel) ⟨Nat.le_of_ble_eq_true rfl, Nat.le_of_ble_eq_true rfl⟩ (q_recv hK ((hX).2 u.toNat (by omega)) (ci := 1) (q0 := 0) rfl rfl) rfl rfl hl.1 (Nat.le_of_ble_eq_true rfl) ⟨Nat.le_of_ble_eq_true rfl, Nat.le_of_ble_eq_true rfl⟩ dX5_valueOfNode_54 ?_
  refine W.eq (g2 := F0 m 57 ls [.int (iI ((eK (fE F u.toNat)) k.toNat))]) rfl ?_
  by_cases k57_42 : (eK (fE F u.toNat)) k.toNat = 42
  · refine q_topI k57_42 ?_
    refine lv_lookup (off := 118) (tgt := 175) S0.1 S0.2.1 dX5_valueOfNode_57 (by decide) (by decide) (by decide) ?_
    refine lv_aload S0.1 S0.2.1 dX5_valueOfNode_175 (lv_at hl 2 rfl) ?_
    refine lv_iload S0.1 S0.2.1 dX5_valueOfNode_177 (lv_at hl 1 rfl) ?_
    refine lv_iload S0.1 S0.2.1 dX5_valueOfNode_179 (lv_at hl 0 rfl) ?_
    have hm := mul_rng (a := gv (row N u) (eL (fE F u.toNat) k.toNat)) (b := gv (row N u) (eV (fE F u.toNat) k.toNat)) (n := 200) (k := 200) (by omega) (by omega)
    refine q_pV (n := 2) (rest := []) S0 hK (c_X6_multiply l g (fR F) (fP F) (gv (row N u) ((eL (fE F u.toNat)) k.toNat)) (gv (row N u) ((eV (fE F u.toNat)) k.toNat)) (by omega) (by omega)) (subP (hX).1 [1] rfl) (trivial) gX5_valueOfNode_X6_multiply rfl rfl rfl (by decide +kernel) ⟨Nat.le_of_ble_eq_true rfl, Nat.le_of_ble_eq_true rfl⟩ (q_recv hK (hX).1 (ci := 6) (q0 := 1) rfl rfl) rfl rfl hl.1 (Nat.le_of_ble_eq_true rfl) ⟨Nat.le_of_ble_eq_true rfl, Nat.le_of_ble_eq_true rfl⟩ dX5_valueOfNode_181 ?_
    refine W.eq (g2 := F0 m 184 ls [.int (iI (((gv (row N u) ((eL (fE F u.toNat)) k.toNat)) * (gv (row N u) ((eV (fE F u.toNat)) k.toNat))) % (fP F)))]) rfl ?_
    exact qp_iret S0 hr hlocks (by unfold nvn; (repeat (first | rw [if_pos (by omega)] | rw [if_neg (by omega)])); first | done | rfl) dX5_valueOfNode_184
  by_cases k57_43 : (eK (fE F u.toNat)) k.toNat = 43
  · refine q_topI k57_43 ?_
    refine lv_lookup (off := 98) (tgt := 155) S0.1 S0.2.1 dX5_valueOfNode_57 (by decide) (by decide) (by decide) ?_
    refine lv_aload S0.1 S0.2.1 dX5_valueOfNode_155 (lv_at hl 2 rfl) ?_
    refine lv_iload S0.1 S0.2.1 dX5_valueOfNode_157 (lv_at hl 1 rfl) ?_
    refine lv_iload S0.1 S0.2.1 dX5_valueOfNode_159 (lv_at hl 0 rfl) ?_
    refine q_pV (n := 2) (rest := []) S0 hK (c_X6_add l g (fR F) (fP F) (gv (row N u) ((eL (fE F u.toNat)) k.toNat)) (gv (row N u) ((eV (fE F u.toNat)) k.toNat)) (by omega) (by omega)) (subP (hX).1 [1] rfl) (trivial) gX5_valueOfNode_X6_add rfl rfl rfl (by decide +kernel) ⟨Nat.le_of_ble_eq_true rfl, Nat.le_of_ble_eq_true rfl⟩ (q_recv hK (hX).1 (ci := 6) (q0 := 1) rfl rfl) rfl rfl hl.1 (Nat.le_of_ble_eq_true rfl) ⟨Nat.le_of_ble_eq_true rfl, Nat.le_of_ble_eq_true rfl⟩ dX5_valueOfNode_161 ?_
    refine W.eq (g2 := F0 m 164 ls [.int (iI (((gv (row N u) ((eL (fE F u.toNat)) k.toNat)) + (gv (row N u) ((eV (fE F u.toNat)) k.toNat))) % (fP F)))]) rfl ?_
    exact qp_iret S0 hr hlocks (by unfold nvn; (repeat (first | rw [if_pos (by omega)] | rw [if_neg (by omega)])); first | done | rfl) dX5_valueOfNode_164
  by_cases k57_45 : (eK (fE F u.toNat)) k.toNat = 45
  · refine q_topI k57_45 ?_
    refine lv_lookup (off := 108) (tgt := 165) S0.1 S0.2.1 dX5_valueOfNode_57 (by decide) (by decide) (by decide) ?_
    refine lv_aload S0.1 S0.2.1 dX5_valueOfNode_165 (lv_at hl 2 rfl) ?_
    refine lv_iload S0.1 S0.2.1 dX5_valueOfNode_167 (lv_at hl 1 rfl) ?_
    refine lv_iload S0.1 S0.2.1 dX5_valueOfNode_169 (lv_at hl 0 rfl) ?_
    refine q_pV (n := 2) (rest := []) S0 hK (c_X6_subtract l g (fR F) (fP F) (gv (row N u) ((eL (fE F u.toNat)) k.toNat)) (gv (row N u) ((eV (fE F u.toNat)) k.toNat)) (by omega) (by omega)) (subP (hX).1 [1] rfl) (trivial) gX5_valueOfNode_X6_subtract rfl rfl rfl (by decide +kernel) ⟨Nat.le_of_ble_eq_true rfl, Nat.le_of_ble_eq_true rfl⟩ (q_recv hK (hX).1 (ci := 6) (q0 := 1) rfl rfl) rfl rfl hl.1 (Nat.le_of_ble_eq_true rfl) ⟨Nat.le_of_ble_eq_true rfl, Nat.le_of_ble_eq_true rfl⟩ dX5_valueOfNode_171 ?_
    refine W.eq (g2 := F0 m 174 ls [.int (iI (((gv (row N u) ((eL (fE F u.toNat)) k.toNat)) - (gv (row N u) ((eV (fE F u.toNat)) k.toNat))) % (fP F)))]) rfl ?_
    exact qp_iret S0 hr hlocks (by unfold nvn; (repeat (first | rw [if_pos (by omega)] | rw [if_neg (by omega)])); first | done | rfl) dX5_valueOfNode_174
  by_cases k57_47 : (eK (fE F u.toNat)) k.toNat = 47
  · refine q_topI k57_47 ?_
    refine lv_lookup (off := 128) (tgt := 185) S0.1 S0.2.1 dX5_valueOfNode_57 (by decide) (by decide) (by decide) ?_
    refine lv_iload S0.1 S0.2.1 dX5_valueOfNode_185 (lv_at hl 0 rfl) ?_
    refine q_if_ne (tgt := 194) S0 (by omega) dX5_valueOfNode_187 (by decide) (fun c187 => ?_) (fun c187 => ?_)
    · skip
      refine lv_aload S0.1 S0.2.1 dX5_valueOfNode_194 (lv_at hl 2 rfl) ?_
      refine lv_iload S0.1 S0.2.1 dX5_valueOfNode_196 (lv_at hl 1 rfl) ?_
      refine lv_iload S0.1 S0.2.1 dX5_valueOfNode_198 (lv_at hl 0 rfl) ?_
      refine q_pV (n := 2) (rest := []) S0 hK (c_X6_divide l g (fR F) (fP F) (gv (row N u) ((eL (fE F u.toNat)) k.toNat)) (gv (row N u) ((eV (fE F u.toNat)) k.toNat)) (by omega) (by omega) (by omega)) (subP (hX).1 [1] rfl) (trivial) gX5_valueOfNode_X6_divide rfl rfl rfl (by decide +kernel) ⟨Nat.le_of_ble_eq_true rfl, Nat.le_of_ble_eq_true rfl⟩ (q_recv hK (hX).1 (ci := 6) (q0 := 1) rfl rfl) rfl rfl hl.1 (Nat.le_of_ble_eq_true rfl) ⟨Nat.le_of_ble_eq_true rfl, Nat.le_of_ble_eq_true rfl⟩ dX5_valueOfNode_200 ?_
      refine W.eq (g2 := F0 m 203 ls [.int (iI ((gv (row N u) ((eL (fE F u.toNat)) k.toNat)) * ((gv (row N u) ((eV (fE F u.toNat)) k.toNat)) ^ ((fP F) - 2).toNat % (fP F)) % (fP F)))]) rfl ?_
      exact qp_iret S0 hr hlocks (by unfold nvn inv'; (repeat (first | rw [if_pos (by omega)] | rw [if_neg (by omega)])); first | done | rfl) dX5_valueOfNode_203
    · skip
      refine q_iconst S0 dX5_valueOfNode_190 ?_
      refine lv_goto (tgt := 203) S0.1 S0.2.1 dX5_valueOfNode_191 (by decide) ?_
      exact qp_iret S0 hr hlocks (by unfold nvn inv'; (repeat (first | rw [if_pos (by omega)] | rw [if_neg (by omega)])); first | done | rfl) dX5_valueOfNode_203
  by_cases k57_48 : (eK (fE F u.toNat)) k.toNat = 48
  · refine q_topI k57_48 ?_
    refine lv_lookup (off := 75) (tgt := 132) S0.1 S0.2.1 dX5_valueOfNode_57 (by decide) (by decide) (by decide) ?_
    refine lv_aload S0.1 S0.2.1 dX5_valueOfNode_132 (lv_at hl 2 rfl) ?_
    refine lv_aload S0.1 S0.2.1 dX5_valueOfNode_134 (lv_at hl 3 rfl) ?_
    refine lv_iload_n S0.1 S0.2.1 dX5_valueOfNode_136 rfl (lv_at hl 6 rfl) ?_
    refine q_pV (n := 1) (rest := [.ref (fR F)]) S0 hK (c_X1_numberI l g (fX F u.toNat) (fK F u.toNat 1) (fK F u.toNat 2) (fK F u.toNat 3) (fK F u.toNat 4) (fD F u.toNat) (fU F u.toNat) (fL F u.toNat) (eN (fE F u.toNat)) (eU (fE F u.toNat)) k (by omega) (by omega)) (subP ((hX).2 u.toNat (by omega)) [0, 2] rfl) (trivial) gX5_valueOfNode_X1_number rfl rfl rfl (by decide +kernel) ⟨Nat.le_of_ble_eq_true rfl, Nat.le_of_ble_eq_true rfl⟩ (q_recv hK ((hX).2 u.toNat (by omega)) (ci := 1) (q0 := 0) rfl rfl) rfl rfl hl.1 (Nat.le_of_ble_eq_true rfl) ⟨Nat.le_of_ble_eq_true rfl, Nat.le_of_ble_eq_true rfl⟩ dX5_valueOfNode_137 ?_
    refine W.eq (g2 := F0 m 140 ls [.int (iI ((eU (fE F u.toNat)) k.toNat)), .ref (fR F)]) rfl ?_
    refine q_pV (n := 1) (rest := []) S0 hK (c_X6_of l g (fR F) (fP F) ((eU (fE F u.toNat)) k.toNat) (by omega) (by omega)) (subP (hX).1 [1] rfl) (trivial) gX5_valueOfNode_X6_of rfl rfl rfl (by decide +kernel) ⟨Nat.le_of_ble_eq_true rfl, Nat.le_of_ble_eq_true rfl⟩ (q_recv hK (hX).1 (ci := 6) (q0 := 1) rfl rfl) rfl rfl hl.1 (Nat.le_of_ble_eq_true rfl) ⟨Nat.le_of_ble_eq_true rfl, Nat.le_of_ble_eq_true rfl⟩ dX5_valueOfNode_140 ?_
    refine W.eq (g2 := F0 m 143 ls [.int (iI (((eU (fE F u.toNat)) k.toNat) % (fP F)))]) rfl ?_
    exact qp_iret S0 hr hlocks (by unfold nvn; (repeat (first | rw [if_pos (by omega)] | rw [if_neg (by omega)])); first | done | rfl) dX5_valueOfNode_143
  by_cases k57_94 : (eK (fE F u.toNat)) k.toNat = 94
  · refine q_topI k57_94 ?_
    refine lv_lookup (off := 147) (tgt := 204) S0.1 S0.2.1 dX5_valueOfNode_57 (by decide) (by decide) (by decide) ?_
    refine lv_aload S0.1 S0.2.1 dX5_valueOfNode_204 (lv_at hl 2 rfl) ?_
    refine lv_iload S0.1 S0.2.1 dX5_valueOfNode_206 (lv_at hl 1 rfl) ?_
    refine lv_aload S0.1 S0.2.1 dX5_valueOfNode_208 (lv_at hl 3 rfl) ?_
    refine lv_iload_n S0.1 S0.2.1 dX5_valueOfNode_210 rfl (lv_at hl 6 rfl) ?_
    refine q_pV (n := 1) (rest := [.int (iI (gv (row N u) ((eL (fE F u.toNat)) k.toNat))), .ref (fR F)]) S0 hK (c_X1_numberI l g (fX F u.toNat) (fK F u.toNat 1) (fK F u.toNat 2) (fK F u.toNat 3) (fK F u.toNat 4) (fD F u.toNat) (fU F u.toNat) (fL F u.toNat) (eN (fE F u.toNat)) (eU (fE F u.toNat)) k (by omega) (by omega)) (subP ((hX).2 u.toNat (by omega)) [0, 2] rfl) (trivial) gX5_valueOfNode_X1_number rfl rfl rfl (by decide +kernel) ⟨Nat.le_of_ble_eq_true rfl, Nat.le_of_ble_eq_true rfl⟩ (q_recv hK ((hX).2 u.toNat (by omega)) (ci := 1) (q0 := 0) rfl rfl) rfl rfl hl.1 (Nat.le_of_ble_eq_true rfl) ⟨Nat.le_of_ble_eq_true rfl, Nat.le_of_ble_eq_true rfl⟩ dX5_valueOfNode_211 ?_
    refine W.eq (g2 := F0 m 214 ls [.int (iI ((eU (fE F u.toNat)) k.toNat)), .int (iI (gv (row N u) ((eL (fE F u.toNat)) k.toNat))), .ref (fR F)]) rfl ?_
    refine q_pV (n := 2) (rest := []) S0 hK (c_X6_power l g (fR F) (fP F) (gv (row N u) ((eL (fE F u.toNat)) k.toNat)) ((eU (fE F u.toNat)) k.toNat) (by omega) (by omega) (by omega)) (subP (hX).1 [1] rfl) (trivial) gX5_valueOfNode_X6_power rfl rfl rfl (by decide +kernel) ⟨Nat.le_of_ble_eq_true rfl, Nat.le_of_ble_eq_true rfl⟩ (q_recv hK (hX).1 (ci := 6) (q0 := 1) rfl rfl) rfl rfl hl.1 (Nat.le_of_ble_eq_true rfl) ⟨Nat.le_of_ble_eq_true rfl, Nat.le_of_ble_eq_true rfl⟩ dX5_valueOfNode_214 ?_
    refine W.eq (g2 := F0 m 217 ls [.int (iI ((gv (row N u) ((eL (fE F u.toNat)) k.toNat)) ^ ((eU (fE F u.toNat)) k.toNat).toNat % (fP F)))]) rfl ?_
    exact qp_iret S0 hr hlocks (by unfold nvn; (repeat (first | rw [if_pos (by omega)] | rw [if_neg (by omega)])); first | done | rfl) dX5_valueOfNode_217
  by_cases k57_110 : (eK (fE F u.toNat)) k.toNat = 110
  · refine q_topI k57_110 ?_
    refine lv_lookup (off := 89) (tgt := 146) S0.1 S0.2.1 dX5_valueOfNode_57 (by decide) (by decide) (by decide) ?_
    refine lv_aload S0.1 S0.2.1 dX5_valueOfNode_146 (lv_at hl 2 rfl) ?_
    refine q_iconst S0 dX5_valueOfNode_148 ?_
    refine lv_iload S0.1 S0.2.1 dX5_valueOfNode_149 (lv_at hl 1 rfl) ?_
    refine q_pV (n := 2) (rest := []) S0 hK (c_X6_subtract l g (fR F) (fP F) 0 (gv (row N u) ((eL (fE F u.toNat)) k.toNat)) (by omega) (by omega)) (subP (hX).1 [1] rfl) (trivial) gX5_valueOfNode_X6_subtract rfl rfl rfl (by decide +kernel) ⟨Nat.le_of_ble_eq_true rfl, Nat.le_of_ble_eq_true rfl⟩ (q_recv hK (hX).1 (ci := 6) (q0 := 1) rfl rfl) rfl rfl hl.1 (Nat.le_of_ble_eq_true rfl) ⟨Nat.le_of_ble_eq_true rfl, Nat.le_of_ble_eq_true rfl⟩ dX5_valueOfNode_151 ?_
    refine W.eq (g2 := F0 m 154 ls [.int (iI ((0 - (gv (row N u) ((eL (fE F u.toNat)) k.toNat))) % (fP F)))]) rfl ?_
    exact qp_iret S0 hr hlocks (by unfold nvn; (repeat (first | rw [if_pos (by omega)] | rw [if_neg (by omega)])); first | done | rfl) dX5_valueOfNode_154
  by_cases k57_120 : (eK (fE F u.toNat)) k.toNat = 120
  · refine q_topI k57_120 ?_
    refine lv_lookup (off := 87) (tgt := 144) S0.1 S0.2.1 dX5_valueOfNode_57 (by decide) (by decide) (by decide) ?_
    refine lv_iload_n S0.1 S0.2.1 dX5_valueOfNode_144 rfl (lv_at hl 7 rfl) ?_
    exact qp_iret S0 hr hlocks (by unfold nvn; (repeat (first | rw [if_pos (by omega)] | rw [if_neg (by omega)])); first | done | rfl) dX5_valueOfNode_145
  refine lv_lookup (off := 161) (tgt := 218) S0.1 S0.2.1 dX5_valueOfNode_57 (by decide) (by rw [iI_t (by omega) (by omega)]; show Op.lookupswitch.offset [(42, 118), (43, 98), (45, 108), (47, 128), (48, 75), (94, 147), (110, 89), (120, 87)] 161 ((eK (fE F u.toNat)) k.toNat) = 161; (repeat rw [Op.lookupswitch.offset_cons, if_neg (by omega)]); rfl) (by decide) ?_
  refine q_iconst S0 dX5_valueOfNode_218 ?_
  exact qp_iret S0 hr hlocks (by unfold nvn; (repeat (first | rw [if_pos (by omega)] | rw [if_neg (by omega)])); first | done | rfl) dX5_valueOfNode_219
