set_option maxHeartbeats 4000000 in
set_option maxRecDepth 100000 in
theorem c_X10_functionOf (l : Launch) (g : GG) (x : Int) (hx : -2147483648 ≤ x ∧ x < 2147483648) : qPure l yX10_functionOf wsX10_functionOf ({ frames := 0, cells := 0, slots := 0, locals := 0 }) g [.int (iI x)] [] (fun _ => True) (some (.int (iI (fnO x)))) := by
  refine q_ofP (cc := cX10_functionOf) (maxL := 1) (ret := (some .int)) (by decide) rfl (Nat.le_of_ble_eq_true rfl) ?_
  intro p e s m args below meth c ls S0 hr hlocks hK hP hX hl
  have hP : va_P g.1 vwCl [] s.heap := hP
  have hl : lv_has ls 1 [(0, .int (iI x))] := hl
  refine lv_iload_n S0.1 S0.2.1 dX10_functionOf_0 rfl (lv_at hl 0 rfl) ?_
  by_cases k1_102 : x = 102
  · refine q_topI k1_102 ?_
    refine lv_tableIn (off := 39) (tgt := 40) S0.1 S0.2.1 dX10_functionOf_1 (by decide) (by decide) (by decide) (by decide) ?_
    refine q_iconst S0 dX10_functionOf_40 ?_
    exact qp_iret S0 hr hlocks (by simp only [fnO]; (repeat (first | rw [if_pos (by omega)] | rw [if_neg (by omega)])); done) dX10_functionOf_41
  by_cases k1_103 : x = 103
  · refine q_topI k1_103 ?_
    refine lv_tableIn (off := 41) (tgt := 42) S0.1 S0.2.1 dX10_functionOf_1 (by decide) (by decide) (by decide) (by decide) ?_
    refine q_iconst S0 dX10_functionOf_42 ?_
    exact qp_iret S0 hr hlocks (by simp only [fnO]; (repeat (first | rw [if_pos (by omega)] | rw [if_neg (by omega)])); done) dX10_functionOf_43
  by_cases k1_104 : x = 104
  · refine q_topI k1_104 ?_
    refine lv_tableIn (off := 43) (tgt := 44) S0.1 S0.2.1 dX10_functionOf_1 (by decide) (by decide) (by decide) (by decide) ?_
    refine q_iconst S0 dX10_functionOf_44 ?_
    exact qp_iret S0 hr hlocks (by simp only [fnO]; (repeat (first | rw [if_pos (by omega)] | rw [if_neg (by omega)])); done) dX10_functionOf_45
  by_cases k1_105 : x = 105
  · refine q_topI k1_105 ?_
    refine lv_tableIn (off := 47) (tgt := 48) S0.1 S0.2.1 dX10_functionOf_1 (by decide) (by decide) (by decide) (by decide) ?_
    refine q_iconst S0 dX10_functionOf_48 ?_
    exact qp_iret S0 hr hlocks (by simp only [fnO]; (repeat (first | rw [if_pos (by omega)] | rw [if_neg (by omega)])); done) dX10_functionOf_49
  by_cases k1_106 : x = 106
  · refine q_topI k1_106 ?_
    refine lv_tableIn (off := 47) (tgt := 48) S0.1 S0.2.1 dX10_functionOf_1 (by decide) (by decide) (by decide) (by decide) ?_
    refine q_iconst S0 dX10_functionOf_48 ?_
    exact qp_iret S0 hr hlocks (by simp only [fnO]; (repeat (first | rw [if_pos (by omega)] | rw [if_neg (by omega)])); done) dX10_functionOf_49
  by_cases k1_107 : x = 107
  · refine q_topI k1_107 ?_
    refine lv_tableIn (off := 45) (tgt := 46) S0.1 S0.2.1 dX10_functionOf_1 (by decide) (by decide) (by decide) (by decide) ?_
    refine q_iconst S0 dX10_functionOf_46 ?_
    exact qp_iret S0 hr hlocks (by simp only [fnO]; (repeat (first | rw [if_pos (by omega)] | rw [if_neg (by omega)])); done) dX10_functionOf_47
  refine lv_tableOut (tgt := 48) S0.1 S0.2.1 dX10_functionOf_1 (by rw [iI_t (by omega) (by omega)]; omega) (by decide) ?_
  refine q_iconst S0 dX10_functionOf_48 ?_
  exact qp_iret S0 hr hlocks (by simp only [fnO]; (repeat (first | rw [if_pos (by omega)] | rw [if_neg (by omega)])); done) dX10_functionOf_49
set_option maxHeartbeats 4000000 in
set_option maxRecDepth 100000 in
theorem c_X0_levelOf (l : Launch) (g : GG) (x : Int) (hx : -2147483648 ≤ x ∧ x < 2147483648) : qPure l yX0_levelOf wsX0_levelOf ({ frames := 0, cells := 0, slots := 0, locals := 0 }) g [.int (iI x)] [] (fun _ => True) (some (.int (iI (lvl x)))) := by
  refine q_ofP (cc := cX0_levelOf) (maxL := 1) (ret := (some .int)) (by decide) rfl (Nat.le_of_ble_eq_true rfl) ?_
  intro p e s m args below meth c ls S0 hr hlocks hK hP hX hl
  have hP : va_P g.1 vwCl [] s.heap := hP
  have hl : lv_has ls 1 [(0, .int (iI x))] := hl
  refine lv_iload_n S0.1 S0.2.1 dX0_levelOf_0 rfl (lv_at hl 0 rfl) ?_
  by_cases k1_42 : x = 42
  · refine q_topI k1_42 ?_
    refine lv_tableIn (off := 41) (tgt := 42) S0.1 S0.2.1 dX0_levelOf_1 (by decide) (by decide) (by decide) (by decide) ?_
    refine q_iconst S0 dX0_levelOf_42 ?_
    exact qp_iret S0 hr hlocks (by simp only [lvl]; (repeat (first | rw [if_pos (by omega)] | rw [if_neg (by omega)])); done) dX0_levelOf_43
  by_cases k1_43 : x = 43
  · refine q_topI k1_43 ?_
    refine lv_tableIn (off := 39) (tgt := 40) S0.1 S0.2.1 dX0_levelOf_1 (by decide) (by decide) (by decide) (by decide) ?_
    refine q_iconst S0 dX0_levelOf_40 ?_
    exact qp_iret S0 hr hlocks (by simp only [lvl]; (repeat (first | rw [if_pos (by omega)] | rw [if_neg (by omega)])); done) dX0_levelOf_41
  by_cases k1_44 : x = 44
  · refine q_topI k1_44 ?_
    refine lv_tableIn (off := 43) (tgt := 44) S0.1 S0.2.1 dX0_levelOf_1 (by decide) (by decide) (by decide) (by decide) ?_
    refine q_iconst S0 dX0_levelOf_44 ?_
    exact qp_iret S0 hr hlocks (by simp only [lvl]; (repeat (first | rw [if_pos (by omega)] | rw [if_neg (by omega)])); done) dX0_levelOf_45
  by_cases k1_45 : x = 45
  · refine q_topI k1_45 ?_
    refine lv_tableIn (off := 39) (tgt := 40) S0.1 S0.2.1 dX0_levelOf_1 (by decide) (by decide) (by decide) (by decide) ?_
    refine q_iconst S0 dX0_levelOf_40 ?_
    exact qp_iret S0 hr hlocks (by simp only [lvl]; (repeat (first | rw [if_pos (by omega)] | rw [if_neg (by omega)])); done) dX0_levelOf_41
  by_cases k1_46 : x = 46
  · refine q_topI k1_46 ?_
    refine lv_tableIn (off := 43) (tgt := 44) S0.1 S0.2.1 dX0_levelOf_1 (by decide) (by decide) (by decide) (by decide) ?_
    refine q_iconst S0 dX0_levelOf_44 ?_
    exact qp_iret S0 hr hlocks (by simp only [lvl]; (repeat (first | rw [if_pos (by omega)] | rw [if_neg (by omega)])); done) dX0_levelOf_45
  by_cases k1_47 : x = 47
  · refine q_topI k1_47 ?_
    refine lv_tableIn (off := 41) (tgt := 42) S0.1 S0.2.1 dX0_levelOf_1 (by decide) (by decide) (by decide) (by decide) ?_
    refine q_iconst S0 dX0_levelOf_42 ?_
    exact qp_iret S0 hr hlocks (by simp only [lvl]; (repeat (first | rw [if_pos (by omega)] | rw [if_neg (by omega)])); done) dX0_levelOf_43
  refine lv_tableOut (tgt := 44) S0.1 S0.2.1 dX0_levelOf_1 (by rw [iI_t (by omega) (by omega)]; omega) (by decide) ?_
  refine q_iconst S0 dX0_levelOf_44 ?_
  exact qp_iret S0 hr hlocks (by simp only [lvl]; (repeat (first | rw [if_pos (by omega)] | rw [if_neg (by omega)])); done) dX0_levelOf_45
set_option maxHeartbeats 4000000 in
set_option maxRecDepth 100000 in
theorem c_X0_clear (l : Launch) (g : GG) (b k1 k2 k3 k4 k5 k6 s1 i1 s2 i2 : Nat) (B : BT) : qMet l yX0_clear wsX0_clear ({ frames := 1, cells := 0, slots := 0, locals := 20 }) g [.ref b] [(b, .inr (0, [.ref k1, .ref k2, .ref k3, .ref k4, .ref k5, .ref k6, .int (iI (bN B)), .int (iI (bZ B)), .ref s1, .ref s2])), (k1, gI g 40 (bK B)), (k2, gI g 40 (bU B)), (k3, gI g 40 (bL B)), (k4, gI g 40 (bV B)), (k5, gI g 40 (bD B)), (k6, gI g 40 (bE B)), (s1, .inr (3, [.ref i1, .int (iI (lP B))])), (i1, gI g 40 (lQ B)), (s2, .inr (3, [.ref i2, .int (iI (wP B))])), (i2, gI g 40 (wQ B))] (fun _ => True) (fun _ => True) (S := Unit) (fun _ => none) (fun _ => [(b, .inr (0, [.ref k1, .ref k2, .ref k3, .ref k4, .ref k5, .ref k6, .int (iI (bN (sClear B))), .int (iI (bZ (sClear B))), .ref s1, .ref s2])), (k1, gI g 40 (bK (sClear B))), (k2, gI g 40 (bU (sClear B))), (k3, gI g 40 (bL (sClear B))), (k4, gI g 40 (bV (sClear B))), (k5, gI g 40 (bD (sClear B))), (k6, gI g 40 (bE (sClear B))), (s1, .inr (3, [.ref i1, .int (iI (lP (sClear B)))])), (i1, gI g 40 (lQ (sClear B))), (s2, .inr (3, [.ref i2, .int (iI (wP (sClear B)))])), (i2, gI g 40 (wQ (sClear B)))]) (fun _ => True) 0 0 := by
  refine q_ofW (cc := cX0_clear) (maxL := 1) (ret := none) (fun sz h => h.self) (by decide) rfl (Nat.le_of_ble_eq_true rfl) ?_
  intro p e s m args below meth c A ls S0 hr hlocks hnme hK hA hAe hW hD0 hX hl
  have hW : gW g A s.heap s.heap [] [(b, .inr (0, [.ref k1, .ref k2, .ref k3, .ref k4, .ref k5, .ref k6, .int (iI (bN B)), .int (iI (bZ B)), .ref s1, .ref s2])), (k1, gI g 40 (bK B)), (k2, gI g 40 (bU B)), (k3, gI g 40 (bL B)), (k4, gI g 40 (bV B)), (k5, gI g 40 (bD B)), (k6, gI g 40 (bE B)), (s1, .inr (3, [.ref i1, .int (iI (lP B))])), (i1, gI g 40 (lQ B)), (s2, .inr (3, [.ref i2, .int (iI (wP B))])), (i2, gI g 40 (wQ B))] := hW
  have hl : lv_has ls 1 [(0, .ref b)] := hl
  have hinX0 : ∀ w ∈ wsX00, w ∈ wsX0_clear := fun w h => List.mem_cons_of_mem _ (List.mem_append_left _ (List.mem_append_right _ h))
  refine lv_aload_n S0.1 S0.2.1 dX0_clear_0 rfl (lv_at hl 0 rfl) ?_
  refine q_iconst S0 dX0_clear_1 ?_
  refine q_put (C := RX0) (T := TX0) (N := 10) S0 hK hW hinX0 tyX0_ok nmX0 0 rfl rfl 6 (by decide) (List.mem_of_getElem? (i := 1) rfl) rfl rfl rfl rfl (Nat.le_of_ble_eq_true rfl) dX0_clear_2 (fun H locs hW => ?_)
  have hW : gW g A s.heap H _ [(b, .inr (0, [.ref k1, .ref k2, .ref k3, .ref k4, .ref k5, .ref k6, .int (iI 0), .int (iI (bZ B)), .ref s1, .ref s2])), (k1, gI g 40 (bK B)), (k2, gI g 40 (bU B)), (k3, gI g 40 (bL B)), (k4, gI g 40 (bV B)), (k5, gI g 40 (bD B)), (k6, gI g 40 (bE B)), (s1, .inr (3, [.ref i1, .int (iI (lP B))])), (i1, gI g 40 (lQ B)), (s2, .inr (3, [.ref i2, .int (iI (wP B))])), (i2, gI g 40 (wQ B))] := hW
  refine lv_aload_n S0.1 S0.2.1 dX0_clear_5 rfl (lv_at hl 0 rfl) ?_
  refine q_iconst S0 dX0_clear_6 ?_
  refine q_put (C := RX0) (T := TX0) (N := 10) S0 hK hW hinX0 tyX0_ok nmX0 0 rfl rfl 7 (by decide) (List.mem_of_getElem? (i := 2) rfl) rfl rfl rfl rfl (Nat.le_of_ble_eq_true rfl) dX0_clear_7 (fun H locs hW => ?_)
  have hW : gW g A s.heap H _ [(b, .inr (0, [.ref k1, .ref k2, .ref k3, .ref k4, .ref k5, .ref k6, .int (iI 0), .int (iI 0), .ref s1, .ref s2])), (k1, gI g 40 (bK B)), (k2, gI g 40 (bU B)), (k3, gI g 40 (bL B)), (k4, gI g 40 (bV B)), (k5, gI g 40 (bD B)), (k6, gI g 40 (bE B)), (s1, .inr (3, [.ref i1, .int (iI (lP B))])), (i1, gI g 40 (lQ B)), (s2, .inr (3, [.ref i2, .int (iI (wP B))])), (i2, gI g 40 (wQ B))] := hW
  refine lv_aload_n S0.1 S0.2.1 dX0_clear_10 rfl (lv_at hl 0 rfl) ?_
  refine q_get (C := RX0) (T := TX0) (N := 10) S0 hK hW.1 hinX0 0 rfl rfl 8 (by decide) (List.mem_of_getElem? (i := 3) rfl) rfl rfl dX0_clear_11 ?_
  refine q_cV (n := 0) (rest := []) (wr := [(b, .inr (0, [.ref k1, .ref k2, .ref k3, .ref k4, .ref k5, .ref k6, .int (iI 0), .int (iI 0), .ref s1, .ref s2])), (k1, gI g 40 (bK B)), (k2, gI g 40 (bU B)), (k3, gI g 40 (bL B)), (k4, gI g 40 (bV B)), (k5, gI g 40 (bD B)), (k6, gI g 40 (bE B)), (i1, gI g 40 (lQ B)), (s2, .inr (3, [.ref i2, .int (iI (wP B))])), (i2, gI g 40 (wQ B))]) S0 hK hA hW (c_X3_clear l g s1 i1 (lP B)) gX0_clear_X3_clear rfl rfl rfl (by decide +kernel) ⟨Nat.le_of_ble_eq_true rfl, Nat.le_of_ble_eq_true rfl⟩ [7] [0, 1, 2, 3, 4, 5, 6, 8, 9, 10] rfl rfl rfl rfl (by decide) (q_recv hK hW.1 (ci := 3) (q0 := 7) rfl rfl) (fun _ _ => trivial) (trivial) rfl rfl hl.1 (Nat.le_of_ble_eq_true rfl) ⟨Nat.le_of_ble_eq_true rfl, Nat.le_of_ble_eq_true rfl⟩ dX0_clear_14 (fun _ H locs _ hW => ?_)
  have hW : gW g A s.heap H _ [(b, .inr (0, [.ref k1, .ref k2, .ref k3, .ref k4, .ref k5, .ref k6, .int (iI 0), .int (iI 0), .ref s1, .ref s2])), (k1, gI g 40 (bK B)), (k2, gI g 40 (bU B)), (k3, gI g 40 (bL B)), (k4, gI g 40 (bV B)), (k5, gI g 40 (bD B)), (k6, gI g 40 (bE B)), (i1, gI g 40 (lQ B)), (s2, .inr (3, [.ref i2, .int (iI (wP B))])), (i2, gI g 40 (wQ B)), (s1, .inr (3, [.ref i1, .int (iI 0)]))] := hW
  refine W.eq (g2 := F0 m 17 ls []) rfl ?_
  refine lv_aload_n S0.1 S0.2.1 dX0_clear_17 rfl (lv_at hl 0 rfl) ?_
  refine q_get (C := RX0) (T := TX0) (N := 10) S0 hK hW.1 hinX0 0 rfl rfl 9 (by decide) (List.mem_of_getElem? (i := 4) rfl) rfl rfl dX0_clear_18 ?_
  refine q_cV (n := 0) (rest := []) (wr := [(b, .inr (0, [.ref k1, .ref k2, .ref k3, .ref k4, .ref k5, .ref k6, .int (iI 0), .int (iI 0), .ref s1, .ref s2])), (k1, gI g 40 (bK B)), (k2, gI g 40 (bU B)), (k3, gI g 40 (bL B)), (k4, gI g 40 (bV B)), (k5, gI g 40 (bD B)), (k6, gI g 40 (bE B)), (i1, gI g 40 (lQ B)), (i2, gI g 40 (wQ B)), (s1, .inr (3, [.ref i1, .int (iI 0)]))]) S0 hK hA hW (c_X3_clear l g s2 i2 (wP B)) gX0_clear_X3_clear rfl rfl rfl (by decide +kernel) ⟨Nat.le_of_ble_eq_true rfl, Nat.le_of_ble_eq_true rfl⟩ [8] [0, 1, 2, 3, 4, 5, 6, 7, 9, 10] rfl rfl rfl rfl (by decide) (q_recv hK hW.1 (ci := 3) (q0 := 8) rfl rfl) (fun _ _ => trivial) (trivial) rfl rfl hl.1 (Nat.le_of_ble_eq_true rfl) ⟨Nat.le_of_ble_eq_true rfl, Nat.le_of_ble_eq_true rfl⟩ dX0_clear_21 (fun _ H locs _ hW => ?_)
  have hW : gW g A s.heap H _ [(b, .inr (0, [.ref k1, .ref k2, .ref k3, .ref k4, .ref k5, .ref k6, .int (iI 0), .int (iI 0), .ref s1, .ref s2])), (k1, gI g 40 (bK B)), (k2, gI g 40 (bU B)), (k3, gI g 40 (bL B)), (k4, gI g 40 (bV B)), (k5, gI g 40 (bD B)), (k6, gI g 40 (bE B)), (i1, gI g 40 (lQ B)), (i2, gI g 40 (wQ B)), (s1, .inr (3, [.ref i1, .int (iI 0)])), (s2, .inr (3, [.ref i2, .int (iI 0)]))] := hW
  refine W.eq (g2 := F0 m 24 ls []) rfl ?_
  exact q_vret S0 hr hlocks () (trivial) rfl (hW.sub [0, 1, 2, 3, 4, 5, 6, 9, 7, 10, 8] rfl (rfl)) (Nat.le_of_ble_eq_true rfl) (Nat.le_of_ble_eq_true rfl) dX0_clear_24
set_option maxHeartbeats 4000000 in
set_option maxRecDepth 100000 in
theorem c_X0_leastDefinable (l : Launch) (g : GG) (b k1 k2 k3 k4 k5 k6 s1 s2 : Nat) (B : BT) : qPure l yX0_leastDefinable wsX0_leastDefinable ({ frames := 0, cells := 0, slots := 0, locals := 0 }) g [.ref b] [(b, .inr (0, [.ref k1, .ref k2, .ref k3, .ref k4, .ref k5, .ref k6, .int (iI (bN B)), .int (iI (bZ B)), .ref s1, .ref s2]))] (fun _ => True) (some (.int (iI (bZ B)))) := by
  refine q_ofP (cc := cX0_leastDefinable) (maxL := 1) (ret := (some .int)) (by decide) rfl (Nat.le_of_ble_eq_true rfl) ?_
  intro p e s m args below meth c ls S0 hr hlocks hK hP hX hl
  have hP : va_P g.1 vwCl [(b, .inr (0, [.ref k1, .ref k2, .ref k3, .ref k4, .ref k5, .ref k6, .int (iI (bN B)), .int (iI (bZ B)), .ref s1, .ref s2]))] s.heap := hP
  have hl : lv_has ls 1 [(0, .ref b)] := hl
  have hinX0 : ∀ w ∈ wsX00, w ∈ wsX0_leastDefinable := fun w h => List.mem_cons_of_mem _ (List.mem_append_right _ h)
  refine lv_aload_n S0.1 S0.2.1 dX0_leastDefinable_0 rfl (lv_at hl 0 rfl) ?_
  refine q_get (C := RX0) (T := TX0) (N := 10) S0 hK hP hinX0 0 rfl rfl 7 (by decide) (List.mem_of_getElem? (i := 1) rfl) rfl rfl dX0_leastDefinable_1 ?_
  exact qp_iret S0 hr hlocks (rfl) dX0_leastDefinable_4
set_option maxHeartbeats 4000000 in
set_option maxRecDepth 100000 in
theorem c_X0_await (l : Launch) (g : GG) (b k1 k2 k3 k4 k5 k6 s1 i1 s2 i2 : Nat) (B : BT) (x : Int) (hB : WFB B) : qMet l yX0_await wsX0_await ({ frames := 1, cells := 0, slots := 0, locals := 21 }) g [.ref b, .int (iI x)] [(b, .inr (0, [.ref k1, .ref k2, .ref k3, .ref k4, .ref k5, .ref k6, .int (iI (bN B)), .int (iI (bZ B)), .ref s1, .ref s2])), (k1, gI g 40 (bK B)), (k2, gI g 40 (bU B)), (k3, gI g 40 (bL B)), (k4, gI g 40 (bV B)), (k5, gI g 40 (bD B)), (k6, gI g 40 (bE B)), (s1, .inr (3, [.ref i1, .int (iI (lP B))])), (i1, gI g 40 (lQ B)), (s2, .inr (3, [.ref i2, .int (iI (wP B))])), (i2, gI g 40 (wQ B))] (fun _ => True) (fun _ => True) (S := Unit) (fun _ => none) (fun _ => [(b, .inr (0, [.ref k1, .ref k2, .ref k3, .ref k4, .ref k5, .ref k6, .int (iI (bN (sWait B x))), .int (iI (bZ (sWait B x))), .ref s1, .ref s2])), (k1, gI g 40 (bK (sWait B x))), (k2, gI g 40 (bU (sWait B x))), (k3, gI g 40 (bL (sWait B x))), (k4, gI g 40 (bV (sWait B x))), (k5, gI g 40 (bD (sWait B x))), (k6, gI g 40 (bE (sWait B x))), (s1, .inr (3, [.ref i1, .int (iI (lP (sWait B x)))])), (i1, gI g 40 (lQ (sWait B x))), (s2, .inr (3, [.ref i2, .int (iI (wP (sWait B x)))])), (i2, gI g 40 (wQ (sWait B x)))]) (fun _ => True) 0 0 := by
  refine q_ofW (cc := cX0_await) (maxL := 2) (ret := none) (fun sz h => h.self) (by decide) rfl (Nat.le_of_ble_eq_true rfl) ?_
  intro p e s m args below meth c A ls S0 hr hlocks hnme hK hA hAe hW hD0 hX hl
  have hW : gW g A s.heap s.heap [] [(b, .inr (0, [.ref k1, .ref k2, .ref k3, .ref k4, .ref k5, .ref k6, .int (iI (bN B)), .int (iI (bZ B)), .ref s1, .ref s2])), (k1, gI g 40 (bK B)), (k2, gI g 40 (bU B)), (k3, gI g 40 (bL B)), (k4, gI g 40 (bV B)), (k5, gI g 40 (bD B)), (k6, gI g 40 (bE B)), (s1, .inr (3, [.ref i1, .int (iI (lP B))])), (i1, gI g 40 (lQ B)), (s2, .inr (3, [.ref i2, .int (iI (wP B))])), (i2, gI g 40 (wQ B))] := hW
  have hl : lv_has ls 2 [(0, .ref b), (1, .int (iI x))] := hl
  have hinX0 : ∀ w ∈ wsX00, w ∈ wsX0_await := fun w h => List.mem_cons_of_mem _ (List.mem_append_left _ (List.mem_append_right _ h))
  obtain ⟨h1, h2, h3, h4, h5, h6, h7, h8, h9⟩ := id hB
  refine lv_aload_n S0.1 S0.2.1 dX0_await_0 rfl (lv_at hl 0 rfl) ?_
  refine q_get (C := RX0) (T := TX0) (N := 10) S0 hK hW.1 hinX0 0 rfl rfl 9 (by decide) (List.mem_of_getElem? (i := 1) rfl) rfl rfl dX0_await_1 ?_
  refine lv_iload_n S0.1 S0.2.1 dX0_await_4 rfl (lv_at hl 1 rfl) ?_
  refine q_cV (n := 1) (rest := []) (wr := [(b, .inr (0, [.ref k1, .ref k2, .ref k3, .ref k4, .ref k5, .ref k6, .int (iI (bN B)), .int (iI (bZ B)), .ref s1, .ref s2])), (k1, gI g 40 (bK B)), (k2, gI g 40 (bU B)), (k3, gI g 40 (bL B)), (k4, gI g 40 (bV B)), (k5, gI g 40 (bD B)), (k6, gI g 40 (bE B)), (s1, .inr (3, [.ref i1, .int (iI (lP B))])), (i1, gI g 40 (lQ B))]) S0 hK hA hW (c_X3_push l g s2 i2 (wP B) (wQ B) x (by omega)) gX0_await_X3_push rfl rfl rfl (by decide +kernel) ⟨Nat.le_of_ble_eq_true rfl, Nat.le_of_ble_eq_true rfl⟩ [9, 10] [0, 1, 2, 3, 4, 5, 6, 7, 8] rfl rfl rfl rfl (by decide) (q_recv hK hW.1 (ci := 3) (q0 := 9) rfl rfl) (fun _ _ => trivial) (trivial) rfl rfl hl.1 (Nat.le_of_ble_eq_true rfl) ⟨Nat.le_of_ble_eq_true rfl, Nat.le_of_ble_eq_true rfl⟩ dX0_await_5 (fun _ H locs _ hW => ?_)
  have hW : gW g A s.heap H _ [(b, .inr (0, [.ref k1, .ref k2, .ref k3, .ref k4, .ref k5, .ref k6, .int (iI (bN B)), .int (iI (bZ B)), .ref s1, .ref s2])), (k1, gI g 40 (bK B)), (k2, gI g 40 (bU B)), (k3, gI g 40 (bL B)), (k4, gI g 40 (bV B)), (k5, gI g 40 (bD B)), (k6, gI g 40 (bE B)), (s1, .inr (3, [.ref i1, .int (iI (lP B))])), (i1, gI g 40 (lQ B)), (s2, .inr (3, [.ref i2, .int (iI (pN (wP B)))])), (i2, gI g 40 (pF (wP B) (wQ B) x))] := hW
  refine W.eq (g2 := F0 m 8 ls []) rfl ?_
  exact q_vret S0 hr hlocks () (trivial) rfl (hW.sub [0, 1, 2, 3, 4, 5, 6, 7, 8, 9, 10] rfl (rfl)) (Nat.le_of_ble_eq_true rfl) (Nat.le_of_ble_eq_true rfl) dX0_await_8
set_option maxHeartbeats 4000000 in
set_option maxRecDepth 100000 in
theorem c_X0_numberOf (l : Launch) (g : GG) (b k1 k2 k3 k4 k5 k6 s1 s2 : Nat) (B : BT) (x : Int) (hx : -2147483648 ≤ x ∧ x < 2147483648) : qPure l yX0_numberOf wsX0_numberOf ({ frames := 1, cells := 0, slots := 0, locals := 21 }) g [.ref b, .int (iI x)] [(b, .inr (0, [.ref k1, .ref k2, .ref k3, .ref k4, .ref k5, .ref k6, .int (iI (bN B)), .int (iI (bZ B)), .ref s1, .ref s2])), (k2, gI g 40 (bU B))] (fun _ => True) (some (.int (iI (at0 40 (bU B) x)))) := by
  refine q_ofP (cc := cX0_numberOf) (maxL := 2) (ret := (some .int)) (by decide) rfl (Nat.le_of_ble_eq_true rfl) ?_
  intro p e s m args below meth c ls S0 hr hlocks hK hP hX hl
  have hP : va_P g.1 vwCl [(b, .inr (0, [.ref k1, .ref k2, .ref k3, .ref k4, .ref k5, .ref k6, .int (iI (bN B)), .int (iI (bZ B)), .ref s1, .ref s2])), (k2, gI g 40 (bU B))] s.heap := hP
  have hl : lv_has ls 2 [(0, .ref b), (1, .int (iI x))] := hl
  have hinX0 : ∀ w ∈ wsX00, w ∈ wsX0_numberOf := fun w h => List.mem_cons_of_mem _ (List.mem_append_right _ h)
  refine lv_aload_n S0.1 S0.2.1 dX0_numberOf_0 rfl (lv_at hl 0 rfl) ?_
  refine q_get (C := RX0) (T := TX0) (N := 10) S0 hK hP hinX0 0 rfl rfl 1 (by decide) (List.mem_of_getElem? (i := 1) rfl) rfl rfl dX0_numberOf_1 ?_
  refine lv_iload_n S0.1 S0.2.1 dX0_numberOf_4 rfl (lv_at hl 1 rfl) ?_
  refine q_pSN (n := 2) (rest := []) S0 hK (c_X10_at l g k2 40 (bU B) x (by omega) (by omega)) (subP hP [1] rfl) (trivial) gX0_numberOf_X10_at_n61 rfl rfl rfl 7 rfl (List.mem_of_getElem? (i := 3) rfl) (List.mem_of_getElem? (i := 2) rfl) (by decide +kernel) ⟨Nat.le_of_ble_eq_true rfl, Nat.le_of_ble_eq_true rfl⟩ rfl rfl hl.1 (Nat.le_of_ble_eq_true rfl) ⟨Nat.le_of_ble_eq_true rfl, Nat.le_of_ble_eq_true rfl⟩ dX0_numberOf_5 ?_
  refine W.eq (g2 := F0 m 8 ls [.int (iI (at0 40 (bU B) x))]) rfl ?_
  exact qp_iret S0 hr hlocks (rfl) dX0_numberOf_8
set_option maxHeartbeats 4000000 in
set_option maxRecDepth 100000 in
/-- addNode: a node behind the others, loose -/
theorem c_X0_addNode (l : Launch) (g : GG) (b k1 k2 k3 k4 k5 k6 s1 i1 s2 i2 : Nat) (B : BT) (k u x y : Int) (hB : WFB B) (hn : fil B ≤ 39) (hx : -1 ≤ x ∧ (x < bN B ∨ x = -1)) (hy : -1 ≤ y ∧ (y < bN B ∨ y = -1)) : qMet l yX0_addNode wsX0_addNode ({ frames := 1, cells := 0, slots := 0, locals := 40 }) g [.ref b, .int (iI k), .int (iI u), .int (iI x), .int (iI y)] [(b, .inr (0, [.ref k1, .ref k2, .ref k3, .ref k4, .ref k5, .ref k6, .int (iI (bN B)), .int (iI (bZ B)), .ref s1, .ref s2])), (k1, gI g 40 (bK B)), (k2, gI g 40 (bU B)), (k3, gI g 40 (bL B)), (k4, gI g 40 (bV B)), (k5, gI g 40 (bD B)), (k6, gI g 40 (bE B)), (s1, .inr (3, [.ref i1, .int (iI (lP B))])), (i1, gI g 40 (lQ B)), (s2, .inr (3, [.ref i2, .int (iI (wP B))])), (i2, gI g 40 (wQ B))] (fun _ => True) (fun _ => True) (S := Unit) (fun _ => none) (fun _ => [(b, .inr (0, [.ref k1, .ref k2, .ref k3, .ref k4, .ref k5, .ref k6, .int (iI (bN (sAdd B k u x y))), .int (iI (bZ (sAdd B k u x y))), .ref s1, .ref s2])), (k1, gI g 40 (bK (sAdd B k u x y))), (k2, gI g 40 (bU (sAdd B k u x y))), (k3, gI g 40 (bL (sAdd B k u x y))), (k4, gI g 40 (bV (sAdd B k u x y))), (k5, gI g 40 (bD (sAdd B k u x y))), (k6, gI g 40 (bE (sAdd B k u x y))), (s1, .inr (3, [.ref i1, .int (iI (lP (sAdd B k u x y)))])), (i1, gI g 40 (lQ (sAdd B k u x y))), (s2, .inr (3, [.ref i2, .int (iI (wP (sAdd B k u x y)))])), (i2, gI g 40 (wQ (sAdd B k u x y)))]) (fun _ => True) 0 0 := by
  refine q_ofW (cc := cX0_addNode) (maxL := 5) (ret := none) (fun sz h => h.self) (by decide) rfl (Nat.le_of_ble_eq_true rfl) ?_
  intro p e s m args below meth c A ls S0 hr hlocks hnme hK hA hAe hW hD0 hX hl
  have hW : gW g A s.heap s.heap [] [(b, .inr (0, [.ref k1, .ref k2, .ref k3, .ref k4, .ref k5, .ref k6, .int (iI (bN B)), .int (iI (bZ B)), .ref s1, .ref s2])), (k1, gI g 40 (bK B)), (k2, gI g 40 (bU B)), (k3, gI g 40 (bL B)), (k4, gI g 40 (bV B)), (k5, gI g 40 (bD B)), (k6, gI g 40 (bE B)), (s1, .inr (3, [.ref i1, .int (iI (lP B))])), (i1, gI g 40 (lQ B)), (s2, .inr (3, [.ref i2, .int (iI (wP B))])), (i2, gI g 40 (wQ B))] := hW
  have hl : lv_has ls 5 [(0, .ref b), (1, .int (iI k)), (2, .int (iI u)), (3, .int (iI x)), (4, .int (iI y))] := hl
  have hinX0 : ∀ w ∈ wsX00, w ∈ wsX0_addNode := fun w h => List.mem_cons_of_mem _ (List.mem_append_left _ (List.mem_append_right _ h))
  obtain ⟨h1, h2, h3, h4, h5, h6, h7, h8, h9⟩ := id hB
  have da := dep_rng hB x
  have db := dep_rng hB y
  refine lv_aload_n S0.1 S0.2.1 dX0_addNode_0 rfl (lv_at hl 0 rfl) ?_
  refine q_get (C := RX0) (T := TX0) (N := 10) S0 hK hW.1 hinX0 0 rfl rfl 0 (by decide) (List.mem_of_getElem? (i := 1) rfl) rfl rfl dX0_addNode_1 ?_
  refine lv_aload_n S0.1 S0.2.1 dX0_addNode_4 rfl (lv_at hl 0 rfl) ?_
  refine q_get (C := RX0) (T := TX0) (N := 10) S0 hK hW.1 hinX0 0 rfl rfl 6 (by decide) (List.mem_of_getElem? (i := 2) rfl) rfl rfl dX0_addNode_5 ?_
  refine lv_iload_n S0.1 S0.2.1 dX0_addNode_8 rfl (lv_at hl 1 rfl) ?_
  refine q_cSN (n := 3) (rest := []) (wr := [(b, .inr (0, [.ref k1, .ref k2, .ref k3, .ref k4, .ref k5, .ref k6, .int (iI (bN B)), .int (iI (bZ B)), .ref s1, .ref s2])), (k2, gI g 40 (bU B)), (k3, gI g 40 (bL B)), (k4, gI g 40 (bV B)), (k5, gI g 40 (bD B)), (k6, gI g 40 (bE B)), (s1, .inr (3, [.ref i1, .int (iI (lP B))])), (i1, gI g 40 (lQ B)), (s2, .inr (3, [.ref i2, .int (iI (wP B))])), (i2, gI g 40 (wQ B))]) S0 hK hA hW (c_X10_put l g k1 40 (bK B) (bN B) k (by omega) (by omega)) gX0_addNode_X10_put_n65 rfl rfl rfl 6 rfl (List.mem_of_getElem? (i := 16) rfl) (List.mem_of_getElem? (i := 15) rfl) (by decide +kernel) ⟨Nat.le_of_ble_eq_true rfl, Nat.le_of_ble_eq_true rfl⟩ [1] [0, 2, 3, 4, 5, 6, 7, 8, 9, 10] rfl rfl rfl rfl (by decide) (fun _ _ => trivial) (trivial) rfl rfl hl.1 (Nat.le_of_ble_eq_true rfl) ⟨Nat.le_of_ble_eq_true rfl, Nat.le_of_ble_eq_true rfl⟩ dX0_addNode_9 (fun _ H locs _ hW => ?_)
  have hW : gW g A s.heap H _ [(b, .inr (0, [.ref k1, .ref k2, .ref k3, .ref k4, .ref k5, .ref k6, .int (iI (bN B)), .int (iI (bZ B)), .ref s1, .ref s2])), (k2, gI g 40 (bU B)), (k3, gI g 40 (bL B)), (k4, gI g 40 (bV B)), (k5, gI g 40 (bD B)), (k6, gI g 40 (bE B)), (s1, .inr (3, [.ref i1, .int (iI (lP B))])), (i1, gI g 40 (lQ B)), (s2, .inr (3, [.ref i2, .int (iI (wP B))])), (i2, gI g 40 (wQ B)), (k1, gI g 40 (put0 40 (bK B) (bN B) k))] := hW
  refine W.eq (g2 := F0 m 12 ls []) rfl ?_
  refine lv_aload_n S0.1 S0.2.1 dX0_addNode_12 rfl (lv_at hl 0 rfl) ?_
  refine q_get (C := RX0) (T := TX0) (N := 10) S0 hK hW.1 hinX0 0 rfl rfl 1 (by decide) (List.mem_of_getElem? (i := 3) rfl) rfl rfl dX0_addNode_13 ?_
  refine lv_aload_n S0.1 S0.2.1 dX0_addNode_16 rfl (lv_at hl 0 rfl) ?_
  refine q_get (C := RX0) (T := TX0) (N := 10) S0 hK hW.1 hinX0 0 rfl rfl 6 (by decide) (List.mem_of_getElem? (i := 2) rfl) rfl rfl dX0_addNode_17 ?_
  refine lv_iload_n S0.1 S0.2.1 dX0_addNode_20 rfl (lv_at hl 2 rfl) ?_
  refine q_cSN (n := 3) (rest := []) (wr := [(b, .inr (0, [.ref k1, .ref k2, .ref k3, .ref k4, .ref k5, .ref k6, .int (iI (bN B)), .int (iI (bZ B)), .ref s1, .ref s2])), (k3, gI g 40 (bL B)), (k4, gI g 40 (bV B)), (k5, gI g 40 (bD B)), (k6, gI g 40 (bE B)), (s1, .inr (3, [.ref i1, .int (iI (lP B))])), (i1, gI g 40 (lQ B)), (s2, .inr (3, [.ref i2, .int (iI (wP B))])), (i2, gI g 40 (wQ B)), (k1, gI g 40 (put0 40 (bK B) (bN B) k))]) S0 hK hA hW (c_X10_put l g k2 40 (bU B) (bN B) u (by omega) (by omega)) gX0_addNode_X10_put_n65 rfl rfl rfl 6 rfl (List.mem_of_getElem? (i := 16) rfl) (List.mem_of_getElem? (i := 15) rfl) (by decide +kernel) ⟨Nat.le_of_ble_eq_true rfl, Nat.le_of_ble_eq_true rfl⟩ [1] [0, 2, 3, 4, 5, 6, 7, 8, 9, 10] rfl rfl rfl rfl (by decide) (fun _ _ => trivial) (trivial) rfl rfl hl.1 (Nat.le_of_ble_eq_true rfl) ⟨Nat.le_of_ble_eq_true rfl, Nat.le_of_ble_eq_true rfl⟩ dX0_addNode_21 (fun _ H locs _ hW => ?_)
  have hW : gW g A s.heap H _ [(b, .inr (0, [.ref k1, .ref k2, .ref k3, .ref k4, .ref k5, .ref k6, .int (iI (bN B)), .int (iI (bZ B)), .ref s1, .ref s2])), (k3, gI g 40 (bL B)), (k4, gI g 40 (bV B)), (k5, gI g 40 (bD B)), (k6, gI g 40 (bE B)), (s1, .inr (3, [.ref i1, .int (iI (lP B))])), (i1, gI g 40 (lQ B)), (s2, .inr (3, [.ref i2, .int (iI (wP B))])), (i2, gI g 40 (wQ B)), (k1, gI g 40 (put0 40 (bK B) (bN B) k)), (k2, gI g 40 (put0 40 (bU B) (bN B) u))] := hW
  refine W.eq (g2 := F0 m 24 ls []) rfl ?_
  refine lv_aload_n S0.1 S0.2.1 dX0_addNode_24 rfl (lv_at hl 0 rfl) ?_
  refine q_get (C := RX0) (T := TX0) (N := 10) S0 hK hW.1 hinX0 0 rfl rfl 2 (by decide) (List.mem_of_getElem? (i := 4) rfl) rfl rfl dX0_addNode_25 ?_
  refine lv_aload_n S0.1 S0.2.1 dX0_addNode_28 rfl (lv_at hl 0 rfl) ?_
  refine q_get (C := RX0) (T := TX0) (N := 10) S0 hK hW.1 hinX0 0 rfl rfl 6 (by decide) (List.mem_of_getElem? (i := 2) rfl) rfl rfl dX0_addNode_29 ?_
  refine lv_iload_n S0.1 S0.2.1 dX0_addNode_32 rfl (lv_at hl 3 rfl) ?_
  refine q_cSN (n := 3) (rest := []) (wr := [(b, .inr (0, [.ref k1, .ref k2, .ref k3, .ref k4, .ref k5, .ref k6, .int (iI (bN B)), .int (iI (bZ B)), .ref s1, .ref s2])), (k4, gI g 40 (bV B)), (k5, gI g 40 (bD B)), (k6, gI g 40 (bE B)), (s1, .inr (3, [.ref i1, .int (iI (lP B))])), (i1, gI g 40 (lQ B)), (s2, .inr (3, [.ref i2, .int (iI (wP B))])), (i2, gI g 40 (wQ B)), (k1, gI g 40 (put0 40 (bK B) (bN B) k)), (k2, gI g 40 (put0 40 (bU B) (bN B) u))]) S0 hK hA hW (c_X10_put l g k3 40 (bL B) (bN B) x (by omega) (by omega)) gX0_addNode_X10_put_n65 rfl rfl rfl 6 rfl (List.mem_of_getElem? (i := 16) rfl) (List.mem_of_getElem? (i := 15) rfl) (by decide +kernel) ⟨Nat.le_of_ble_eq_true rfl, Nat.le_of_ble_eq_true rfl⟩ [1] [0, 2, 3, 4, 5, 6, 7, 8, 9, 10] rfl rfl rfl rfl (by decide) (fun _ _ => trivial) (trivial) rfl rfl hl.1 (Nat.le_of_ble_eq_true rfl) ⟨Nat.le_of_ble_eq_true rfl, Nat.le_of_ble_eq_true rfl⟩ dX0_addNode_33 (fun _ H locs _ hW => ?_)
  have hW : gW g A s.heap H _ [(b, .inr (0, [.ref k1, .ref k2, .ref k3, .ref k4, .ref k5, .ref k6, .int (iI (bN B)), .int (iI (bZ B)), .ref s1, .ref s2])), (k4, gI g 40 (bV B)), (k5, gI g 40 (bD B)), (k6, gI g 40 (bE B)), (s1, .inr (3, [.ref i1, .int (iI (lP B))])), (i1, gI g 40 (lQ B)), (s2, .inr (3, [.ref i2, .int (iI (wP B))])), (i2, gI g 40 (wQ B)), (k1, gI g 40 (put0 40 (bK B) (bN B) k)), (k2, gI g 40 (put0 40 (bU B) (bN B) u)), (k3, gI g 40 (put0 40 (bL B) (bN B) x))] := hW
  refine W.eq (g2 := F0 m 36 ls []) rfl ?_
  refine lv_aload_n S0.1 S0.2.1 dX0_addNode_36 rfl (lv_at hl 0 rfl) ?_
  refine q_get (C := RX0) (T := TX0) (N := 10) S0 hK hW.1 hinX0 0 rfl rfl 3 (by decide) (List.mem_of_getElem? (i := 5) rfl) rfl rfl dX0_addNode_37 ?_
  refine lv_aload_n S0.1 S0.2.1 dX0_addNode_40 rfl (lv_at hl 0 rfl) ?_
  refine q_get (C := RX0) (T := TX0) (N := 10) S0 hK hW.1 hinX0 0 rfl rfl 6 (by decide) (List.mem_of_getElem? (i := 2) rfl) rfl rfl dX0_addNode_41 ?_
  refine lv_iload S0.1 S0.2.1 dX0_addNode_44 (lv_at hl 4 rfl) ?_
  refine q_cSN (n := 3) (rest := []) (wr := [(b, .inr (0, [.ref k1, .ref k2, .ref k3, .ref k4, .ref k5, .ref k6, .int (iI (bN B)), .int (iI (bZ B)), .ref s1, .ref s2])), (k5, gI g 40 (bD B)), (k6, gI g 40 (bE B)), (s1, .inr (3, [.ref i1, .int (iI (lP B))])), (i1, gI g 40 (lQ B)), (s2, .inr (3, [.ref i2, .int (iI (wP B))])), (i2, gI g 40 (wQ B)), (k1, gI g 40 (put0 40 (bK B) (bN B) k)), (k2, gI g 40 (put0 40 (bU B) (bN B) u)), (k3, gI g 40 (put0 40 (bL B) (bN B) x))]) S0 hK hA hW (c_X10_put l g k4 40 (bV B) (bN B) y (by omega) (by omega)) gX0_addNode_X10_put_n65 rfl rfl rfl 6 rfl (List.mem_of_getElem? (i := 16) rfl) (List.mem_of_getElem? (i := 15) rfl) (by decide +kernel) ⟨Nat.le_of_ble_eq_true rfl, Nat.le_of_ble_eq_true rfl⟩ [1] [0, 2, 3, 4, 5, 6, 7, 8, 9, 10] rfl rfl rfl rfl (by decide) (fun _ _ => trivial) (trivial) rfl rfl hl.1 (Nat.le_of_ble_eq_true rfl) ⟨Nat.le_of_ble_eq_true rfl, Nat.le_of_ble_eq_true rfl⟩ dX0_addNode_46 (fun _ H locs _ hW => ?_)
  have hW : gW g A s.heap H _ [(b, .inr (0, [.ref k1, .ref k2, .ref k3, .ref k4, .ref k5, .ref k6, .int (iI (bN B)), .int (iI (bZ B)), .ref s1, .ref s2])), (k5, gI g 40 (bD B)), (k6, gI g 40 (bE B)), (s1, .inr (3, [.ref i1, .int (iI (lP B))])), (i1, gI g 40 (lQ B)), (s2, .inr (3, [.ref i2, .int (iI (wP B))])), (i2, gI g 40 (wQ B)), (k1, gI g 40 (put0 40 (bK B) (bN B) k)), (k2, gI g 40 (put0 40 (bU B) (bN B) u)), (k3, gI g 40 (put0 40 (bL B) (bN B) x)), (k4, gI g 40 (put0 40 (bV B) (bN B) y))] := hW
  refine W.eq (g2 := F0 m 49 ls []) rfl ?_
  refine lv_aload_n S0.1 S0.2.1 dX0_addNode_49 rfl (lv_at hl 0 rfl) ?_
  refine q_get (C := RX0) (T := TX0) (N := 10) S0 hK hW.1 hinX0 0 rfl rfl 4 (by decide) (List.mem_of_getElem? (i := 6) rfl) rfl rfl dX0_addNode_50 ?_
  refine lv_aload_n S0.1 S0.2.1 dX0_addNode_53 rfl (lv_at hl 0 rfl) ?_
  refine q_get (C := RX0) (T := TX0) (N := 10) S0 hK hW.1 hinX0 0 rfl rfl 6 (by decide) (List.mem_of_getElem? (i := 2) rfl) rfl rfl dX0_addNode_54 ?_
  refine q_iconst S0 dX0_addNode_57 ?_
  refine lv_aload_n S0.1 S0.2.1 dX0_addNode_58 rfl (lv_at hl 0 rfl) ?_
  refine q_get (C := RX0) (T := TX0) (N := 10) S0 hK hW.1 hinX0 0 rfl rfl 4 (by decide) (List.mem_of_getElem? (i := 6) rfl) rfl rfl dX0_addNode_59 ?_
  refine lv_iload_n S0.1 S0.2.1 dX0_addNode_62 rfl (lv_at hl 3 rfl) ?_
  refine q_pSN (n := 2) (rest := [.int (iI 1), .int (iI (bN B)), .ref k5]) S0 hK (c_X10_at l g k5 40 (bD B) x (by omega) (by omega)) (subP hW.1 [1] rfl) (trivial) gX0_addNode_X10_at_n61 rfl rfl rfl 7 rfl (List.mem_of_getElem? (i := 16) rfl) (List.mem_of_getElem? (i := 18) rfl) (by decide +kernel) ⟨Nat.le_of_ble_eq_true rfl, Nat.le_of_ble_eq_true rfl⟩ rfl rfl hl.1 (Nat.le_of_ble_eq_true rfl) ⟨Nat.le_of_ble_eq_true rfl, Nat.le_of_ble_eq_true rfl⟩ dX0_addNode_63 ?_
  refine W.eq (g2 := F0 m 66 ls [.int (iI (at0 40 (bD B) x)), .int (iI 1), .int (iI (bN B)), .ref k5]) rfl ?_
  refine lv_aload_n S0.1 S0.2.1 dX0_addNode_66 rfl (lv_at hl 0 rfl) ?_
  refine q_get (C := RX0) (T := TX0) (N := 10) S0 hK hW.1 hinX0 0 rfl rfl 4 (by decide) (List.mem_of_getElem? (i := 6) rfl) rfl rfl dX0_addNode_67 ?_
  refine lv_iload S0.1 S0.2.1 dX0_addNode_70 (lv_at hl 4 rfl) ?_
  refine q_pSN (n := 2) (rest := [.int (iI (at0 40 (bD B) x)), .int (iI 1), .int (iI (bN B)), .ref k5]) S0 hK (c_X10_at l g k5 40 (bD B) y (by omega) (by omega)) (subP hW.1 [1] rfl) (trivial) gX0_addNode_X10_at_n61 rfl rfl rfl 7 rfl (List.mem_of_getElem? (i := 16) rfl) (List.mem_of_getElem? (i := 18) rfl) (by decide +kernel) ⟨Nat.le_of_ble_eq_true rfl, Nat.le_of_ble_eq_true rfl⟩ rfl rfl hl.1 (Nat.le_of_ble_eq_true rfl) ⟨Nat.le_of_ble_eq_true rfl, Nat.le_of_ble_eq_true rfl⟩ dX0_addNode_72 ?_
  refine W.eq (g2 := F0 m 75 ls [.int (iI (at0 40 (bD B) y)), .int (iI (at0 40 (bD B) x)), .int (iI 1), .int (iI (bN B)), .ref k5]) rfl ?_
  refine q_mmax S0 (by omega) (List.mem_of_getElem? (i := 7) rfl) (List.mem_of_getElem? (i := 8) rfl) (List.mem_of_getElem? (i := 9) rfl) (List.mem_of_getElem? (i := 10) rfl) hl.1 (Nat.le_of_ble_eq_true rfl) (Nat.le_of_ble_eq_true rfl) (Nat.le_of_ble_eq_true rfl) (Nat.le_of_ble_eq_true rfl) dX0_addNode_75 ?_
  refine q_iadd S0 dX0_addNode_78 ?_
  refine q_cSN (n := 3) (rest := []) (wr := [(b, .inr (0, [.ref k1, .ref k2, .ref k3, .ref k4, .ref k5, .ref k6, .int (iI (bN B)), .int (iI (bZ B)), .ref s1, .ref s2])), (k6, gI g 40 (bE B)), (s1, .inr (3, [.ref i1, .int (iI (lP B))])), (i1, gI g 40 (lQ B)), (s2, .inr (3, [.ref i2, .int (iI (wP B))])), (i2, gI g 40 (wQ B)), (k1, gI g 40 (put0 40 (bK B) (bN B) k)), (k2, gI g 40 (put0 40 (bU B) (bN B) u)), (k3, gI g 40 (put0 40 (bL B) (bN B) x)), (k4, gI g 40 (put0 40 (bV B) (bN B) y))]) S0 hK hA hW (c_X10_put l g k5 40 (bD B) (bN B) (1 + (max (at0 40 (bD B) x) (at0 40 (bD B) y))) (by omega) (by omega)) gX0_addNode_X10_put_n65 rfl rfl rfl 6 rfl (List.mem_of_getElem? (i := 16) rfl) (List.mem_of_getElem? (i := 15) rfl) (by decide +kernel) ⟨Nat.le_of_ble_eq_true rfl, Nat.le_of_ble_eq_true rfl⟩ [1] [0, 2, 3, 4, 5, 6, 7, 8, 9, 10] rfl rfl rfl rfl (by decide) (fun _ _ => trivial) (trivial) rfl rfl hl.1 (Nat.le_of_ble_eq_true rfl) ⟨Nat.le_of_ble_eq_true rfl, Nat.le_of_ble_eq_true rfl⟩ dX0_addNode_79 (fun _ H locs _ hW => ?_)
  have hW : gW g A s.heap H _ [(b, .inr (0, [.ref k1, .ref k2, .ref k3, .ref k4, .ref k5, .ref k6, .int (iI (bN B)), .int (iI (bZ B)), .ref s1, .ref s2])), (k6, gI g 40 (bE B)), (s1, .inr (3, [.ref i1, .int (iI (lP B))])), (i1, gI g 40 (lQ B)), (s2, .inr (3, [.ref i2, .int (iI (wP B))])), (i2, gI g 40 (wQ B)), (k1, gI g 40 (put0 40 (bK B) (bN B) k)), (k2, gI g 40 (put0 40 (bU B) (bN B) u)), (k3, gI g 40 (put0 40 (bL B) (bN B) x)), (k4, gI g 40 (put0 40 (bV B) (bN B) y)), (k5, gI g 40 (put0 40 (bD B) (bN B) (1 + (max (at0 40 (bD B) x) (at0 40 (bD B) y)))))] := hW
  refine W.eq (g2 := F0 m 82 ls []) rfl ?_
  refine lv_aload_n S0.1 S0.2.1 dX0_addNode_82 rfl (lv_at hl 0 rfl) ?_
  refine q_get (C := RX0) (T := TX0) (N := 10) S0 hK hW.1 hinX0 0 rfl rfl 8 (by decide) (List.mem_of_getElem? (i := 11) rfl) rfl rfl dX0_addNode_83 ?_
  refine lv_aload_n S0.1 S0.2.1 dX0_addNode_86 rfl (lv_at hl 0 rfl) ?_
  refine q_get (C := RX0) (T := TX0) (N := 10) S0 hK hW.1 hinX0 0 rfl rfl 6 (by decide) (List.mem_of_getElem? (i := 2) rfl) rfl rfl dX0_addNode_87 ?_
  refine q_cV (n := 1) (rest := []) (wr := [(b, .inr (0, [.ref k1, .ref k2, .ref k3, .ref k4, .ref k5, .ref k6, .int (iI (bN B)), .int (iI (bZ B)), .ref s1, .ref s2])), (k6, gI g 40 (bE B)), (s2, .inr (3, [.ref i2, .int (iI (wP B))])), (i2, gI g 40 (wQ B)), (k1, gI g 40 (put0 40 (bK B) (bN B) k)), (k2, gI g 40 (put0 40 (bU B) (bN B) u)), (k3, gI g 40 (put0 40 (bL B) (bN B) x)), (k4, gI g 40 (put0 40 (bV B) (bN B) y)), (k5, gI g 40 (put0 40 (bD B) (bN B) (1 + (max (at0 40 (bD B) x) (at0 40 (bD B) y)))))]) S0 hK hA hW (c_X3_push l g s1 i1 (lP B) (lQ B) (bN B) (by omega)) gX0_addNode_X3_push rfl rfl rfl (by decide +kernel) ⟨Nat.le_of_ble_eq_true rfl, Nat.le_of_ble_eq_true rfl⟩ [2, 3] [0, 1, 4, 5, 6, 7, 8, 9, 10] rfl rfl rfl rfl (by decide) (q_recv hK hW.1 (ci := 3) (q0 := 2) rfl rfl) (fun _ _ => trivial) (trivial) rfl rfl hl.1 (Nat.le_of_ble_eq_true rfl) ⟨Nat.le_of_ble_eq_true rfl, Nat.le_of_ble_eq_true rfl⟩ dX0_addNode_90 (fun _ H locs _ hW => ?_)
  have hW : gW g A s.heap H _ [(b, .inr (0, [.ref k1, .ref k2, .ref k3, .ref k4, .ref k5, .ref k6, .int (iI (bN B)), .int (iI (bZ B)), .ref s1, .ref s2])), (k6, gI g 40 (bE B)), (s2, .inr (3, [.ref i2, .int (iI (wP B))])), (i2, gI g 40 (wQ B)), (k1, gI g 40 (put0 40 (bK B) (bN B) k)), (k2, gI g 40 (put0 40 (bU B) (bN B) u)), (k3, gI g 40 (put0 40 (bL B) (bN B) x)), (k4, gI g 40 (put0 40 (bV B) (bN B) y)), (k5, gI g 40 (put0 40 (bD B) (bN B) (1 + (max (at0 40 (bD B) x) (at0 40 (bD B) y))))), (s1, .inr (3, [.ref i1, .int (iI (pN (lP B)))])), (i1, gI g 40 (pF (lP B) (lQ B) (bN B)))] := hW
  refine W.eq (g2 := F0 m 93 ls []) rfl ?_
  refine lv_aload_n S0.1 S0.2.1 dX0_addNode_93 rfl (lv_at hl 0 rfl) ?_
  refine lv_aload_n S0.1 S0.2.1 dX0_addNode_94 rfl (lv_at hl 0 rfl) ?_
  refine q_get (C := RX0) (T := TX0) (N := 10) S0 hK hW.1 hinX0 0 rfl rfl 6 (by decide) (List.mem_of_getElem? (i := 2) rfl) rfl rfl dX0_addNode_95 ?_
  refine q_iconst S0 dX0_addNode_98 ?_
  refine q_iadd S0 dX0_addNode_99 ?_
  refine lv_aload_n S0.1 S0.2.1 dX0_addNode_100 rfl (lv_at hl 0 rfl) ?_
  refine q_get (C := RX0) (T := TX0) (N := 10) S0 hK hW.1 hinX0 0 rfl rfl 0 (by decide) (List.mem_of_getElem? (i := 1) rfl) rfl rfl dX0_addNode_101 ?_
  refine q_alen (z := 40) S0 hK hW.1 4 rfl rfl dX0_addNode_104 ?_
  refine q_mmin S0 (by omega) (List.mem_of_getElem? (i := 12) rfl) (List.mem_of_getElem? (i := 13) rfl) (List.mem_of_getElem? (i := 9) rfl) (List.mem_of_getElem? (i := 14) rfl) hl.1 (Nat.le_of_ble_eq_true rfl) (Nat.le_of_ble_eq_true rfl) (Nat.le_of_ble_eq_true rfl) (Nat.le_of_ble_eq_true rfl) dX0_addNode_105 ?_
  refine q_put (C := RX0) (T := TX0) (N := 10) S0 hK hW hinX0 tyX0_ok nmX0 0 rfl rfl 6 (by decide) (List.mem_of_getElem? (i := 2) rfl) rfl rfl rfl rfl (Nat.le_of_ble_eq_true rfl) dX0_addNode_108 (fun H locs hW => ?_)
  have hW : gW g A s.heap H _ [(b, .inr (0, [.ref k1, .ref k2, .ref k3, .ref k4, .ref k5, .ref k6, .int (iI (min ((bN B) + 1) 40)), .int (iI (bZ B)), .ref s1, .ref s2])), (k6, gI g 40 (bE B)), (s2, .inr (3, [.ref i2, .int (iI (wP B))])), (i2, gI g 40 (wQ B)), (k1, gI g 40 (put0 40 (bK B) (bN B) k)), (k2, gI g 40 (put0 40 (bU B) (bN B) u)), (k3, gI g 40 (put0 40 (bL B) (bN B) x)), (k4, gI g 40 (put0 40 (bV B) (bN B) y)), (k5, gI g 40 (put0 40 (bD B) (bN B) (1 + (max (at0 40 (bD B) x) (at0 40 (bD B) y))))), (s1, .inr (3, [.ref i1, .int (iI (pN (lP B)))])), (i1, gI g 40 (pF (lP B) (lQ B) (bN B)))] := hW
  exact q_vret S0 hr hlocks () (trivial) rfl (hW.sub [0, 4, 5, 6, 7, 8, 1, 9, 10, 2, 3] rfl (rfl)) (Nat.le_of_ble_eq_true rfl) (Nat.le_of_ble_eq_true rfl) dX0_addNode_111
