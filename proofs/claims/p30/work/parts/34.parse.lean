set_option maxHeartbeats 4000000 in
set_option maxRecDepth 100000 in
theorem c_X4_isDigit (l : Launch) (g : GG) (x : Int) (hx : -2147483648 ≤ x ∧ x < 2147483648) : qPure l yX4_isDigit wsX4_isDigit ({ frames := 0, cells := 0, slots := 0, locals := 0 }) g [.int (iI x)] [] (fun _ => True) (some (.int (iI (if 48 ≤ x ∧ x ≤ 57 then (1 : Int) else 0)))) := by
  refine q_ofP (cc := cX4_isDigit) (maxL := 1) (ret := (some .boolean)) (by decide) rfl (Nat.le_of_ble_eq_true rfl) ?_
  intro p e s m args below meth c ls S0 hr hlocks hK hP hX hl
  have hP : va_P g.1 vwCl [] s.heap := hP
  have hl : lv_has ls 1 [(0, .int (iI x))] := hl
  refine lv_iload_n S0.1 S0.2.1 dX4_isDigit_0 rfl (lv_at hl 0 rfl) ?_
  refine q_bipush S0 (by decide) dX4_isDigit_1 ?_
  refine q_icmp_lt (tgt := 16) S0 (by omega) dX4_isDigit_3 (by decide) (fun c3 => ?_) (fun c3 => ?_)
  · skip
    refine q_iconst S0 dX4_isDigit_16 ?_
    exact qp_zret S0 hr hlocks (by first | exact Or.inl rfl | exact Or.inr rfl | omega) (by first | (rw [if_pos (by omega)]; done) | (rw [if_neg (by omega)]; done) | (exfalso; omega)) dX4_isDigit_17
  · skip
    refine lv_iload_n S0.1 S0.2.1 dX4_isDigit_6 rfl (lv_at hl 0 rfl) ?_
    refine q_bipush S0 (by decide) dX4_isDigit_7 ?_
    refine q_icmp_gt (tgt := 16) S0 (by omega) dX4_isDigit_9 (by decide) (fun c9 => ?_) (fun c9 => ?_)
    · skip
      refine q_iconst S0 dX4_isDigit_16 ?_
      exact qp_zret S0 hr hlocks (by first | exact Or.inl rfl | exact Or.inr rfl | omega) (by first | (rw [if_pos (by omega)]; done) | (rw [if_neg (by omega)]; done) | (exfalso; omega)) dX4_isDigit_17
    · skip
      refine q_iconst S0 dX4_isDigit_12 ?_
      refine lv_goto (tgt := 17) S0.1 S0.2.1 dX4_isDigit_13 (by decide) ?_
      exact qp_zret S0 hr hlocks (by first | exact Or.inl rfl | exact Or.inr rfl | omega) (by first | (rw [if_pos (by omega)]; done) | (rw [if_neg (by omega)]; done) | (exfalso; omega)) dX4_isDigit_17
set_option maxHeartbeats 4000000 in
set_option maxRecDepth 100000 in
theorem c_X4_takesAtom (l : Launch) (g : GG) (ps b k1 k2 k3 k4 k5 k6 s1 i1 s2 i2 : Nat) (S : PT) (i x : Int) (hS : WFP i S) (hi : i ≤ 39) (hx : 0 ≤ x ∧ x ≤ 65535) : qMet l yX4_takesAtom wsX4_takesAtom ({ frames := 4, cells := 0, slots := 0, locals := 107 }) g [.ref ps, .int (iI x)] [(ps, .inr (4, [.ref b, .int (iI (pA S)), .int (iI (pO S)), .int (iI (pM S))])), (b, .inr (0, [.ref k1, .ref k2, .ref k3, .ref k4, .ref k5, .ref k6, .int (iI (bN (pB S))), .int (iI (bZ (pB S))), .ref s1, .ref s2])), (k1, gI g 40 (bK (pB S))), (k2, gI g 40 (bU (pB S))), (k3, gI g 40 (bL (pB S))), (k4, gI g 40 (bV (pB S))), (k5, gI g 40 (bD (pB S))), (k6, gI g 40 (bE (pB S))), (s1, .inr (3, [.ref i1, .int (iI (lP (pB S)))])), (i1, gI g 40 (lQ (pB S))), (s2, .inr (3, [.ref i2, .int (iI (wP (pB S)))])), (i2, gI g 40 (wQ (pB S)))] (fun _ => True) (fun _ => True) (S := Unit) (fun _ => some (.int (iI ((tkA S x).2)))) (fun _ => [(ps, .inr (4, [.ref b, .int (iI (pA ((tkA S x).1))), .int (iI (pO ((tkA S x).1))), .int (iI (pM ((tkA S x).1)))])), (b, .inr (0, [.ref k1, .ref k2, .ref k3, .ref k4, .ref k5, .ref k6, .int (iI (bN (pB ((tkA S x).1)))), .int (iI (bZ (pB ((tkA S x).1)))), .ref s1, .ref s2])), (k1, gI g 40 (bK (pB ((tkA S x).1)))), (k2, gI g 40 (bU (pB ((tkA S x).1)))), (k3, gI g 40 (bL (pB ((tkA S x).1)))), (k4, gI g 40 (bV (pB ((tkA S x).1)))), (k5, gI g 40 (bD (pB ((tkA S x).1)))), (k6, gI g 40 (bE (pB ((tkA S x).1)))), (s1, .inr (3, [.ref i1, .int (iI (lP (pB ((tkA S x).1))))])), (i1, gI g 40 (lQ (pB ((tkA S x).1)))), (s2, .inr (3, [.ref i2, .int (iI (wP (pB ((tkA S x).1))))])), (i2, gI g 40 (wQ (pB ((tkA S x).1))))]) (fun _ => True) 0 0 := by
  refine q_ofW (cc := cX4_takesAtom) (maxL := 2) (ret := (some .boolean)) (fun sz h => h.self) (by decide) rfl (Nat.le_of_ble_eq_true rfl) ?_
  intro p e s m args below meth c A ls S0 hr hlocks hnme hK hA hAe hW hD0 hX hl
  have hW : gW g A s.heap s.heap [] [(ps, .inr (4, [.ref b, .int (iI (pA S)), .int (iI (pO S)), .int (iI (pM S))])), (b, .inr (0, [.ref k1, .ref k2, .ref k3, .ref k4, .ref k5, .ref k6, .int (iI (bN (pB S))), .int (iI (bZ (pB S))), .ref s1, .ref s2])), (k1, gI g 40 (bK (pB S))), (k2, gI g 40 (bU (pB S))), (k3, gI g 40 (bL (pB S))), (k4, gI g 40 (bV (pB S))), (k5, gI g 40 (bD (pB S))), (k6, gI g 40 (bE (pB S))), (s1, .inr (3, [.ref i1, .int (iI (lP (pB S)))])), (i1, gI g 40 (lQ (pB S))), (s2, .inr (3, [.ref i2, .int (iI (wP (pB S)))])), (i2, gI g 40 (wQ (pB S)))] := hW
  have hl : lv_has ls 2 [(0, .ref ps), (1, .int (iI x))] := hl
  have hinX4 : ∀ w ∈ wsX40, w ∈ wsX4_takesAtom := fun w h => List.mem_cons_of_mem _ (List.mem_append_left _ (List.mem_append_left _ (List.mem_append_right _ h)))
  obtain ⟨h1, h2, h3⟩ := id hS
  have h10 := h1.1
  have hfn := fnO_r x
  refine lv_iload_n S0.1 S0.2.1 dX4_takesAtom_0 rfl (lv_at hl 1 rfl) ?_
  refine q_pS (n := 1) (rest := []) S0 hK (c_X4_isDigit l g x (by omega)) (subP hW.1 [] rfl) (trivial) gX4_takesAtom_X4_isDigit rfl rfl rfl (by decide +kernel) ⟨Nat.le_of_ble_eq_true rfl, Nat.le_of_ble_eq_true rfl⟩ rfl rfl hl.1 (Nat.le_of_ble_eq_true rfl) ⟨Nat.le_of_ble_eq_true rfl, Nat.le_of_ble_eq_true rfl⟩ dX4_takesAtom_1 ?_
  refine W.eq (g2 := F0 m 4 ls [.int (iI (if 48 ≤ x ∧ x ≤ 57 then (1 : Int) else 0))]) rfl ?_
  refine q_if_eqP (tgt := 30) S0 dX4_takesAtom_4 (by decide) (fun c4 => ?_) (fun c4 => ?_)
  · skip
    refine lv_iload_n S0.1 S0.2.1 dX4_takesAtom_30 rfl (lv_at hl 1 rfl) ?_
    refine q_bipush S0 (by decide) dX4_takesAtom_31 ?_
    refine q_icmp_ne (tgt := 51) S0 (by omega) dX4_takesAtom_33 (by decide) (fun c33 => ?_) (fun c33 => ?_)
    · skip
      refine lv_iload_n S0.1 S0.2.1 dX4_takesAtom_51 rfl (lv_at hl 1 rfl) ?_
      refine q_bipush S0 (by decide) dX4_takesAtom_52 ?_
      refine q_icmp_ne (tgt := 69) S0 (by omega) dX4_takesAtom_54 (by decide) (fun c54 => ?_) (fun c54 => ?_)
      · skip
        refine lv_iload_n S0.1 S0.2.1 dX4_takesAtom_69 rfl (lv_at hl 1 rfl) ?_
        refine q_bipush S0 (by decide) dX4_takesAtom_70 ?_
        refine q_icmp_ne (tgt := 96) S0 (by omega) dX4_takesAtom_72 (by decide) (fun c72 => ?_) (fun c72 => ?_)
        · skip
          refine lv_iload_n S0.1 S0.2.1 dX4_takesAtom_96 rfl (lv_at hl 1 rfl) ?_
          refine q_pSN (n := 1) (rest := []) S0 hK (c_X10_functionOf l g x (by omega)) (subP hW.1 [] rfl) (trivial) gX4_takesAtom_X10_functionOf_n81 rfl rfl rfl 2 rfl (List.mem_of_getElem? (i := 33) rfl) (List.mem_of_getElem? (i := 69) rfl) (by decide +kernel) ⟨Nat.le_of_ble_eq_true rfl, Nat.le_of_ble_eq_true rfl⟩ rfl rfl hl.1 (Nat.le_of_ble_eq_true rfl) ⟨Nat.le_of_ble_eq_true rfl, Nat.le_of_ble_eq_true rfl⟩ dX4_takesAtom_97 ?_
          refine W.eq (g2 := F0 m 100 ls [.int (iI (fnO x))]) rfl ?_
          refine q_iconst S0 dX4_takesAtom_100 ?_
          refine q_icmp_eq (tgt := 120) S0 (by omega) dX4_takesAtom_101 (by decide) (fun c101 => ?_) (fun c101 => ?_)
          · skip
            refine q_iconst S0 dX4_takesAtom_120 ?_
            exact q_zret S0 hr hlocks () (trivial) (by first | exact Or.inl rfl | exact Or.inr rfl | omega) (by first | (exfalso; omega) | (unfold tkA; (repeat (first | rw [if_pos (by omega)] | rw [if_neg (by omega)])); first | done | rfl)) (hW.sub [0, 1, 2, 3, 4, 5, 6, 7, 8, 9, 10, 11] rfl (by first | (exfalso; omega) | (unfold tkA; (repeat (first | rw [if_pos (by omega)] | rw [if_neg (by omega)])); first | done | rfl))) (Nat.le_of_ble_eq_true rfl) (Nat.le_of_ble_eq_true rfl) dX4_takesAtom_121
          · skip
            refine lv_aload_n S0.1 S0.2.1 dX4_takesAtom_104 rfl (lv_at hl 0 rfl) ?_
            refine q_get (C := RX4) (T := TX4) (N := 4) S0 hK hW.1 hinX4 0 rfl rfl 0 (by decide) (List.mem_of_getElem? (i := 1) rfl) rfl rfl dX4_takesAtom_105 ?_
            refine lv_iload_n S0.1 S0.2.1 dX4_takesAtom_108 rfl (lv_at hl 1 rfl) ?_
            refine q_cV (n := 1) (rest := []) (wr := [(ps, .inr (4, [.ref b, .int (iI (pA S)), .int (iI (pO S)), .int (iI (pM S))]))]) S0 hK hA hW (c_X0_await l g b k1 k2 k3 k4 k5 k6 s1 i1 s2 i2 (pB S) x (h1)) gX4_takesAtom_X0_await rfl rfl rfl (by decide +kernel) ⟨Nat.le_of_ble_eq_true rfl, Nat.le_of_ble_eq_true rfl⟩ [1, 2, 3, 4, 5, 6, 7, 8, 9, 10, 11] [0] rfl rfl rfl rfl (by decide) (q_recv hK hW.1 (ci := 0) (q0 := 1) rfl rfl) (fun _ _ => trivial) (trivial) rfl rfl hl.1 (Nat.le_of_ble_eq_true rfl) ⟨Nat.le_of_ble_eq_true rfl, Nat.le_of_ble_eq_true rfl⟩ dX4_takesAtom_109 (fun _ H locs _ hW => ?_)
            have hW : gW g A s.heap H _ [(ps, .inr (4, [.ref b, .int (iI (pA S)), .int (iI (pO S)), .int (iI (pM S))])), (b, .inr (0, [.ref k1, .ref k2, .ref k3, .ref k4, .ref k5, .ref k6, .int (iI (bN (sWait (pB S) x))), .int (iI (bZ (sWait (pB S) x))), .ref s1, .ref s2])), (k1, gI g 40 (bK (sWait (pB S) x))), (k2, gI g 40 (bU (sWait (pB S) x))), (k3, gI g 40 (bL (sWait (pB S) x))), (k4, gI g 40 (bV (sWait (pB S) x))), (k5, gI g 40 (bD (sWait (pB S) x))), (k6, gI g 40 (bE (sWait (pB S) x))), (s1, .inr (3, [.ref i1, .int (iI (lP (sWait (pB S) x)))])), (i1, gI g 40 (lQ (sWait (pB S) x))), (s2, .inr (3, [.ref i2, .int (iI (wP (sWait (pB S) x)))])), (i2, gI g 40 (wQ (sWait (pB S) x)))] := hW
            refine W.eq (g2 := F0 m 112 ls []) rfl ?_
            refine lv_aload_n S0.1 S0.2.1 dX4_takesAtom_112 rfl (lv_at hl 0 rfl) ?_
            refine q_iconst S0 dX4_takesAtom_113 ?_
            refine q_put (C := RX4) (T := TX4) (N := 4) S0 hK hW hinX4 tyX4_ok nmX4 0 rfl rfl 1 (by decide) (List.mem_of_getElem? (i := 3) rfl) rfl rfl rfl rfl (Nat.le_of_ble_eq_true rfl) dX4_takesAtom_114 (fun H locs hW => ?_)
            have hW : gW g A s.heap H _ [(ps, .inr (4, [.ref b, .int (iI 1), .int (iI (pO S)), .int (iI (pM S))])), (b, .inr (0, [.ref k1, .ref k2, .ref k3, .ref k4, .ref k5, .ref k6, .int (iI (bN (sWait (pB S) x))), .int (iI (bZ (sWait (pB S) x))), .ref s1, .ref s2])), (k1, gI g 40 (bK (sWait (pB S) x))), (k2, gI g 40 (bU (sWait (pB S) x))), (k3, gI g 40 (bL (sWait (pB S) x))), (k4, gI g 40 (bV (sWait (pB S) x))), (k5, gI g 40 (bD (sWait (pB S) x))), (k6, gI g 40 (bE (sWait (pB S) x))), (s1, .inr (3, [.ref i1, .int (iI (lP (sWait (pB S) x)))])), (i1, gI g 40 (lQ (sWait (pB S) x))), (s2, .inr (3, [.ref i2, .int (iI (wP (sWait (pB S) x)))])), (i2, gI g 40 (wQ (sWait (pB S) x)))] := hW
            refine lv_goto (tgt := 122) S0.1 S0.2.1 dX4_takesAtom_117 (by decide) ?_
            refine q_iconst S0 dX4_takesAtom_122 ?_
            exact q_zret S0 hr hlocks () (trivial) (by first | exact Or.inl rfl | exact Or.inr rfl | omega) (by first | (exfalso; omega) | (unfold tkA; (repeat (first | rw [if_pos (by omega)] | rw [if_neg (by omega)])); first | done | rfl)) (hW.sub [0, 1, 2, 3, 4, 5, 6, 7, 8, 9, 10, 11] rfl (by first | (exfalso; omega) | (unfold tkA; (repeat (first | rw [if_pos (by omega)] | rw [if_neg (by omega)])); first | done | rfl))) (Nat.le_of_ble_eq_true rfl) (Nat.le_of_ble_eq_true rfl) dX4_takesAtom_123
        · skip
          refine lv_aload_n S0.1 S0.2.1 dX4_takesAtom_75 rfl (lv_at hl 0 rfl) ?_
          refine q_get (C := RX4) (T := TX4) (N := 4) S0 hK hW.1 hinX4 0 rfl rfl 0 (by decide) (List.mem_of_getElem? (i := 1) rfl) rfl rfl dX4_takesAtom_76 ?_
          refine lv_iload_n S0.1 S0.2.1 dX4_takesAtom_79 rfl (lv_at hl 1 rfl) ?_
          refine q_cV (n := 1) (rest := []) (wr := [(ps, .inr (4, [.ref b, .int (iI (pA S)), .int (iI (pO S)), .int (iI (pM S))]))]) S0 hK hA hW (c_X0_await l g b k1 k2 k3 k4 k5 k6 s1 i1 s2 i2 (pB S) x (h1)) gX4_takesAtom_X0_await rfl rfl rfl (by decide +kernel) ⟨Nat.le_of_ble_eq_true rfl, Nat.le_of_ble_eq_true rfl⟩ [1, 2, 3, 4, 5, 6, 7, 8, 9, 10, 11] [0] rfl rfl rfl rfl (by decide) (q_recv hK hW.1 (ci := 0) (q0 := 1) rfl rfl) (fun _ _ => trivial) (trivial) rfl rfl hl.1 (Nat.le_of_ble_eq_true rfl) ⟨Nat.le_of_ble_eq_true rfl, Nat.le_of_ble_eq_true rfl⟩ dX4_takesAtom_80 (fun _ H locs _ hW => ?_)
          have hW : gW g A s.heap H _ [(ps, .inr (4, [.ref b, .int (iI (pA S)), .int (iI (pO S)), .int (iI (pM S))])), (b, .inr (0, [.ref k1, .ref k2, .ref k3, .ref k4, .ref k5, .ref k6, .int (iI (bN (sWait (pB S) x))), .int (iI (bZ (sWait (pB S) x))), .ref s1, .ref s2])), (k1, gI g 40 (bK (sWait (pB S) x))), (k2, gI g 40 (bU (sWait (pB S) x))), (k3, gI g 40 (bL (sWait (pB S) x))), (k4, gI g 40 (bV (sWait (pB S) x))), (k5, gI g 40 (bD (sWait (pB S) x))), (k6, gI g 40 (bE (sWait (pB S) x))), (s1, .inr (3, [.ref i1, .int (iI (lP (sWait (pB S) x)))])), (i1, gI g 40 (lQ (sWait (pB S) x))), (s2, .inr (3, [.ref i2, .int (iI (wP (sWait (pB S) x)))])), (i2, gI g 40 (wQ (sWait (pB S) x)))] := hW
          refine W.eq (g2 := F0 m 83 ls []) rfl ?_
          refine lv_aload_n S0.1 S0.2.1 dX4_takesAtom_83 rfl (lv_at hl 0 rfl) ?_
          refine lv_dup S0.1 S0.2.1 dX4_takesAtom_84 rfl ?_
          refine q_get (C := RX4) (T := TX4) (N := 4) S0 hK hW.1 hinX4 0 rfl rfl 2 (by decide) (List.mem_of_getElem? (i := 4) rfl) rfl rfl dX4_takesAtom_85 ?_
          refine q_iconst S0 dX4_takesAtom_88 ?_
          refine q_iadd S0 dX4_takesAtom_89 ?_
          refine q_put (C := RX4) (T := TX4) (N := 4) S0 hK hW hinX4 tyX4_ok nmX4 0 rfl rfl 2 (by decide) (List.mem_of_getElem? (i := 4) rfl) rfl rfl rfl rfl (Nat.le_of_ble_eq_true rfl) dX4_takesAtom_90 (fun H locs hW => ?_)
          have hW : gW g A s.heap H _ [(ps, .inr (4, [.ref b, .int (iI (pA S)), .int (iI ((pO S) + 1)), .int (iI (pM S))])), (b, .inr (0, [.ref k1, .ref k2, .ref k3, .ref k4, .ref k5, .ref k6, .int (iI (bN (sWait (pB S) x))), .int (iI (bZ (sWait (pB S) x))), .ref s1, .ref s2])), (k1, gI g 40 (bK (sWait (pB S) x))), (k2, gI g 40 (bU (sWait (pB S) x))), (k3, gI g 40 (bL (sWait (pB S) x))), (k4, gI g 40 (bV (sWait (pB S) x))), (k5, gI g 40 (bD (sWait (pB S) x))), (k6, gI g 40 (bE (sWait (pB S) x))), (s1, .inr (3, [.ref i1, .int (iI (lP (sWait (pB S) x)))])), (i1, gI g 40 (lQ (sWait (pB S) x))), (s2, .inr (3, [.ref i2, .int (iI (wP (sWait (pB S) x)))])), (i2, gI g 40 (wQ (sWait (pB S) x)))] := hW
          refine lv_goto (tgt := 122) S0.1 S0.2.1 dX4_takesAtom_93 (by decide) ?_
          refine q_iconst S0 dX4_takesAtom_122 ?_
          exact q_zret S0 hr hlocks () (trivial) (by first | exact Or.inl rfl | exact Or.inr rfl | omega) (by first | (exfalso; omega) | (unfold tkA; (repeat (first | rw [if_pos (by omega)] | rw [if_neg (by omega)])); first | done | rfl)) (hW.sub [0, 1, 2, 3, 4, 5, 6, 7, 8, 9, 10, 11] rfl (by first | (exfalso; omega) | (unfold tkA; (repeat (first | rw [if_pos (by omega)] | rw [if_neg (by omega)])); first | done | rfl))) (Nat.le_of_ble_eq_true rfl) (Nat.le_of_ble_eq_true rfl) dX4_takesAtom_123
      · skip
        refine lv_aload_n S0.1 S0.2.1 dX4_takesAtom_57 rfl (lv_at hl 0 rfl) ?_
        refine q_get (C := RX4) (T := TX4) (N := 4) S0 hK hW.1 hinX4 0 rfl rfl 0 (by decide) (List.mem_of_getElem? (i := 1) rfl) rfl rfl dX4_takesAtom_58 ?_
        refine q_bipush S0 (by decide) dX4_takesAtom_61 ?_
        refine q_cV (n := 1) (rest := []) (wr := [(ps, .inr (4, [.ref b, .int (iI (pA S)), .int (iI (pO S)), .int (iI (pM S))]))]) S0 hK hA hW (c_X0_await l g b k1 k2 k3 k4 k5 k6 s1 i1 s2 i2 (pB S) 110 (h1)) gX4_takesAtom_X0_await rfl rfl rfl (by decide +kernel) ⟨Nat.le_of_ble_eq_true rfl, Nat.le_of_ble_eq_true rfl⟩ [1, 2, 3, 4, 5, 6, 7, 8, 9, 10, 11] [0] rfl rfl rfl rfl (by decide) (q_recv hK hW.1 (ci := 0) (q0 := 1) rfl rfl) (fun _ _ => trivial) (trivial) rfl rfl hl.1 (Nat.le_of_ble_eq_true rfl) ⟨Nat.le_of_ble_eq_true rfl, Nat.le_of_ble_eq_true rfl⟩ dX4_takesAtom_63 (fun _ H locs _ hW => ?_)
        have hW : gW g A s.heap H _ [(ps, .inr (4, [.ref b, .int (iI (pA S)), .int (iI (pO S)), .int (iI (pM S))])), (b, .inr (0, [.ref k1, .ref k2, .ref k3, .ref k4, .ref k5, .ref k6, .int (iI (bN (sWait (pB S) 110))), .int (iI (bZ (sWait (pB S) 110))), .ref s1, .ref s2])), (k1, gI g 40 (bK (sWait (pB S) 110))), (k2, gI g 40 (bU (sWait (pB S) 110))), (k3, gI g 40 (bL (sWait (pB S) 110))), (k4, gI g 40 (bV (sWait (pB S) 110))), (k5, gI g 40 (bD (sWait (pB S) 110))), (k6, gI g 40 (bE (sWait (pB S) 110))), (s1, .inr (3, [.ref i1, .int (iI (lP (sWait (pB S) 110)))])), (i1, gI g 40 (lQ (sWait (pB S) 110))), (s2, .inr (3, [.ref i2, .int (iI (wP (sWait (pB S) 110)))])), (i2, gI g 40 (wQ (sWait (pB S) 110)))] := hW
        refine W.eq (g2 := F0 m 66 ls []) rfl ?_
        refine lv_goto (tgt := 122) S0.1 S0.2.1 dX4_takesAtom_66 (by decide) ?_
        refine q_iconst S0 dX4_takesAtom_122 ?_
        exact q_zret S0 hr hlocks () (trivial) (by first | exact Or.inl rfl | exact Or.inr rfl | omega) (by first | (exfalso; omega) | (unfold tkA; (repeat (first | rw [if_pos (by omega)] | rw [if_neg (by omega)])); first | done | rfl)) (hW.sub [0, 1, 2, 3, 4, 5, 6, 7, 8, 9, 10, 11] rfl (by first | (exfalso; omega) | (unfold tkA; (repeat (first | rw [if_pos (by omega)] | rw [if_neg (by omega)])); first | done | rfl))) (Nat.le_of_ble_eq_true rfl) (Nat.le_of_ble_eq_true rfl) dX4_takesAtom_123
    · skip
      refine lv_aload_n S0.1 S0.2.1 dX4_takesAtom_36 rfl (lv_at hl 0 rfl) ?_
      refine q_get (C := RX4) (T := TX4) (N := 4) S0 hK hW.1 hinX4 0 rfl rfl 0 (by decide) (List.mem_of_getElem? (i := 1) rfl) rfl rfl dX4_takesAtom_37 ?_
      refine q_cV (n := 0) (rest := []) (wr := [(ps, .inr (4, [.ref b, .int (iI (pA S)), .int (iI (pO S)), .int (iI (pM S))]))]) S0 hK hA hW (c_X0_addX l g b k1 k2 k3 k4 k5 k6 s1 i1 s2 i2 (pB S) (h1) (by omega)) gX4_takesAtom_X0_addX rfl rfl rfl (by decide +kernel) ⟨Nat.le_of_ble_eq_true rfl, Nat.le_of_ble_eq_true rfl⟩ [1, 2, 3, 4, 5, 6, 7, 8, 9, 10, 11] [0] rfl rfl rfl rfl (by decide) (q_recv hK hW.1 (ci := 0) (q0 := 1) rfl rfl) (fun _ _ => trivial) (trivial) rfl rfl hl.1 (Nat.le_of_ble_eq_true rfl) ⟨Nat.le_of_ble_eq_true rfl, Nat.le_of_ble_eq_true rfl⟩ dX4_takesAtom_40 (fun _ H locs _ hW => ?_)
      have hW : gW g A s.heap H _ [(ps, .inr (4, [.ref b, .int (iI (pA S)), .int (iI (pO S)), .int (iI (pM S))])), (b, .inr (0, [.ref k1, .ref k2, .ref k3, .ref k4, .ref k5, .ref k6, .int (iI (bN (sAddX (pB S)))), .int (iI (bZ (sAddX (pB S)))), .ref s1, .ref s2])), (k1, gI g 40 (bK (sAddX (pB S)))), (k2, gI g 40 (bU (sAddX (pB S)))), (k3, gI g 40 (bL (sAddX (pB S)))), (k4, gI g 40 (bV (sAddX (pB S)))), (k5, gI g 40 (bD (sAddX (pB S)))), (k6, gI g 40 (bE (sAddX (pB S)))), (s1, .inr (3, [.ref i1, .int (iI (lP (sAddX (pB S))))])), (i1, gI g 40 (lQ (sAddX (pB S)))), (s2, .inr (3, [.ref i2, .int (iI (wP (sAddX (pB S))))])), (i2, gI g 40 (wQ (sAddX (pB S))))] := hW
      refine W.eq (g2 := F0 m 43 ls []) rfl ?_
      refine lv_aload_n S0.1 S0.2.1 dX4_takesAtom_43 rfl (lv_at hl 0 rfl) ?_
      refine q_iconst S0 dX4_takesAtom_44 ?_
      refine q_put (C := RX4) (T := TX4) (N := 4) S0 hK hW hinX4 tyX4_ok nmX4 0 rfl rfl 1 (by decide) (List.mem_of_getElem? (i := 3) rfl) rfl rfl rfl rfl (Nat.le_of_ble_eq_true rfl) dX4_takesAtom_45 (fun H locs hW => ?_)
      have hW : gW g A s.heap H _ [(ps, .inr (4, [.ref b, .int (iI 3), .int (iI (pO S)), .int (iI (pM S))])), (b, .inr (0, [.ref k1, .ref k2, .ref k3, .ref k4, .ref k5, .ref k6, .int (iI (bN (sAddX (pB S)))), .int (iI (bZ (sAddX (pB S)))), .ref s1, .ref s2])), (k1, gI g 40 (bK (sAddX (pB S)))), (k2, gI g 40 (bU (sAddX (pB S)))), (k3, gI g 40 (bL (sAddX (pB S)))), (k4, gI g 40 (bV (sAddX (pB S)))), (k5, gI g 40 (bD (sAddX (pB S)))), (k6, gI g 40 (bE (sAddX (pB S)))), (s1, .inr (3, [.ref i1, .int (iI (lP (sAddX (pB S))))])), (i1, gI g 40 (lQ (sAddX (pB S)))), (s2, .inr (3, [.ref i2, .int (iI (wP (sAddX (pB S))))])), (i2, gI g 40 (wQ (sAddX (pB S))))] := hW
      refine lv_goto (tgt := 122) S0.1 S0.2.1 dX4_takesAtom_48 (by decide) ?_
      refine q_iconst S0 dX4_takesAtom_122 ?_
      exact q_zret S0 hr hlocks () (trivial) (by first | exact Or.inl rfl | exact Or.inr rfl | omega) (by first | (exfalso; omega) | (unfold tkA; (repeat (first | rw [if_pos (by omega)] | rw [if_neg (by omega)])); first | done | rfl)) (hW.sub [0, 1, 2, 3, 4, 5, 6, 7, 8, 9, 10, 11] rfl (by first | (exfalso; omega) | (unfold tkA; (repeat (first | rw [if_pos (by omega)] | rw [if_neg (by omega)])); first | done | rfl))) (Nat.le_of_ble_eq_true rfl) (Nat.le_of_ble_eq_true rfl) dX4_takesAtom_123
  · skip
    refine lv_aload_n S0.1 S0.2.1 dX4_takesAtom_7 rfl (lv_at hl 0 rfl) ?_
    refine lv_aload_n S0.1 S0.2.1 dX4_takesAtom_8 rfl (lv_at hl 0 rfl) ?_
    refine q_get (C := RX4) (T := TX4) (N := 4) S0 hK hW.1 hinX4 0 rfl rfl 0 (by decide) (List.mem_of_getElem? (i := 1) rfl) rfl rfl dX4_takesAtom_9 ?_
    refine lv_iload_n S0.1 S0.2.1 dX4_takesAtom_12 rfl (lv_at hl 1 rfl) ?_
    refine q_bipush S0 (by decide) dX4_takesAtom_13 ?_
    refine q_isub S0 dX4_takesAtom_15 ?_
    refine q_cV (n := 1) (rest := [.ref ps]) (wr := [(ps, .inr (4, [.ref b, .int (iI (pA S)), .int (iI (pO S)), .int (iI (pM S))]))]) S0 hK hA hW (c_X0_addNumber l g b k1 k2 k3 k4 k5 k6 s1 i1 s2 i2 (pB S) (x - 48) (h1) (by omega) (by omega)) gX4_takesAtom_X0_addNumber rfl rfl rfl (by decide +kernel) ⟨Nat.le_of_ble_eq_true rfl, Nat.le_of_ble_eq_true rfl⟩ [1, 2, 3, 4, 5, 6, 7, 8, 9, 10, 11] [0] rfl rfl rfl rfl (by decide) (q_recv hK hW.1 (ci := 0) (q0 := 1) rfl rfl) (fun _ _ => trivial) (trivial) rfl rfl hl.1 (Nat.le_of_ble_eq_true rfl) ⟨Nat.le_of_ble_eq_true rfl, Nat.le_of_ble_eq_true rfl⟩ dX4_takesAtom_16 (fun _ H locs _ hW => ?_)
    have hW : gW g A s.heap H _ [(ps, .inr (4, [.ref b, .int (iI (pA S)), .int (iI (pO S)), .int (iI (pM S))])), (b, .inr (0, [.ref k1, .ref k2, .ref k3, .ref k4, .ref k5, .ref k6, .int (iI (bN (sAddNum (pB S) (x - 48)))), .int (iI (bZ (sAddNum (pB S) (x - 48)))), .ref s1, .ref s2])), (k1, gI g 40 (bK (sAddNum (pB S) (x - 48)))), (k2, gI g 40 (bU (sAddNum (pB S) (x - 48)))), (k3, gI g 40 (bL (sAddNum (pB S) (x - 48)))), (k4, gI g 40 (bV (sAddNum (pB S) (x - 48)))), (k5, gI g 40 (bD (sAddNum (pB S) (x - 48)))), (k6, gI g 40 (bE (sAddNum (pB S) (x - 48)))), (s1, .inr (3, [.ref i1, .int (iI (lP (sAddNum (pB S) (x - 48))))])), (i1, gI g 40 (lQ (sAddNum (pB S) (x - 48)))), (s2, .inr (3, [.ref i2, .int (iI (wP (sAddNum (pB S) (x - 48))))])), (i2, gI g 40 (wQ (sAddNum (pB S) (x - 48))))] := hW
    refine W.eq (g2 := F0 m 19 ls [.int (iI (bN (pB S))), .ref ps]) rfl ?_
    refine q_put (C := RX4) (T := TX4) (N := 4) S0 hK hW hinX4 tyX4_ok nmX4 0 rfl rfl 3 (by decide) (List.mem_of_getElem? (i := 2) rfl) rfl rfl rfl rfl (Nat.le_of_ble_eq_true rfl) dX4_takesAtom_19 (fun H locs hW => ?_)
    have hW : gW g A s.heap H _ [(ps, .inr (4, [.ref b, .int (iI (pA S)), .int (iI (pO S)), .int (iI (bN (pB S)))])), (b, .inr (0, [.ref k1, .ref k2, .ref k3, .ref k4, .ref k5, .ref k6, .int (iI (bN (sAddNum (pB S) (x - 48)))), .int (iI (bZ (sAddNum (pB S) (x - 48)))), .ref s1, .ref s2])), (k1, gI g 40 (bK (sAddNum (pB S) (x - 48)))), (k2, gI g 40 (bU (sAddNum (pB S) (x - 48)))), (k3, gI g 40 (bL (sAddNum (pB S) (x - 48)))), (k4, gI g 40 (bV (sAddNum (pB S) (x - 48)))), (k5, gI g 40 (bD (sAddNum (pB S) (x - 48)))), (k6, gI g 40 (bE (sAddNum (pB S) (x - 48)))), (s1, .inr (3, [.ref i1, .int (iI (lP (sAddNum (pB S) (x - 48))))])), (i1, gI g 40 (lQ (sAddNum (pB S) (x - 48)))), (s2, .inr (3, [.ref i2, .int (iI (wP (sAddNum (pB S) (x - 48))))])), (i2, gI g 40 (wQ (sAddNum (pB S) (x - 48))))] := hW
    refine lv_aload_n S0.1 S0.2.1 dX4_takesAtom_22 rfl (lv_at hl 0 rfl) ?_
    refine q_iconst S0 dX4_takesAtom_23 ?_
    refine q_put (C := RX4) (T := TX4) (N := 4) S0 hK hW hinX4 tyX4_ok nmX4 0 rfl rfl 1 (by decide) (List.mem_of_getElem? (i := 3) rfl) rfl rfl rfl rfl (Nat.le_of_ble_eq_true rfl) dX4_takesAtom_24 (fun H locs hW => ?_)
    have hW : gW g A s.heap H _ [(ps, .inr (4, [.ref b, .int (iI 3), .int (iI (pO S)), .int (iI (bN (pB S)))])), (b, .inr (0, [.ref k1, .ref k2, .ref k3, .ref k4, .ref k5, .ref k6, .int (iI (bN (sAddNum (pB S) (x - 48)))), .int (iI (bZ (sAddNum (pB S) (x - 48)))), .ref s1, .ref s2])), (k1, gI g 40 (bK (sAddNum (pB S) (x - 48)))), (k2, gI g 40 (bU (sAddNum (pB S) (x - 48)))), (k3, gI g 40 (bL (sAddNum (pB S) (x - 48)))), (k4, gI g 40 (bV (sAddNum (pB S) (x - 48)))), (k5, gI g 40 (bD (sAddNum (pB S) (x - 48)))), (k6, gI g 40 (bE (sAddNum (pB S) (x - 48)))), (s1, .inr (3, [.ref i1, .int (iI (lP (sAddNum (pB S) (x - 48))))])), (i1, gI g 40 (lQ (sAddNum (pB S) (x - 48)))), (s2, .inr (3, [.ref i2, .int (iI (wP (sAddNum (pB S) (x - 48))))])), (i2, gI g 40 (wQ (sAddNum (pB S) (x - 48))))] := hW
    refine lv_goto (tgt := 122) S0.1 S0.2.1 dX4_takesAtom_27 (by decide) ?_
    refine q_iconst S0 dX4_takesAtom_122 ?_
    exact q_zret S0 hr hlocks () (trivial) (by first | exact Or.inl rfl | exact Or.inr rfl | omega) (by first | (exfalso; omega) | (unfold tkA; (repeat (first | rw [if_pos (by omega)] | rw [if_neg (by omega)])); first | done | rfl)) (hW.sub [0, 1, 2, 3, 4, 5, 6, 7, 8, 9, 10, 11] rfl (by first | (exfalso; omega) | (unfold tkA; (repeat (first | rw [if_pos (by omega)] | rw [if_neg (by omega)])); first | done | rfl))) (Nat.le_of_ble_eq_true rfl) (Nat.le_of_ble_eq_true rfl) dX4_takesAtom_123
set_option maxHeartbeats 4000000 in
set_option maxRecDepth 100000 in
theorem c_X4_takesOpening (l : Launch) (g : GG) (ps b k1 k2 k3 k4 k5 k6 s1 i1 s2 i2 : Nat) (S : PT) (i x : Int) (hS : WFP i S) (hi : i ≤ 39) (hx : 0 ≤ x ∧ x ≤ 65535) : qMet l yX4_takesOpening wsX4_takesOpening ({ frames := 0, cells := 0, slots := 0, locals := 0 }) g [.ref ps, .int (iI x)] [(ps, .inr (4, [.ref b, .int (iI (pA S)), .int (iI (pO S)), .int (iI (pM S))])), (b, .inr (0, [.ref k1, .ref k2, .ref k3, .ref k4, .ref k5, .ref k6, .int (iI (bN (pB S))), .int (iI (bZ (pB S))), .ref s1, .ref s2])), (k1, gI g 40 (bK (pB S))), (k2, gI g 40 (bU (pB S))), (k3, gI g 40 (bL (pB S))), (k4, gI g 40 (bV (pB S))), (k5, gI g 40 (bD (pB S))), (k6, gI g 40 (bE (pB S))), (s1, .inr (3, [.ref i1, .int (iI (lP (pB S)))])), (i1, gI g 40 (lQ (pB S))), (s2, .inr (3, [.ref i2, .int (iI (wP (pB S)))])), (i2, gI g 40 (wQ (pB S)))] (fun _ => True) (fun _ => True) (S := Unit) (fun _ => some (.int (iI ((tkO S x).2)))) (fun _ => [(ps, .inr (4, [.ref b, .int (iI (pA ((tkO S x).1))), .int (iI (pO ((tkO S x).1))), .int (iI (pM ((tkO S x).1)))])), (b, .inr (0, [.ref k1, .ref k2, .ref k3, .ref k4, .ref k5, .ref k6, .int (iI (bN (pB ((tkO S x).1)))), .int (iI (bZ (pB ((tkO S x).1)))), .ref s1, .ref s2])), (k1, gI g 40 (bK (pB ((tkO S x).1)))), (k2, gI g 40 (bU (pB ((tkO S x).1)))), (k3, gI g 40 (bL (pB ((tkO S x).1)))), (k4, gI g 40 (bV (pB ((tkO S x).1)))), (k5, gI g 40 (bD (pB ((tkO S x).1)))), (k6, gI g 40 (bE (pB ((tkO S x).1)))), (s1, .inr (3, [.ref i1, .int (iI (lP (pB ((tkO S x).1))))])), (i1, gI g 40 (lQ (pB ((tkO S x).1)))), (s2, .inr (3, [.ref i2, .int (iI (wP (pB ((tkO S x).1))))])), (i2, gI g 40 (wQ (pB ((tkO S x).1))))]) (fun _ => True) 0 0 := by
  refine q_ofW (cc := cX4_takesOpening) (maxL := 2) (ret := (some .boolean)) (fun sz h => h.self) (by decide) rfl (Nat.le_of_ble_eq_true rfl) ?_
  intro p e s m args below meth c A ls S0 hr hlocks hnme hK hA hAe hW hD0 hX hl
  have hW : gW g A s.heap s.heap [] [(ps, .inr (4, [.ref b, .int (iI (pA S)), .int (iI (pO S)), .int (iI (pM S))])), (b, .inr (0, [.ref k1, .ref k2, .ref k3, .ref k4, .ref k5, .ref k6, .int (iI (bN (pB S))), .int (iI (bZ (pB S))), .ref s1, .ref s2])), (k1, gI g 40 (bK (pB S))), (k2, gI g 40 (bU (pB S))), (k3, gI g 40 (bL (pB S))), (k4, gI g 40 (bV (pB S))), (k5, gI g 40 (bD (pB S))), (k6, gI g 40 (bE (pB S))), (s1, .inr (3, [.ref i1, .int (iI (lP (pB S)))])), (i1, gI g 40 (lQ (pB S))), (s2, .inr (3, [.ref i2, .int (iI (wP (pB S)))])), (i2, gI g 40 (wQ (pB S)))] := hW
  have hl : lv_has ls 2 [(0, .ref ps), (1, .int (iI x))] := hl
  have hinX4 : ∀ w ∈ wsX40, w ∈ wsX4_takesOpening := fun w h => List.mem_cons_of_mem _ (List.mem_append_right _ h)
  obtain ⟨h1, h2, h3⟩ := id hS
  have h10 := h1.1
  have hfn := fnO_r x
  refine lv_iload_n S0.1 S0.2.1 dX4_takesOpening_0 rfl (lv_at hl 1 rfl) ?_
  refine q_bipush S0 (by decide) dX4_takesOpening_1 ?_
  refine q_icmp_eq (tgt := 8) S0 (by omega) dX4_takesOpening_3 (by decide) (fun c3 => ?_) (fun c3 => ?_)
  · skip
    refine lv_aload_n S0.1 S0.2.1 dX4_takesOpening_8 rfl (lv_at hl 0 rfl) ?_
    refine lv_dup S0.1 S0.2.1 dX4_takesOpening_9 rfl ?_
    refine q_get (C := RX4) (T := TX4) (N := 4) S0 hK hW.1 hinX4 0 rfl rfl 2 (by decide) (List.mem_of_getElem? (i := 1) rfl) rfl rfl dX4_takesOpening_10 ?_
    refine q_iconst S0 dX4_takesOpening_13 ?_
    refine q_iadd S0 dX4_takesOpening_14 ?_
    refine q_put (C := RX4) (T := TX4) (N := 4) S0 hK hW hinX4 tyX4_ok nmX4 0 rfl rfl 2 (by decide) (List.mem_of_getElem? (i := 1) rfl) rfl rfl rfl rfl (Nat.le_of_ble_eq_true rfl) dX4_takesOpening_15 (fun H locs hW => ?_)
    have hW : gW g A s.heap H _ [(ps, .inr (4, [.ref b, .int (iI (pA S)), .int (iI ((pO S) + 1)), .int (iI (pM S))])), (b, .inr (0, [.ref k1, .ref k2, .ref k3, .ref k4, .ref k5, .ref k6, .int (iI (bN (pB S))), .int (iI (bZ (pB S))), .ref s1, .ref s2])), (k1, gI g 40 (bK (pB S))), (k2, gI g 40 (bU (pB S))), (k3, gI g 40 (bL (pB S))), (k4, gI g 40 (bV (pB S))), (k5, gI g 40 (bD (pB S))), (k6, gI g 40 (bE (pB S))), (s1, .inr (3, [.ref i1, .int (iI (lP (pB S)))])), (i1, gI g 40 (lQ (pB S))), (s2, .inr (3, [.ref i2, .int (iI (wP (pB S)))])), (i2, gI g 40 (wQ (pB S)))] := hW
    refine lv_aload_n S0.1 S0.2.1 dX4_takesOpening_18 rfl (lv_at hl 0 rfl) ?_
    refine q_iconst S0 dX4_takesOpening_19 ?_
    refine q_put (C := RX4) (T := TX4) (N := 4) S0 hK hW hinX4 tyX4_ok nmX4 0 rfl rfl 1 (by decide) (List.mem_of_getElem? (i := 2) rfl) rfl rfl rfl rfl (Nat.le_of_ble_eq_true rfl) dX4_takesOpening_20 (fun H locs hW => ?_)
    have hW : gW g A s.heap H _ [(ps, .inr (4, [.ref b, .int (iI 0), .int (iI ((pO S) + 1)), .int (iI (pM S))])), (b, .inr (0, [.ref k1, .ref k2, .ref k3, .ref k4, .ref k5, .ref k6, .int (iI (bN (pB S))), .int (iI (bZ (pB S))), .ref s1, .ref s2])), (k1, gI g 40 (bK (pB S))), (k2, gI g 40 (bU (pB S))), (k3, gI g 40 (bL (pB S))), (k4, gI g 40 (bV (pB S))), (k5, gI g 40 (bD (pB S))), (k6, gI g 40 (bE (pB S))), (s1, .inr (3, [.ref i1, .int (iI (lP (pB S)))])), (i1, gI g 40 (lQ (pB S))), (s2, .inr (3, [.ref i2, .int (iI (wP (pB S)))])), (i2, gI g 40 (wQ (pB S)))] := hW
    refine q_iconst S0 dX4_takesOpening_23 ?_
    exact q_zret S0 hr hlocks () (trivial) (by first | exact Or.inl rfl | exact Or.inr rfl | omega) (by first | (exfalso; omega) | (unfold tkO; (repeat (first | rw [if_pos (by omega)] | rw [if_neg (by omega)])); first | done | rfl)) (hW.sub [0, 1, 2, 3, 4, 5, 6, 7, 8, 9, 10, 11] rfl (by first | (exfalso; omega) | (unfold tkO; (repeat (first | rw [if_pos (by omega)] | rw [if_neg (by omega)])); first | done | rfl))) (Nat.le_of_ble_eq_true rfl) (Nat.le_of_ble_eq_true rfl) dX4_takesOpening_24
  · skip
    refine q_iconst S0 dX4_takesOpening_6 ?_
    exact q_zret S0 hr hlocks () (trivial) (by first | exact Or.inl rfl | exact Or.inr rfl | omega) (by first | (exfalso; omega) | (unfold tkO; (repeat (first | rw [if_pos (by omega)] | rw [if_neg (by omega)])); first | done | rfl)) (hW.sub [0, 1, 2, 3, 4, 5, 6, 7, 8, 9, 10, 11] rfl (by first | (exfalso; omega) | (unfold tkO; (repeat (first | rw [if_pos (by omega)] | rw [if_neg (by omega)])); first | done | rfl))) (Nat.le_of_ble_eq_true rfl) (Nat.le_of_ble_eq_true rfl) dX4_takesOpening_7
set_option maxHeartbeats 4000000 in
set_option maxRecDepth 100000 in
theorem c_X4_takesExponent (l : Launch) (g : GG) (ps b k1 k2 k3 k4 k5 k6 s1 i1 s2 i2 : Nat) (S : PT) (i x : Int) (hS : WFP i S) (hi : i ≤ 39) (hx : 0 ≤ x ∧ x ≤ 65535) : qMet l yX4_takesExponent wsX4_takesExponent ({ frames := 3, cells := 0, slots := 0, locals := 85 }) g [.ref ps, .int (iI x)] [(ps, .inr (4, [.ref b, .int (iI (pA S)), .int (iI (pO S)), .int (iI (pM S))])), (b, .inr (0, [.ref k1, .ref k2, .ref k3, .ref k4, .ref k5, .ref k6, .int (iI (bN (pB S))), .int (iI (bZ (pB S))), .ref s1, .ref s2])), (k1, gI g 40 (bK (pB S))), (k2, gI g 40 (bU (pB S))), (k3, gI g 40 (bL (pB S))), (k4, gI g 40 (bV (pB S))), (k5, gI g 40 (bD (pB S))), (k6, gI g 40 (bE (pB S))), (s1, .inr (3, [.ref i1, .int (iI (lP (pB S)))])), (i1, gI g 40 (lQ (pB S))), (s2, .inr (3, [.ref i2, .int (iI (wP (pB S)))])), (i2, gI g 40 (wQ (pB S)))] (fun _ => True) (fun _ => True) (S := Unit) (fun _ => some (.int (iI ((tkE S x).2)))) (fun _ => [(ps, .inr (4, [.ref b, .int (iI (pA ((tkE S x).1))), .int (iI (pO ((tkE S x).1))), .int (iI (pM ((tkE S x).1)))])), (b, .inr (0, [.ref k1, .ref k2, .ref k3, .ref k4, .ref k5, .ref k6, .int (iI (bN (pB ((tkE S x).1)))), .int (iI (bZ (pB ((tkE S x).1)))), .ref s1, .ref s2])), (k1, gI g 40 (bK (pB ((tkE S x).1)))), (k2, gI g 40 (bU (pB ((tkE S x).1)))), (k3, gI g 40 (bL (pB ((tkE S x).1)))), (k4, gI g 40 (bV (pB ((tkE S x).1)))), (k5, gI g 40 (bD (pB ((tkE S x).1)))), (k6, gI g 40 (bE (pB ((tkE S x).1)))), (s1, .inr (3, [.ref i1, .int (iI (lP (pB ((tkE S x).1))))])), (i1, gI g 40 (lQ (pB ((tkE S x).1)))), (s2, .inr (3, [.ref i2, .int (iI (wP (pB ((tkE S x).1))))])), (i2, gI g 40 (wQ (pB ((tkE S x).1))))]) (fun _ => True) 0 0 := by
  refine q_ofW (cc := cX4_takesExponent) (maxL := 2) (ret := (some .boolean)) (fun sz h => h.self) (by decide) rfl (Nat.le_of_ble_eq_true rfl) ?_
  intro p e s m args below meth c A ls S0 hr hlocks hnme hK hA hAe hW hD0 hX hl
  have hW : gW g A s.heap s.heap [] [(ps, .inr (4, [.ref b, .int (iI (pA S)), .int (iI (pO S)), .int (iI (pM S))])), (b, .inr (0, [.ref k1, .ref k2, .ref k3, .ref k4, .ref k5, .ref k6, .int (iI (bN (pB S))), .int (iI (bZ (pB S))), .ref s1, .ref s2])), (k1, gI g 40 (bK (pB S))), (k2, gI g 40 (bU (pB S))), (k3, gI g 40 (bL (pB S))), (k4, gI g 40 (bV (pB S))), (k5, gI g 40 (bD (pB S))), (k6, gI g 40 (bE (pB S))), (s1, .inr (3, [.ref i1, .int (iI (lP (pB S)))])), (i1, gI g 40 (lQ (pB S))), (s2, .inr (3, [.ref i2, .int (iI (wP (pB S)))])), (i2, gI g 40 (wQ (pB S)))] := hW
  have hl : lv_has ls 2 [(0, .ref ps), (1, .int (iI x))] := hl
  have hinX4 : ∀ w ∈ wsX40, w ∈ wsX4_takesExponent := fun w h => List.mem_cons_of_mem _ (List.mem_append_left _ (List.mem_append_left _ (List.mem_append_right _ h)))
  obtain ⟨h1, h2, h3⟩ := id hS
  have h10 := h1.1
  have hfn := fnO_r x
  refine lv_iload_n S0.1 S0.2.1 dX4_takesExponent_0 rfl (lv_at hl 1 rfl) ?_
  refine q_pS (n := 1) (rest := []) S0 hK (c_X4_isDigit l g x (by omega)) (subP hW.1 [] rfl) (trivial) gX4_takesExponent_X4_isDigit rfl rfl rfl (by decide +kernel) ⟨Nat.le_of_ble_eq_true rfl, Nat.le_of_ble_eq_true rfl⟩ rfl rfl hl.1 (Nat.le_of_ble_eq_true rfl) ⟨Nat.le_of_ble_eq_true rfl, Nat.le_of_ble_eq_true rfl⟩ dX4_takesExponent_1 ?_
  refine W.eq (g2 := F0 m 4 ls [.int (iI (if 48 ≤ x ∧ x ≤ 57 then (1 : Int) else 0))]) rfl ?_
  refine q_if_neP (tgt := 9) S0 dX4_takesExponent_4 (by decide) (fun c4 => ?_) (fun c4 => ?_)
  · skip
    refine lv_aload_n S0.1 S0.2.1 dX4_takesExponent_9 rfl (lv_at hl 0 rfl) ?_
    refine q_get (C := RX4) (T := TX4) (N := 4) S0 hK hW.1 hinX4 0 rfl rfl 0 (by decide) (List.mem_of_getElem? (i := 1) rfl) rfl rfl dX4_takesExponent_10 ?_
    refine lv_iload_n S0.1 S0.2.1 dX4_takesExponent_13 rfl (lv_at hl 1 rfl) ?_
    refine q_bipush S0 (by decide) dX4_takesExponent_14 ?_
    refine q_isub S0 dX4_takesExponent_16 ?_
    refine q_cV (n := 1) (rest := []) (wr := [(ps, .inr (4, [.ref b, .int (iI (pA S)), .int (iI (pO S)), .int (iI (pM S))]))]) S0 hK hA hW (c_X0_addPower l g b k1 k2 k3 k4 k5 k6 s1 i1 s2 i2 (pB S) (x - 48) (h1) (by omega) (by omega)) gX4_takesExponent_X0_addPower rfl rfl rfl (by decide +kernel) ⟨Nat.le_of_ble_eq_true rfl, Nat.le_of_ble_eq_true rfl⟩ [1, 2, 3, 4, 5, 6, 7, 8, 9, 10, 11] [0] rfl rfl rfl rfl (by decide) (q_recv hK hW.1 (ci := 0) (q0 := 1) rfl rfl) (fun _ _ => trivial) (trivial) rfl rfl hl.1 (Nat.le_of_ble_eq_true rfl) ⟨Nat.le_of_ble_eq_true rfl, Nat.le_of_ble_eq_true rfl⟩ dX4_takesExponent_17 (fun _ H locs _ hW => ?_)
    have hW : gW g A s.heap H _ [(ps, .inr (4, [.ref b, .int (iI (pA S)), .int (iI (pO S)), .int (iI (pM S))])), (b, .inr (0, [.ref k1, .ref k2, .ref k3, .ref k4, .ref k5, .ref k6, .int (iI (bN (sPower (pB S) (x - 48)))), .int (iI (bZ (sPower (pB S) (x - 48)))), .ref s1, .ref s2])), (k1, gI g 40 (bK (sPower (pB S) (x - 48)))), (k2, gI g 40 (bU (sPower (pB S) (x - 48)))), (k3, gI g 40 (bL (sPower (pB S) (x - 48)))), (k4, gI g 40 (bV (sPower (pB S) (x - 48)))), (k5, gI g 40 (bD (sPower (pB S) (x - 48)))), (k6, gI g 40 (bE (sPower (pB S) (x - 48)))), (s1, .inr (3, [.ref i1, .int (iI (lP (sPower (pB S) (x - 48))))])), (i1, gI g 40 (lQ (sPower (pB S) (x - 48)))), (s2, .inr (3, [.ref i2, .int (iI (wP (sPower (pB S) (x - 48))))])), (i2, gI g 40 (wQ (sPower (pB S) (x - 48))))] := hW
    refine W.eq (g2 := F0 m 20 ls []) rfl ?_
    refine lv_aload_n S0.1 S0.2.1 dX4_takesExponent_20 rfl (lv_at hl 0 rfl) ?_
    refine q_iconst S0 dX4_takesExponent_21 ?_
    refine q_put (C := RX4) (T := TX4) (N := 4) S0 hK hW hinX4 tyX4_ok nmX4 0 rfl rfl 1 (by decide) (List.mem_of_getElem? (i := 2) rfl) rfl rfl rfl rfl (Nat.le_of_ble_eq_true rfl) dX4_takesExponent_22 (fun H locs hW => ?_)
    have hW : gW g A s.heap H _ [(ps, .inr (4, [.ref b, .int (iI 4), .int (iI (pO S)), .int (iI (pM S))])), (b, .inr (0, [.ref k1, .ref k2, .ref k3, .ref k4, .ref k5, .ref k6, .int (iI (bN (sPower (pB S) (x - 48)))), .int (iI (bZ (sPower (pB S) (x - 48)))), .ref s1, .ref s2])), (k1, gI g 40 (bK (sPower (pB S) (x - 48)))), (k2, gI g 40 (bU (sPower (pB S) (x - 48)))), (k3, gI g 40 (bL (sPower (pB S) (x - 48)))), (k4, gI g 40 (bV (sPower (pB S) (x - 48)))), (k5, gI g 40 (bD (sPower (pB S) (x - 48)))), (k6, gI g 40 (bE (sPower (pB S) (x - 48)))), (s1, .inr (3, [.ref i1, .int (iI (lP (sPower (pB S) (x - 48))))])), (i1, gI g 40 (lQ (sPower (pB S) (x - 48)))), (s2, .inr (3, [.ref i2, .int (iI (wP (sPower (pB S) (x - 48))))])), (i2, gI g 40 (wQ (sPower (pB S) (x - 48))))] := hW
    refine q_iconst S0 dX4_takesExponent_25 ?_
    exact q_zret S0 hr hlocks () (trivial) (by first | exact Or.inl rfl | exact Or.inr rfl | omega) (by first | (exfalso; omega) | (unfold tkE; (repeat (first | rw [if_pos (by omega)] | rw [if_neg (by omega)])); first | done | rfl)) (hW.sub [0, 1, 2, 3, 4, 5, 6, 7, 8, 9, 10, 11] rfl (by first | (exfalso; omega) | (unfold tkE; (repeat (first | rw [if_pos (by omega)] | rw [if_neg (by omega)])); first | done | rfl))) (Nat.le_of_ble_eq_true rfl) (Nat.le_of_ble_eq_true rfl) dX4_takesExponent_26
  · skip
    refine q_iconst S0 dX4_takesExponent_7 ?_
    exact q_zret S0 hr hlocks () (trivial) (by first | exact Or.inl rfl | exact Or.inr rfl | omega) (by first | (exfalso; omega) | (unfold tkE; (repeat (first | rw [if_pos (by omega)] | rw [if_neg (by omega)])); first | done | rfl)) (hW.sub [0, 1, 2, 3, 4, 5, 6, 7, 8, 9, 10, 11] rfl (by first | (exfalso; omega) | (unfold tkE; (repeat (first | rw [if_pos (by omega)] | rw [if_neg (by omega)])); first | done | rfl))) (Nat.le_of_ble_eq_true rfl) (Nat.le_of_ble_eq_true rfl) dX4_takesExponent_8
set_option maxHeartbeats 4000000 in
set_option maxRecDepth 100000 in
theorem c_X4_takesFurtherDigit (l : Launch) (g : GG) (ps b k1 k2 k3 k4 k5 k6 s1 i1 s2 i2 : Nat) (S : PT) (i x : Int) (hS : WFP i S) (hi : i ≤ 39) (hx : 0 ≤ x ∧ x ≤ 65535) (hd : 48 ≤ x ∧ x ≤ 57) : qMet l yX4_takesFurtherDigit wsX4_takesFurtherDigit ({ frames := 2, cells := 0, slots := 0, locals := 44 }) g [.ref ps, .int (iI x)] [(ps, .inr (4, [.ref b, .int (iI (pA S)), .int (iI (pO S)), .int (iI (pM S))])), (b, .inr (0, [.ref k1, .ref k2, .ref k3, .ref k4, .ref k5, .ref k6, .int (iI (bN (pB S))), .int (iI (bZ (pB S))), .ref s1, .ref s2])), (k1, gI g 40 (bK (pB S))), (k2, gI g 40 (bU (pB S))), (k3, gI g 40 (bL (pB S))), (k4, gI g 40 (bV (pB S))), (k5, gI g 40 (bD (pB S))), (k6, gI g 40 (bE (pB S))), (s1, .inr (3, [.ref i1, .int (iI (lP (pB S)))])), (i1, gI g 40 (lQ (pB S))), (s2, .inr (3, [.ref i2, .int (iI (wP (pB S)))])), (i2, gI g 40 (wQ (pB S)))] (fun _ => True) (fun _ => True) (S := Unit) (fun _ => some (.int (iI ((tkD S x).2)))) (fun _ => [(ps, .inr (4, [.ref b, .int (iI (pA ((tkD S x).1))), .int (iI (pO ((tkD S x).1))), .int (iI (pM ((tkD S x).1)))])), (b, .inr (0, [.ref k1, .ref k2, .ref k3, .ref k4, .ref k5, .ref k6, .int (iI (bN (pB ((tkD S x).1)))), .int (iI (bZ (pB ((tkD S x).1)))), .ref s1, .ref s2])), (k1, gI g 40 (bK (pB ((tkD S x).1)))), (k2, gI g 40 (bU (pB ((tkD S x).1)))), (k3, gI g 40 (bL (pB ((tkD S x).1)))), (k4, gI g 40 (bV (pB ((tkD S x).1)))), (k5, gI g 40 (bD (pB ((tkD S x).1)))), (k6, gI g 40 (bE (pB ((tkD S x).1)))), (s1, .inr (3, [.ref i1, .int (iI (lP (pB ((tkD S x).1))))])), (i1, gI g 40 (lQ (pB ((tkD S x).1)))), (s2, .inr (3, [.ref i2, .int (iI (wP (pB ((tkD S x).1))))])), (i2, gI g 40 (wQ (pB ((tkD S x).1))))]) (fun _ => True) 0 0 := by
  refine q_ofW (cc := cX4_takesFurtherDigit) (maxL := 3) (ret := (some .boolean)) (fun sz h => h.self) (by decide) rfl (Nat.le_of_ble_eq_true rfl) ?_
  intro p e s m args below meth c A ls S0 hr hlocks hnme hK hA hAe hW hD0 hX hl
  have hW : gW g A s.heap s.heap [] [(ps, .inr (4, [.ref b, .int (iI (pA S)), .int (iI (pO S)), .int (iI (pM S))])), (b, .inr (0, [.ref k1, .ref k2, .ref k3, .ref k4, .ref k5, .ref k6, .int (iI (bN (pB S))), .int (iI (bZ (pB S))), .ref s1, .ref s2])), (k1, gI g 40 (bK (pB S))), (k2, gI g 40 (bU (pB S))), (k3, gI g 40 (bL (pB S))), (k4, gI g 40 (bV (pB S))), (k5, gI g 40 (bD (pB S))), (k6, gI g 40 (bE (pB S))), (s1, .inr (3, [.ref i1, .int (iI (lP (pB S)))])), (i1, gI g 40 (lQ (pB S))), (s2, .inr (3, [.ref i2, .int (iI (wP (pB S)))])), (i2, gI g 40 (wQ (pB S)))] := hW
  have hl : lv_has ls 3 [(0, .ref ps), (1, .int (iI x))] := hl
  have hinX4 : ∀ w ∈ wsX40, w ∈ wsX4_takesFurtherDigit := fun w h => List.mem_cons_of_mem _ (List.mem_append_left _ (List.mem_append_right _ h))
  obtain ⟨h1, h2, h3⟩ := id hS
  have h10 := h1.1
  have hfn := fnO_r x
  refine lv_aload_n S0.1 S0.2.1 dX4_takesFurtherDigit_0 rfl (lv_at hl 0 rfl) ?_
  refine q_get (C := RX4) (T := TX4) (N := 4) S0 hK hW.1 hinX4 0 rfl rfl 3 (by decide) (List.mem_of_getElem? (i := 1) rfl) rfl rfl dX4_takesFurtherDigit_1 ?_
  refine q_iconst S0 dX4_takesFurtherDigit_4 ?_
  refine q_icmp_ne (tgt := 12) S0 (by omega) dX4_takesFurtherDigit_5 (by decide) (fun c5 => ?_) (fun c5 => ?_)
  · skip
    refine lv_aload_n S0.1 S0.2.1 dX4_takesFurtherDigit_12 rfl (lv_at hl 0 rfl) ?_
    refine q_get (C := RX4) (T := TX4) (N := 4) S0 hK hW.1 hinX4 0 rfl rfl 0 (by decide) (List.mem_of_getElem? (i := 2) rfl) rfl rfl dX4_takesFurtherDigit_13 ?_
    refine lv_aload_n S0.1 S0.2.1 dX4_takesFurtherDigit_16 rfl (lv_at hl 0 rfl) ?_
    refine q_get (C := RX4) (T := TX4) (N := 4) S0 hK hW.1 hinX4 0 rfl rfl 3 (by decide) (List.mem_of_getElem? (i := 1) rfl) rfl rfl dX4_takesFurtherDigit_17 ?_
    refine q_pV (n := 1) (rest := []) S0 hK (c_X0_numberOf l g b k1 k2 k3 k4 k5 k6 s1 s2 (pB S) (pM S) (by omega)) (subP hW.1 [1, 3] rfl) (trivial) gX4_takesFurtherDigit_X0_numberOf rfl rfl rfl (by decide +kernel) ⟨Nat.le_of_ble_eq_true rfl, Nat.le_of_ble_eq_true rfl⟩ (q_recv hK hW.1 (ci := 0) (q0 := 1) rfl rfl) rfl rfl hl.1 (Nat.le_of_ble_eq_true rfl) ⟨Nat.le_of_ble_eq_true rfl, Nat.le_of_ble_eq_true rfl⟩ dX4_takesFurtherDigit_20 ?_
    refine W.eq (g2 := F0 m 23 ls [.int (iI (at0 40 (bU (pB S)) (pM S)))]) rfl ?_
    have hu := at0_bnd (n := 40) (i := pM S) (P := fun v => 0 ≤ v ∧ v ≤ 999) h1.2.2.2.1 (by omega)
    refine lv_istore_n (lv' := [(2, .int (iI (at0 40 (bU (pB S)) (pM S)))), (0, .ref ps), (1, .int (iI x))]) S0.1 S0.2.1 dX4_takesFurtherDigit_23 rfl hl (by decide) rfl (fun ls hl => ?_)
    refine lv_iload_n S0.1 S0.2.1 dX4_takesFurtherDigit_24 rfl (lv_at hl 0 rfl) ?_
    refine q_iconst S0 dX4_takesFurtherDigit_25 ?_
    refine q_icmp_lt (tgt := 35) S0 (by omega) dX4_takesFurtherDigit_26 (by decide) (fun c26 => ?_) (fun c26 => ?_)
    · skip
      refine q_iconst S0 dX4_takesFurtherDigit_35 ?_
      exact q_zret S0 hr hlocks () (trivial) (by first | exact Or.inl rfl | exact Or.inr rfl | omega) (by first | (exfalso; omega) | (unfold tkD; (repeat (first | rw [if_pos (by omega)] | rw [if_neg (by omega)])); first | done | rfl)) (hW.sub [0, 1, 2, 3, 4, 5, 6, 7, 8, 9, 10, 11] rfl (by first | (exfalso; omega) | (unfold tkD; (repeat (first | rw [if_pos (by omega)] | rw [if_neg (by omega)])); first | done | rfl))) (Nat.le_of_ble_eq_true rfl) (Nat.le_of_ble_eq_true rfl) dX4_takesFurtherDigit_36
    · skip
      refine lv_iload_n S0.1 S0.2.1 dX4_takesFurtherDigit_29 rfl (lv_at hl 0 rfl) ?_
      refine q_bipush S0 (by decide) dX4_takesFurtherDigit_30 ?_
      refine q_icmp_le (tgt := 37) S0 (by omega) dX4_takesFurtherDigit_32 (by decide) (fun c32 => ?_) (fun c32 => ?_)
      · skip
        refine lv_aload_n S0.1 S0.2.1 dX4_takesFurtherDigit_37 rfl (lv_at hl 1 rfl) ?_
        refine q_get (C := RX4) (T := TX4) (N := 4) S0 hK hW.1 hinX4 0 rfl rfl 0 (by decide) (List.mem_of_getElem? (i := 2) rfl) rfl rfl dX4_takesFurtherDigit_38 ?_
        refine lv_aload_n S0.1 S0.2.1 dX4_takesFurtherDigit_41 rfl (lv_at hl 1 rfl) ?_
        refine q_get (C := RX4) (T := TX4) (N := 4) S0 hK hW.1 hinX4 0 rfl rfl 3 (by decide) (List.mem_of_getElem? (i := 1) rfl) rfl rfl dX4_takesFurtherDigit_42 ?_
        refine lv_iload_n S0.1 S0.2.1 dX4_takesFurtherDigit_45 rfl (lv_at hl 2 rfl) ?_
        refine q_bipush S0 (by decide) dX4_takesFurtherDigit_46 ?_
        refine q_isub S0 dX4_takesFurtherDigit_48 ?_
        refine q_cV (n := 2) (rest := []) (wr := [(ps, .inr (4, [.ref b, .int (iI (pA S)), .int (iI (pO S)), .int (iI (pM S))]))]) S0 hK hA hW (c_X0_addDigit l g b k1 k2 k3 k4 k5 k6 s1 i1 s2 i2 (pB S) (pM S) (x - 48) (h1) (by omega) (by omega)) gX4_takesFurtherDigit_X0_addDigit rfl rfl rfl (by decide +kernel) ⟨Nat.le_of_ble_eq_true rfl, Nat.le_of_ble_eq_true rfl⟩ [1, 2, 3, 4, 5, 6, 7, 8, 9, 10, 11] [0] rfl rfl rfl rfl (by decide) (q_recv hK hW.1 (ci := 0) (q0 := 1) rfl rfl) (fun _ _ => trivial) (trivial) rfl rfl hl.1 (Nat.le_of_ble_eq_true rfl) ⟨Nat.le_of_ble_eq_true rfl, Nat.le_of_ble_eq_true rfl⟩ dX4_takesFurtherDigit_49 (fun _ H locs _ hW => ?_)
        have hW : gW g A s.heap H _ [(ps, .inr (4, [.ref b, .int (iI (pA S)), .int (iI (pO S)), .int (iI (pM S))])), (b, .inr (0, [.ref k1, .ref k2, .ref k3, .ref k4, .ref k5, .ref k6, .int (iI (bN (sDigit (pB S) (pM S) (x - 48)))), .int (iI (bZ (sDigit (pB S) (pM S) (x - 48)))), .ref s1, .ref s2])), (k1, gI g 40 (bK (sDigit (pB S) (pM S) (x - 48)))), (k2, gI g 40 (bU (sDigit (pB S) (pM S) (x - 48)))), (k3, gI g 40 (bL (sDigit (pB S) (pM S) (x - 48)))), (k4, gI g 40 (bV (sDigit (pB S) (pM S) (x - 48)))), (k5, gI g 40 (bD (sDigit (pB S) (pM S) (x - 48)))), (k6, gI g 40 (bE (sDigit (pB S) (pM S) (x - 48)))), (s1, .inr (3, [.ref i1, .int (iI (lP (sDigit (pB S) (pM S) (x - 48))))])), (i1, gI g 40 (lQ (sDigit (pB S) (pM S) (x - 48)))), (s2, .inr (3, [.ref i2, .int (iI (wP (sDigit (pB S) (pM S) (x - 48))))])), (i2, gI g 40 (wQ (sDigit (pB S) (pM S) (x - 48))))] := hW
        refine W.eq (g2 := F0 m 52 ls []) rfl ?_
        refine q_iconst S0 dX4_takesFurtherDigit_52 ?_
        exact q_zret S0 hr hlocks () (trivial) (by first | exact Or.inl rfl | exact Or.inr rfl | omega) (by first | (exfalso; omega) | (unfold tkD; (repeat (first | rw [if_pos (by omega)] | rw [if_neg (by omega)])); first | done | rfl)) (hW.sub [0, 1, 2, 3, 4, 5, 6, 7, 8, 9, 10, 11] rfl (by first | (exfalso; omega) | (unfold tkD; (repeat (first | rw [if_pos (by omega)] | rw [if_neg (by omega)])); first | done | rfl))) (Nat.le_of_ble_eq_true rfl) (Nat.le_of_ble_eq_true rfl) dX4_takesFurtherDigit_53
      · skip
        refine q_iconst S0 dX4_takesFurtherDigit_35 ?_
        exact q_zret S0 hr hlocks () (trivial) (by first | exact Or.inl rfl | exact Or.inr rfl | omega) (by first | (exfalso; omega) | (unfold tkD; (repeat (first | rw [if_pos (by omega)] | rw [if_neg (by omega)])); first | done | rfl)) (hW.sub [0, 1, 2, 3, 4, 5, 6, 7, 8, 9, 10, 11] rfl (by first | (exfalso; omega) | (unfold tkD; (repeat (first | rw [if_pos (by omega)] | rw [if_neg (by omega)])); first | done | rfl))) (Nat.le_of_ble_eq_true rfl) (Nat.le_of_ble_eq_true rfl) dX4_takesFurtherDigit_36
  · skip
    refine q_iconst S0 dX4_takesFurtherDigit_8 ?_
    refine lv_goto (tgt := 23) S0.1 S0.2.1 dX4_takesFurtherDigit_9 (by decide) ?_
    refine lv_istore_n (lv' := [(2, .int (iI 0)), (0, .ref ps), (1, .int (iI x))]) S0.1 S0.2.1 dX4_takesFurtherDigit_23 rfl hl (by decide) rfl (fun ls hl => ?_)
    refine lv_iload_n S0.1 S0.2.1 dX4_takesFurtherDigit_24 rfl (lv_at hl 0 rfl) ?_
    refine q_iconst S0 dX4_takesFurtherDigit_25 ?_
    refine q_icmp_lt (tgt := 35) S0 (by omega) dX4_takesFurtherDigit_26 (by decide) (fun c26 => ?_) (fun c26 => ?_)
    · skip
      refine q_iconst S0 dX4_takesFurtherDigit_35 ?_
      exact q_zret S0 hr hlocks () (trivial) (by first | exact Or.inl rfl | exact Or.inr rfl | omega) (by first | (exfalso; omega) | (unfold tkD; (repeat (first | rw [if_pos (by omega)] | rw [if_neg (by omega)])); first | done | rfl)) (hW.sub [0, 1, 2, 3, 4, 5, 6, 7, 8, 9, 10, 11] rfl (by first | (exfalso; omega) | (unfold tkD; (repeat (first | rw [if_pos (by omega)] | rw [if_neg (by omega)])); first | done | rfl))) (Nat.le_of_ble_eq_true rfl) (Nat.le_of_ble_eq_true rfl) dX4_takesFurtherDigit_36
    · skip
      refine lv_iload_n S0.1 S0.2.1 dX4_takesFurtherDigit_29 rfl (lv_at hl 0 rfl) ?_
      refine q_bipush S0 (by decide) dX4_takesFurtherDigit_30 ?_
      refine q_icmp_le (tgt := 37) S0 (by omega) dX4_takesFurtherDigit_32 (by decide) (fun c32 => ?_) (fun c32 => ?_)
      · skip
        refine lv_aload_n S0.1 S0.2.1 dX4_takesFurtherDigit_37 rfl (lv_at hl 1 rfl) ?_
        refine q_get (C := RX4) (T := TX4) (N := 4) S0 hK hW.1 hinX4 0 rfl rfl 0 (by decide) (List.mem_of_getElem? (i := 2) rfl) rfl rfl dX4_takesFurtherDigit_38 ?_
        refine lv_aload_n S0.1 S0.2.1 dX4_takesFurtherDigit_41 rfl (lv_at hl 1 rfl) ?_
        refine q_get (C := RX4) (T := TX4) (N := 4) S0 hK hW.1 hinX4 0 rfl rfl 3 (by decide) (List.mem_of_getElem? (i := 1) rfl) rfl rfl dX4_takesFurtherDigit_42 ?_
        refine lv_iload_n S0.1 S0.2.1 dX4_takesFurtherDigit_45 rfl (lv_at hl 2 rfl) ?_
        refine q_bipush S0 (by decide) dX4_takesFurtherDigit_46 ?_
        refine q_isub S0 dX4_takesFurtherDigit_48 ?_
        refine q_cV (n := 2) (rest := []) (wr := [(ps, .inr (4, [.ref b, .int (iI (pA S)), .int (iI (pO S)), .int (iI (pM S))]))]) S0 hK hA hW (c_X0_addDigit l g b k1 k2 k3 k4 k5 k6 s1 i1 s2 i2 (pB S) (pM S) (x - 48) (h1) (by omega) (by omega)) gX4_takesFurtherDigit_X0_addDigit rfl rfl rfl (by decide +kernel) ⟨Nat.le_of_ble_eq_true rfl, Nat.le_of_ble_eq_true rfl⟩ [1, 2, 3, 4, 5, 6, 7, 8, 9, 10, 11] [0] rfl rfl rfl rfl (by decide) (q_recv hK hW.1 (ci := 0) (q0 := 1) rfl rfl) (fun _ _ => trivial) (trivial) rfl rfl hl.1 (Nat.le_of_ble_eq_true rfl) ⟨Nat.le_of_ble_eq_true rfl, Nat.le_of_ble_eq_true rfl⟩ dX4_takesFurtherDigit_49 (fun _ H locs _ hW => ?_)
        have hW : gW g A s.heap H _ [(ps, .inr (4, [.ref b, .int (iI (pA S)), .int (iI (pO S)), .int (iI (pM S))])), (b, .inr (0, [.ref k1, .ref k2, .ref k3, .ref k4, .ref k5, .ref k6, .int (iI (bN (sDigit (pB S) (pM S) (x - 48)))), .int (iI (bZ (sDigit (pB S) (pM S) (x - 48)))), .ref s1, .ref s2])), (k1, gI g 40 (bK (sDigit (pB S) (pM S) (x - 48)))), (k2, gI g 40 (bU (sDigit (pB S) (pM S) (x - 48)))), (k3, gI g 40 (bL (sDigit (pB S) (pM S) (x - 48)))), (k4, gI g 40 (bV (sDigit (pB S) (pM S) (x - 48)))), (k5, gI g 40 (bD (sDigit (pB S) (pM S) (x - 48)))), (k6, gI g 40 (bE (sDigit (pB S) (pM S) (x - 48)))), (s1, .inr (3, [.ref i1, .int (iI (lP (sDigit (pB S) (pM S) (x - 48))))])), (i1, gI g 40 (lQ (sDigit (pB S) (pM S) (x - 48)))), (s2, .inr (3, [.ref i2, .int (iI (wP (sDigit (pB S) (pM S) (x - 48))))])), (i2, gI g 40 (wQ (sDigit (pB S) (pM S) (x - 48))))] := hW
        refine W.eq (g2 := F0 m 52 ls []) rfl ?_
        refine q_iconst S0 dX4_takesFurtherDigit_52 ?_
        exact q_zret S0 hr hlocks () (trivial) (by first | exact Or.inl rfl | exact Or.inr rfl | omega) (by first | (exfalso; omega) | (unfold tkD; (repeat (first | rw [if_pos (by omega)] | rw [if_neg (by omega)])); first | done | rfl)) (hW.sub [0, 1, 2, 3, 4, 5, 6, 7, 8, 9, 10, 11] rfl (by first | (exfalso; omega) | (unfold tkD; (repeat (first | rw [if_pos (by omega)] | rw [if_neg (by omega)])); first | done | rfl))) (Nat.le_of_ble_eq_true rfl) (Nat.le_of_ble_eq_true rfl) dX4_takesFurtherDigit_53
      · skip
        refine q_iconst S0 dX4_takesFurtherDigit_35 ?_
        exact q_zret S0 hr hlocks () (trivial) (by first | exact Or.inl rfl | exact Or.inr rfl | omega) (by first | (exfalso; omega) | (unfold tkD; (repeat (first | rw [if_pos (by omega)] | rw [if_neg (by omega)])); first | done | rfl)) (hW.sub [0, 1, 2, 3, 4, 5, 6, 7, 8, 9, 10, 11] rfl (by first | (exfalso; omega) | (unfold tkD; (repeat (first | rw [if_pos (by omega)] | rw [if_neg (by omega)])); first | done | rfl))) (Nat.le_of_ble_eq_true rfl) (Nat.le_of_ble_eq_true rfl) dX4_takesFurtherDigit_36
set_option maxHeartbeats 4000000 in
set_option maxRecDepth 100000 in
theorem c_X4_takesBehind (l : Launch) (g : GG) (ps b k1 k2 k3 k4 k5 k6 s1 i1 s2 i2 : Nat) (S : PT) (i x : Int) (hS : WFP i S) (hi : i ≤ 39) (hx : 0 ≤ x ∧ x ≤ 65535) : qMet l yX4_takesBehind wsX4_takesBehind ({ frames := 4, cells := 0, slots := 0, locals := 108 }) g [.ref ps, .int (iI x)] [(ps, .inr (4, [.ref b, .int (iI (pA S)), .int (iI (pO S)), .int (iI (pM S))])), (b, .inr (0, [.ref k1, .ref k2, .ref k3, .ref k4, .ref k5, .ref k6, .int (iI (bN (pB S))), .int (iI (bZ (pB S))), .ref s1, .ref s2])), (k1, gI g 40 (bK (pB S))), (k2, gI g 40 (bU (pB S))), (k3, gI g 40 (bL (pB S))), (k4, gI g 40 (bV (pB S))), (k5, gI g 40 (bD (pB S))), (k6, gI g 40 (bE (pB S))), (s1, .inr (3, [.ref i1, .int (iI (lP (pB S)))])), (i1, gI g 40 (lQ (pB S))), (s2, .inr (3, [.ref i2, .int (iI (wP (pB S)))])), (i2, gI g 40 (wQ (pB S)))] (fun _ => True) (fun _ => True) (S := Unit) (fun _ => some (.int (iI ((tkB S x).2)))) (fun _ => [(ps, .inr (4, [.ref b, .int (iI (pA ((tkB S x).1))), .int (iI (pO ((tkB S x).1))), .int (iI (pM ((tkB S x).1)))])), (b, .inr (0, [.ref k1, .ref k2, .ref k3, .ref k4, .ref k5, .ref k6, .int (iI (bN (pB ((tkB S x).1)))), .int (iI (bZ (pB ((tkB S x).1)))), .ref s1, .ref s2])), (k1, gI g 40 (bK (pB ((tkB S x).1)))), (k2, gI g 40 (bU (pB ((tkB S x).1)))), (k3, gI g 40 (bL (pB ((tkB S x).1)))), (k4, gI g 40 (bV (pB ((tkB S x).1)))), (k5, gI g 40 (bD (pB ((tkB S x).1)))), (k6, gI g 40 (bE (pB ((tkB S x).1)))), (s1, .inr (3, [.ref i1, .int (iI (lP (pB ((tkB S x).1))))])), (i1, gI g 40 (lQ (pB ((tkB S x).1)))), (s2, .inr (3, [.ref i2, .int (iI (wP (pB ((tkB S x).1))))])), (i2, gI g 40 (wQ (pB ((tkB S x).1))))]) (fun _ => True) 0 0 := by
  refine q_ofW (cc := cX4_takesBehind) (maxL := 2) (ret := (some .boolean)) (fun sz h => h.self) (by decide) rfl (Nat.le_of_ble_eq_true rfl) ?_
  intro p e s m args below meth c A ls S0 hr hlocks hnme hK hA hAe hW hD0 hX hl
  have hW : gW g A s.heap s.heap [] [(ps, .inr (4, [.ref b, .int (iI (pA S)), .int (iI (pO S)), .int (iI (pM S))])), (b, .inr (0, [.ref k1, .ref k2, .ref k3, .ref k4, .ref k5, .ref k6, .int (iI (bN (pB S))), .int (iI (bZ (pB S))), .ref s1, .ref s2])), (k1, gI g 40 (bK (pB S))), (k2, gI g 40 (bU (pB S))), (k3, gI g 40 (bL (pB S))), (k4, gI g 40 (bV (pB S))), (k5, gI g 40 (bD (pB S))), (k6, gI g 40 (bE (pB S))), (s1, .inr (3, [.ref i1, .int (iI (lP (pB S)))])), (i1, gI g 40 (lQ (pB S))), (s2, .inr (3, [.ref i2, .int (iI (wP (pB S)))])), (i2, gI g 40 (wQ (pB S)))] := hW
  have hl : lv_has ls 2 [(0, .ref ps), (1, .int (iI x))] := hl
  have hinX4 : ∀ w ∈ wsX40, w ∈ wsX4_takesBehind := fun w h => List.mem_cons_of_mem _ (List.mem_append_left _ (List.mem_append_left _ (List.mem_append_right _ h)))
  obtain ⟨h1, h2, h3⟩ := id hS
  have h10 := h1.1
  have hfn := fnO_r x
  refine lv_iload_n S0.1 S0.2.1 dX4_takesBehind_0 rfl (lv_at hl 1 rfl) ?_
  refine q_pS (n := 1) (rest := []) S0 hK (c_X4_isDigit l g x (by omega)) (subP hW.1 [] rfl) (trivial) gX4_takesBehind_X4_isDigit rfl rfl rfl (by decide +kernel) ⟨Nat.le_of_ble_eq_true rfl, Nat.le_of_ble_eq_true rfl⟩ rfl rfl hl.1 (Nat.le_of_ble_eq_true rfl) ⟨Nat.le_of_ble_eq_true rfl, Nat.le_of_ble_eq_true rfl⟩ dX4_takesBehind_1 ?_
  refine W.eq (g2 := F0 m 4 ls [.int (iI (if 48 ≤ x ∧ x ≤ 57 then (1 : Int) else 0))]) rfl ?_
  refine q_if_eqP (tgt := 13) S0 dX4_takesBehind_4 (by decide) (fun c4 => ?_) (fun c4 => ?_)
  · skip
    refine lv_aload_n S0.1 S0.2.1 dX4_takesBehind_13 rfl (lv_at hl 0 rfl) ?_
    refine q_iconst S0 dX4_takesBehind_14 ?_
    refine q_put (C := RX4) (T := TX4) (N := 4) S0 hK hW hinX4 tyX4_ok nmX4 0 rfl rfl 3 (by decide) (List.mem_of_getElem? (i := 1) rfl) rfl rfl rfl rfl (Nat.le_of_ble_eq_true rfl) dX4_takesBehind_15 (fun H locs hW => ?_)
    have hW : gW g A s.heap H _ [(ps, .inr (4, [.ref b, .int (iI (pA S)), .int (iI (pO S)), .int (iI ((-1)))])), (b, .inr (0, [.ref k1, .ref k2, .ref k3, .ref k4, .ref k5, .ref k6, .int (iI (bN (pB S))), .int (iI (bZ (pB S))), .ref s1, .ref s2])), (k1, gI g 40 (bK (pB S))), (k2, gI g 40 (bU (pB S))), (k3, gI g 40 (bL (pB S))), (k4, gI g 40 (bV (pB S))), (k5, gI g 40 (bD (pB S))), (k6, gI g 40 (bE (pB S))), (s1, .inr (3, [.ref i1, .int (iI (lP (pB S)))])), (i1, gI g 40 (lQ (pB S))), (s2, .inr (3, [.ref i2, .int (iI (wP (pB S)))])), (i2, gI g 40 (wQ (pB S)))] := hW
    refine lv_iload_n S0.1 S0.2.1 dX4_takesBehind_18 rfl (lv_at hl 1 rfl) ?_
    refine q_bipush S0 (by decide) dX4_takesBehind_19 ?_
    refine q_icmp_ne (tgt := 40) S0 (by omega) dX4_takesBehind_21 (by decide) (fun c21 => ?_) (fun c21 => ?_)
    · skip
      refine lv_iload_n S0.1 S0.2.1 dX4_takesBehind_40 rfl (lv_at hl 1 rfl) ?_
      refine q_bipush S0 (by decide) dX4_takesBehind_41 ?_
      refine q_icmp_ne (tgt := 78) S0 (by omega) dX4_takesBehind_43 (by decide) (fun c43 => ?_) (fun c43 => ?_)
      · skip
        refine lv_iload_n S0.1 S0.2.1 dX4_takesBehind_78 rfl (lv_at hl 1 rfl) ?_
        refine q_bipush S0 (by decide) dX4_takesBehind_79 ?_
        refine q_icmp_eq (tgt := 102) S0 (by omega) dX4_takesBehind_81 (by decide) (fun c81 => ?_) (fun c81 => ?_)
        · skip
          refine lv_aload_n S0.1 S0.2.1 dX4_takesBehind_102 rfl (lv_at hl 0 rfl) ?_
          refine q_get (C := RX4) (T := TX4) (N := 4) S0 hK hW.1 hinX4 0 rfl rfl 0 (by decide) (List.mem_of_getElem? (i := 4) rfl) rfl rfl dX4_takesBehind_103 ?_
          refine lv_iload_n S0.1 S0.2.1 dX4_takesBehind_106 rfl (lv_at hl 1 rfl) ?_
          have hlv : 1 ≤ lvl x := lvl_ge (by omega)
          refine q_cV (n := 1) (rest := []) (wr := [(ps, .inr (4, [.ref b, .int (iI (pA S)), .int (iI (pO S)), .int (iI ((-1)))]))]) S0 hK hA hW (c_X0_addSign l g b k1 k2 k3 k4 k5 k6 s1 i1 s2 i2 (pB S) x (h1) (by omega)) gX4_takesBehind_X0_addSign rfl rfl rfl (by decide +kernel) ⟨Nat.le_of_ble_eq_true rfl, Nat.le_of_ble_eq_true rfl⟩ [1, 2, 3, 4, 5, 6, 7, 8, 9, 10, 11] [0] rfl rfl rfl rfl (by decide) (q_recv hK hW.1 (ci := 0) (q0 := 1) rfl rfl) (fun _ _ => trivial) (trivial) rfl rfl hl.1 (Nat.le_of_ble_eq_true rfl) ⟨Nat.le_of_ble_eq_true rfl, Nat.le_of_ble_eq_true rfl⟩ dX4_takesBehind_107 (fun _ H locs _ hW => ?_)
          have hW : gW g A s.heap H _ [(ps, .inr (4, [.ref b, .int (iI (pA S)), .int (iI (pO S)), .int (iI ((-1)))])), (b, .inr (0, [.ref k1, .ref k2, .ref k3, .ref k4, .ref k5, .ref k6, .int (iI (bN (sSign (pB S) x))), .int (iI (bZ (sSign (pB S) x))), .ref s1, .ref s2])), (k1, gI g 40 (bK (sSign (pB S) x))), (k2, gI g 40 (bU (sSign (pB S) x))), (k3, gI g 40 (bL (sSign (pB S) x))), (k4, gI g 40 (bV (sSign (pB S) x))), (k5, gI g 40 (bD (sSign (pB S) x))), (k6, gI g 40 (bE (sSign (pB S) x))), (s1, .inr (3, [.ref i1, .int (iI (lP (sSign (pB S) x)))])), (i1, gI g 40 (lQ (sSign (pB S) x))), (s2, .inr (3, [.ref i2, .int (iI (wP (sSign (pB S) x)))])), (i2, gI g 40 (wQ (sSign (pB S) x)))] := hW
          refine W.eq (g2 := F0 m 110 ls []) rfl ?_
          refine lv_aload_n S0.1 S0.2.1 dX4_takesBehind_110 rfl (lv_at hl 0 rfl) ?_
          refine q_iconst S0 dX4_takesBehind_111 ?_
          refine q_put (C := RX4) (T := TX4) (N := 4) S0 hK hW hinX4 tyX4_ok nmX4 0 rfl rfl 1 (by decide) (List.mem_of_getElem? (i := 2) rfl) rfl rfl rfl rfl (Nat.le_of_ble_eq_true rfl) dX4_takesBehind_112 (fun H locs hW => ?_)
          have hW : gW g A s.heap H _ [(ps, .inr (4, [.ref b, .int (iI 0), .int (iI (pO S)), .int (iI ((-1)))])), (b, .inr (0, [.ref k1, .ref k2, .ref k3, .ref k4, .ref k5, .ref k6, .int (iI (bN (sSign (pB S) x))), .int (iI (bZ (sSign (pB S) x))), .ref s1, .ref s2])), (k1, gI g 40 (bK (sSign (pB S) x))), (k2, gI g 40 (bU (sSign (pB S) x))), (k3, gI g 40 (bL (sSign (pB S) x))), (k4, gI g 40 (bV (sSign (pB S) x))), (k5, gI g 40 (bD (sSign (pB S) x))), (k6, gI g 40 (bE (sSign (pB S) x))), (s1, .inr (3, [.ref i1, .int (iI (lP (sSign (pB S) x)))])), (i1, gI g 40 (lQ (sSign (pB S) x))), (s2, .inr (3, [.ref i2, .int (iI (wP (sSign (pB S) x)))])), (i2, gI g 40 (wQ (sSign (pB S) x)))] := hW
          refine lv_goto (tgt := 120) S0.1 S0.2.1 dX4_takesBehind_115 (by decide) ?_
          refine q_iconst S0 dX4_takesBehind_120 ?_
          exact q_zret S0 hr hlocks () (trivial) (by first | exact Or.inl rfl | exact Or.inr rfl | omega) (by first | (exfalso; omega) | (unfold tkB; (repeat (first | rw [if_pos (by omega)] | rw [if_neg (by omega)])); first | done | rfl)) (hW.sub [0, 1, 2, 3, 4, 5, 6, 7, 8, 9, 10, 11] rfl (by first | (exfalso; omega) | (unfold tkB; (repeat (first | rw [if_pos (by omega)] | rw [if_neg (by omega)])); first | done | rfl))) (Nat.le_of_ble_eq_true rfl) (Nat.le_of_ble_eq_true rfl) dX4_takesBehind_121
        · skip
          refine lv_iload_n S0.1 S0.2.1 dX4_takesBehind_84 rfl (lv_at hl 1 rfl) ?_
          refine q_bipush S0 (by decide) dX4_takesBehind_85 ?_
          refine q_icmp_eq (tgt := 102) S0 (by omega) dX4_takesBehind_87 (by decide) (fun c87 => ?_) (fun c87 => ?_)
          · skip
            refine lv_aload_n S0.1 S0.2.1 dX4_takesBehind_102 rfl (lv_at hl 0 rfl) ?_
            refine q_get (C := RX4) (T := TX4) (N := 4) S0 hK hW.1 hinX4 0 rfl rfl 0 (by decide) (List.mem_of_getElem? (i := 4) rfl) rfl rfl dX4_takesBehind_103 ?_
            refine lv_iload_n S0.1 S0.2.1 dX4_takesBehind_106 rfl (lv_at hl 1 rfl) ?_
            have hlv : 1 ≤ lvl x := lvl_ge (by omega)
            refine q_cV (n := 1) (rest := []) (wr := [(ps, .inr (4, [.ref b, .int (iI (pA S)), .int (iI (pO S)), .int (iI ((-1)))]))]) S0 hK hA hW (c_X0_addSign l g b k1 k2 k3 k4 k5 k6 s1 i1 s2 i2 (pB S) x (h1) (by omega)) gX4_takesBehind_X0_addSign rfl rfl rfl (by decide +kernel) ⟨Nat.le_of_ble_eq_true rfl, Nat.le_of_ble_eq_true rfl⟩ [1, 2, 3, 4, 5, 6, 7, 8, 9, 10, 11] [0] rfl rfl rfl rfl (by decide) (q_recv hK hW.1 (ci := 0) (q0 := 1) rfl rfl) (fun _ _ => trivial) (trivial) rfl rfl hl.1 (Nat.le_of_ble_eq_true rfl) ⟨Nat.le_of_ble_eq_true rfl, Nat.le_of_ble_eq_true rfl⟩ dX4_takesBehind_107 (fun _ H locs _ hW => ?_)
            have hW : gW g A s.heap H _ [(ps, .inr (4, [.ref b, .int (iI (pA S)), .int (iI (pO S)), .int (iI ((-1)))])), (b, .inr (0, [.ref k1, .ref k2, .ref k3, .ref k4, .ref k5, .ref k6, .int (iI (bN (sSign (pB S) x))), .int (iI (bZ (sSign (pB S) x))), .ref s1, .ref s2])), (k1, gI g 40 (bK (sSign (pB S) x))), (k2, gI g 40 (bU (sSign (pB S) x))), (k3, gI g 40 (bL (sSign (pB S) x))), (k4, gI g 40 (bV (sSign (pB S) x))), (k5, gI g 40 (bD (sSign (pB S) x))), (k6, gI g 40 (bE (sSign (pB S) x))), (s1, .inr (3, [.ref i1, .int (iI (lP (sSign (pB S) x)))])), (i1, gI g 40 (lQ (sSign (pB S) x))), (s2, .inr (3, [.ref i2, .int (iI (wP (sSign (pB S) x)))])), (i2, gI g 40 (wQ (sSign (pB S) x)))] := hW
            refine W.eq (g2 := F0 m 110 ls []) rfl ?_
            refine lv_aload_n S0.1 S0.2.1 dX4_takesBehind_110 rfl (lv_at hl 0 rfl) ?_
            refine q_iconst S0 dX4_takesBehind_111 ?_
            refine q_put (C := RX4) (T := TX4) (N := 4) S0 hK hW hinX4 tyX4_ok nmX4 0 rfl rfl 1 (by decide) (List.mem_of_getElem? (i := 2) rfl) rfl rfl rfl rfl (Nat.le_of_ble_eq_true rfl) dX4_takesBehind_112 (fun H locs hW => ?_)
            have hW : gW g A s.heap H _ [(ps, .inr (4, [.ref b, .int (iI 0), .int (iI (pO S)), .int (iI ((-1)))])), (b, .inr (0, [.ref k1, .ref k2, .ref k3, .ref k4, .ref k5, .ref k6, .int (iI (bN (sSign (pB S) x))), .int (iI (bZ (sSign (pB S) x))), .ref s1, .ref s2])), (k1, gI g 40 (bK (sSign (pB S) x))), (k2, gI g 40 (bU (sSign (pB S) x))), (k3, gI g 40 (bL (sSign (pB S) x))), (k4, gI g 40 (bV (sSign (pB S) x))), (k5, gI g 40 (bD (sSign (pB S) x))), (k6, gI g 40 (bE (sSign (pB S) x))), (s1, .inr (3, [.ref i1, .int (iI (lP (sSign (pB S) x)))])), (i1, gI g 40 (lQ (sSign (pB S) x))), (s2, .inr (3, [.ref i2, .int (iI (wP (sSign (pB S) x)))])), (i2, gI g 40 (wQ (sSign (pB S) x)))] := hW
            refine lv_goto (tgt := 120) S0.1 S0.2.1 dX4_takesBehind_115 (by decide) ?_
            refine q_iconst S0 dX4_takesBehind_120 ?_
            exact q_zret S0 hr hlocks () (trivial) (by first | exact Or.inl rfl | exact Or.inr rfl | omega) (by first | (exfalso; omega) | (unfold tkB; (repeat (first | rw [if_pos (by omega)] | rw [if_neg (by omega)])); first | done | rfl)) (hW.sub [0, 1, 2, 3, 4, 5, 6, 7, 8, 9, 10, 11] rfl (by first | (exfalso; omega) | (unfold tkB; (repeat (first | rw [if_pos (by omega)] | rw [if_neg (by omega)])); first | done | rfl))) (Nat.le_of_ble_eq_true rfl) (Nat.le_of_ble_eq_true rfl) dX4_takesBehind_121
          · skip
            refine lv_iload_n S0.1 S0.2.1 dX4_takesBehind_90 rfl (lv_at hl 1 rfl) ?_
            refine q_bipush S0 (by decide) dX4_takesBehind_91 ?_
            refine q_icmp_eq (tgt := 102) S0 (by omega) dX4_takesBehind_93 (by decide) (fun c93 => ?_) (fun c93 => ?_)
            · skip
              refine lv_aload_n S0.1 S0.2.1 dX4_takesBehind_102 rfl (lv_at hl 0 rfl) ?_
              refine q_get (C := RX4) (T := TX4) (N := 4) S0 hK hW.1 hinX4 0 rfl rfl 0 (by decide) (List.mem_of_getElem? (i := 4) rfl) rfl rfl dX4_takesBehind_103 ?_
              refine lv_iload_n S0.1 S0.2.1 dX4_takesBehind_106 rfl (lv_at hl 1 rfl) ?_
              have hlv : 1 ≤ lvl x := lvl_ge (by omega)
              refine q_cV (n := 1) (rest := []) (wr := [(ps, .inr (4, [.ref b, .int (iI (pA S)), .int (iI (pO S)), .int (iI ((-1)))]))]) S0 hK hA hW (c_X0_addSign l g b k1 k2 k3 k4 k5 k6 s1 i1 s2 i2 (pB S) x (h1) (by omega)) gX4_takesBehind_X0_addSign rfl rfl rfl (by decide +kernel) ⟨Nat.le_of_ble_eq_true rfl, Nat.le_of_ble_eq_true rfl⟩ [1, 2, 3, 4, 5, 6, 7, 8, 9, 10, 11] [0] rfl rfl rfl rfl (by decide) (q_recv hK hW.1 (ci := 0) (q0 := 1) rfl rfl) (fun _ _ => trivial) (trivial) rfl rfl hl.1 (Nat.le_of_ble_eq_true rfl) ⟨Nat.le_of_ble_eq_true rfl, Nat.le_of_ble_eq_true rfl⟩ dX4_takesBehind_107 (fun _ H locs _ hW => ?_)
              have hW : gW g A s.heap H _ [(ps, .inr (4, [.ref b, .int (iI (pA S)), .int (iI (pO S)), .int (iI ((-1)))])), (b, .inr (0, [.ref k1, .ref k2, .ref k3, .ref k4, .ref k5, .ref k6, .int (iI (bN (sSign (pB S) x))), .int (iI (bZ (sSign (pB S) x))), .ref s1, .ref s2])), (k1, gI g 40 (bK (sSign (pB S) x))), (k2, gI g 40 (bU (sSign (pB S) x))), (k3, gI g 40 (bL (sSign (pB S) x))), (k4, gI g 40 (bV (sSign (pB S) x))), (k5, gI g 40 (bD (sSign (pB S) x))), (k6, gI g 40 (bE (sSign (pB S) x))), (s1, .inr (3, [.ref i1, .int (iI (lP (sSign (pB S) x)))])), (i1, gI g 40 (lQ (sSign (pB S) x))), (s2, .inr (3, [.ref i2, .int (iI (wP (sSign (pB S) x)))])), (i2, gI g 40 (wQ (sSign (pB S) x)))] := hW
              refine W.eq (g2 := F0 m 110 ls []) rfl ?_
              refine lv_aload_n S0.1 S0.2.1 dX4_takesBehind_110 rfl (lv_at hl 0 rfl) ?_
              refine q_iconst S0 dX4_takesBehind_111 ?_
              refine q_put (C := RX4) (T := TX4) (N := 4) S0 hK hW hinX4 tyX4_ok nmX4 0 rfl rfl 1 (by decide) (List.mem_of_getElem? (i := 2) rfl) rfl rfl rfl rfl (Nat.le_of_ble_eq_true rfl) dX4_takesBehind_112 (fun H locs hW => ?_)
              have hW : gW g A s.heap H _ [(ps, .inr (4, [.ref b, .int (iI 0), .int (iI (pO S)), .int (iI ((-1)))])), (b, .inr (0, [.ref k1, .ref k2, .ref k3, .ref k4, .ref k5, .ref k6, .int (iI (bN (sSign (pB S) x))), .int (iI (bZ (sSign (pB S) x))), .ref s1, .ref s2])), (k1, gI g 40 (bK (sSign (pB S) x))), (k2, gI g 40 (bU (sSign (pB S) x))), (k3, gI g 40 (bL (sSign (pB S) x))), (k4, gI g 40 (bV (sSign (pB S) x))), (k5, gI g 40 (bD (sSign (pB S) x))), (k6, gI g 40 (bE (sSign (pB S) x))), (s1, .inr (3, [.ref i1, .int (iI (lP (sSign (pB S) x)))])), (i1, gI g 40 (lQ (sSign (pB S) x))), (s2, .inr (3, [.ref i2, .int (iI (wP (sSign (pB S) x)))])), (i2, gI g 40 (wQ (sSign (pB S) x)))] := hW
              refine lv_goto (tgt := 120) S0.1 S0.2.1 dX4_takesBehind_115 (by decide) ?_
              refine q_iconst S0 dX4_takesBehind_120 ?_
              exact q_zret S0 hr hlocks () (trivial) (by first | exact Or.inl rfl | exact Or.inr rfl | omega) (by first | (exfalso; omega) | (unfold tkB; (repeat (first | rw [if_pos (by omega)] | rw [if_neg (by omega)])); first | done | rfl)) (hW.sub [0, 1, 2, 3, 4, 5, 6, 7, 8, 9, 10, 11] rfl (by first | (exfalso; omega) | (unfold tkB; (repeat (first | rw [if_pos (by omega)] | rw [if_neg (by omega)])); first | done | rfl))) (Nat.le_of_ble_eq_true rfl) (Nat.le_of_ble_eq_true rfl) dX4_takesBehind_121
            · skip
              refine lv_iload_n S0.1 S0.2.1 dX4_takesBehind_96 rfl (lv_at hl 1 rfl) ?_
              refine q_bipush S0 (by decide) dX4_takesBehind_97 ?_
              refine q_icmp_ne (tgt := 118) S0 (by omega) dX4_takesBehind_99 (by decide) (fun c99 => ?_) (fun c99 => ?_)
              · skip
                refine q_iconst S0 dX4_takesBehind_118 ?_
                exact q_zret S0 hr hlocks () (trivial) (by first | exact Or.inl rfl | exact Or.inr rfl | omega) (by first | (exfalso; omega) | (unfold tkB; (repeat (first | rw [if_pos (by omega)] | rw [if_neg (by omega)])); first | done | rfl)) (hW.sub [0, 1, 2, 3, 4, 5, 6, 7, 8, 9, 10, 11] rfl (by first | (exfalso; omega) | (unfold tkB; (repeat (first | rw [if_pos (by omega)] | rw [if_neg (by omega)])); first | done | rfl))) (Nat.le_of_ble_eq_true rfl) (Nat.le_of_ble_eq_true rfl) dX4_takesBehind_119
              · skip
                refine lv_aload_n S0.1 S0.2.1 dX4_takesBehind_102 rfl (lv_at hl 0 rfl) ?_
                refine q_get (C := RX4) (T := TX4) (N := 4) S0 hK hW.1 hinX4 0 rfl rfl 0 (by decide) (List.mem_of_getElem? (i := 4) rfl) rfl rfl dX4_takesBehind_103 ?_
                refine lv_iload_n S0.1 S0.2.1 dX4_takesBehind_106 rfl (lv_at hl 1 rfl) ?_
                have hlv : 1 ≤ lvl x := lvl_ge (by omega)
                refine q_cV (n := 1) (rest := []) (wr := [(ps, .inr (4, [.ref b, .int (iI (pA S)), .int (iI (pO S)), .int (iI ((-1)))]))]) S0 hK hA hW (c_X0_addSign l g b k1 k2 k3 k4 k5 k6 s1 i1 s2 i2 (pB S) x (h1) (by omega)) gX4_takesBehind_X0_addSign rfl rfl rfl (by decide +kernel) ⟨Nat.le_of_ble_eq_true rfl, Nat.le_of_ble_eq_true rfl⟩ [1, 2, 3, 4, 5, 6, 7, 8, 9, 10, 11] [0] rfl rfl rfl rfl (by decide) (q_recv hK hW.1 (ci := 0) (q0 := 1) rfl rfl) (fun _ _ => trivial) (trivial) rfl rfl hl.1 (Nat.le_of_ble_eq_true rfl) ⟨Nat.le_of_ble_eq_true rfl, Nat.le_of_ble_eq_true rfl⟩ dX4_takesBehind_107 (fun _ H locs _ hW => ?_)
                have hW : gW g A s.heap H _ [(ps, .inr (4, [.ref b, .int (iI (pA S)), .int (iI (pO S)), .int (iI ((-1)))])), (b, .inr (0, [.ref k1, .ref k2, .ref k3, .ref k4, .ref k5, .ref k6, .int (iI (bN (sSign (pB S) x))), .int (iI (bZ (sSign (pB S) x))), .ref s1, .ref s2])), (k1, gI g 40 (bK (sSign (pB S) x))), (k2, gI g 40 (bU (sSign (pB S) x))), (k3, gI g 40 (bL (sSign (pB S) x))), (k4, gI g 40 (bV (sSign (pB S) x))), (k5, gI g 40 (bD (sSign (pB S) x))), (k6, gI g 40 (bE (sSign (pB S) x))), (s1, .inr (3, [.ref i1, .int (iI (lP (sSign (pB S) x)))])), (i1, gI g 40 (lQ (sSign (pB S) x))), (s2, .inr (3, [.ref i2, .int (iI (wP (sSign (pB S) x)))])), (i2, gI g 40 (wQ (sSign (pB S) x)))] := hW
                refine W.eq (g2 := F0 m 110 ls []) rfl ?_
                refine lv_aload_n S0.1 S0.2.1 dX4_takesBehind_110 rfl (lv_at hl 0 rfl) ?_
                refine q_iconst S0 dX4_takesBehind_111 ?_
                refine q_put (C := RX4) (T := TX4) (N := 4) S0 hK hW hinX4 tyX4_ok nmX4 0 rfl rfl 1 (by decide) (List.mem_of_getElem? (i := 2) rfl) rfl rfl rfl rfl (Nat.le_of_ble_eq_true rfl) dX4_takesBehind_112 (fun H locs hW => ?_)
                have hW : gW g A s.heap H _ [(ps, .inr (4, [.ref b, .int (iI 0), .int (iI (pO S)), .int (iI ((-1)))])), (b, .inr (0, [.ref k1, .ref k2, .ref k3, .ref k4, .ref k5, .ref k6, .int (iI (bN (sSign (pB S) x))), .int (iI (bZ (sSign (pB S) x))), .ref s1, .ref s2])), (k1, gI g 40 (bK (sSign (pB S) x))), (k2, gI g 40 (bU (sSign (pB S) x))), (k3, gI g 40 (bL (sSign (pB S) x))), (k4, gI g 40 (bV (sSign (pB S) x))), (k5, gI g 40 (bD (sSign (pB S) x))), (k6, gI g 40 (bE (sSign (pB S) x))), (s1, .inr (3, [.ref i1, .int (iI (lP (sSign (pB S) x)))])), (i1, gI g 40 (lQ (sSign (pB S) x))), (s2, .inr (3, [.ref i2, .int (iI (wP (sSign (pB S) x)))])), (i2, gI g 40 (wQ (sSign (pB S) x)))] := hW
                refine lv_goto (tgt := 120) S0.1 S0.2.1 dX4_takesBehind_115 (by decide) ?_
                refine q_iconst S0 dX4_takesBehind_120 ?_
                exact q_zret S0 hr hlocks () (trivial) (by first | exact Or.inl rfl | exact Or.inr rfl | omega) (by first | (exfalso; omega) | (unfold tkB; (repeat (first | rw [if_pos (by omega)] | rw [if_neg (by omega)])); first | done | rfl)) (hW.sub [0, 1, 2, 3, 4, 5, 6, 7, 8, 9, 10, 11] rfl (by first | (exfalso; omega) | (unfold tkB; (repeat (first | rw [if_pos (by omega)] | rw [if_neg (by omega)])); first | done | rfl))) (Nat.le_of_ble_eq_true rfl) (Nat.le_of_ble_eq_true rfl) dX4_takesBehind_121
      · skip
        refine lv_aload_n S0.1 S0.2.1 dX4_takesBehind_46 rfl (lv_at hl 0 rfl) ?_
        refine q_get (C := RX4) (T := TX4) (N := 4) S0 hK hW.1 hinX4 0 rfl rfl 2 (by decide) (List.mem_of_getElem? (i := 3) rfl) rfl rfl dX4_takesBehind_47 ?_
        refine q_if_le (tgt := 78) S0 (by omega) dX4_takesBehind_50 (by decide) (fun c50 => ?_) (fun c50 => ?_)
        · skip
          refine lv_iload_n S0.1 S0.2.1 dX4_takesBehind_78 rfl (lv_at hl 1 rfl) ?_
          refine q_bipush S0 (by decide) dX4_takesBehind_79 ?_
          refine q_icmp_eq (tgt := 102) S0 (by omega) dX4_takesBehind_81 (by decide) (fun c81 => ?_) (fun c81 => ?_)
          · skip
            refine lv_aload_n S0.1 S0.2.1 dX4_takesBehind_102 rfl (lv_at hl 0 rfl) ?_
            refine q_get (C := RX4) (T := TX4) (N := 4) S0 hK hW.1 hinX4 0 rfl rfl 0 (by decide) (List.mem_of_getElem? (i := 4) rfl) rfl rfl dX4_takesBehind_103 ?_
            refine lv_iload_n S0.1 S0.2.1 dX4_takesBehind_106 rfl (lv_at hl 1 rfl) ?_
            have hlv : 1 ≤ lvl x := lvl_ge (by omega)
            refine q_cV (n := 1) (rest := []) (wr := [(ps, .inr (4, [.ref b, .int (iI (pA S)), .int (iI (pO S)), .int (iI ((-1)))]))]) S0 hK hA hW (c_X0_addSign l g b k1 k2 k3 k4 k5 k6 s1 i1 s2 i2 (pB S) x (h1) (by omega)) gX4_takesBehind_X0_addSign rfl rfl rfl (by decide +kernel) ⟨Nat.le_of_ble_eq_true rfl, Nat.le_of_ble_eq_true rfl⟩ [1, 2, 3, 4, 5, 6, 7, 8, 9, 10, 11] [0] rfl rfl rfl rfl (by decide) (q_recv hK hW.1 (ci := 0) (q0 := 1) rfl rfl) (fun _ _ => trivial) (trivial) rfl rfl hl.1 (Nat.le_of_ble_eq_true rfl) ⟨Nat.le_of_ble_eq_true rfl, Nat.le_of_ble_eq_true rfl⟩ dX4_takesBehind_107 (fun _ H locs _ hW => ?_)
            have hW : gW g A s.heap H _ [(ps, .inr (4, [.ref b, .int (iI (pA S)), .int (iI (pO S)), .int (iI ((-1)))])), (b, .inr (0, [.ref k1, .ref k2, .ref k3, .ref k4, .ref k5, .ref k6, .int (iI (bN (sSign (pB S) x))), .int (iI (bZ (sSign (pB S) x))), .ref s1, .ref s2])), (k1, gI g 40 (bK (sSign (pB S) x))), (k2, gI g 40 (bU (sSign (pB S) x))), (k3, gI g 40 (bL (sSign (pB S) x))), (k4, gI g 40 (bV (sSign (pB S) x))), (k5, gI g 40 (bD (sSign (pB S) x))), (k6, gI g 40 (bE (sSign (pB S) x))), (s1, .inr (3, [.ref i1, .int (iI (lP (sSign (pB S) x)))])), (i1, gI g 40 (lQ (sSign (pB S) x))), (s2, .inr (3, [.ref i2, .int (iI (wP (sSign (pB S) x)))])), (i2, gI g 40 (wQ (sSign (pB S) x)))] := hW
            refine W.eq (g2 := F0 m 110 ls []) rfl ?_
            refine lv_aload_n S0.1 S0.2.1 dX4_takesBehind_110 rfl (lv_at hl 0 rfl) ?_
            refine q_iconst S0 dX4_takesBehind_111 ?_
            refine q_put (C := RX4) (T := TX4) (N := 4) S0 hK hW hinX4 tyX4_ok nmX4 0 rfl rfl 1 (by decide) (List.mem_of_getElem? (i := 2) rfl) rfl rfl rfl rfl (Nat.le_of_ble_eq_true rfl) dX4_takesBehind_112 (fun H locs hW => ?_)
            have hW : gW g A s.heap H _ [(ps, .inr (4, [.ref b, .int (iI 0), .int (iI (pO S)), .int (iI ((-1)))])), (b, .inr (0, [.ref k1, .ref k2, .ref k3, .ref k4, .ref k5, .ref k6, .int (iI (bN (sSign (pB S) x))), .int (iI (bZ (sSign (pB S) x))), .ref s1, .ref s2])), (k1, gI g 40 (bK (sSign (pB S) x))), (k2, gI g 40 (bU (sSign (pB S) x))), (k3, gI g 40 (bL (sSign (pB S) x))), (k4, gI g 40 (bV (sSign (pB S) x))), (k5, gI g 40 (bD (sSign (pB S) x))), (k6, gI g 40 (bE (sSign (pB S) x))), (s1, .inr (3, [.ref i1, .int (iI (lP (sSign (pB S) x)))])), (i1, gI g 40 (lQ (sSign (pB S) x))), (s2, .inr (3, [.ref i2, .int (iI (wP (sSign (pB S) x)))])), (i2, gI g 40 (wQ (sSign (pB S) x)))] := hW
            refine lv_goto (tgt := 120) S0.1 S0.2.1 dX4_takesBehind_115 (by decide) ?_
            refine q_iconst S0 dX4_takesBehind_120 ?_
            exact q_zret S0 hr hlocks () (trivial) (by first | exact Or.inl rfl | exact Or.inr rfl | omega) (by first | (exfalso; omega) | (unfold tkB; (repeat (first | rw [if_pos (by omega)] | rw [if_neg (by omega)])); first | done | rfl)) (hW.sub [0, 1, 2, 3, 4, 5, 6, 7, 8, 9, 10, 11] rfl (by first | (exfalso; omega) | (unfold tkB; (repeat (first | rw [if_pos (by omega)] | rw [if_neg (by omega)])); first | done | rfl))) (Nat.le_of_ble_eq_true rfl) (Nat.le_of_ble_eq_true rfl) dX4_takesBehind_121
          · skip
            refine lv_iload_n S0.1 S0.2.1 dX4_takesBehind_84 rfl (lv_at hl 1 rfl) ?_
            refine q_bipush S0 (by decide) dX4_takesBehind_85 ?_
            refine q_icmp_eq (tgt := 102) S0 (by omega) dX4_takesBehind_87 (by decide) (fun c87 => ?_) (fun c87 => ?_)
            · skip
              refine lv_aload_n S0.1 S0.2.1 dX4_takesBehind_102 rfl (lv_at hl 0 rfl) ?_
              refine q_get (C := RX4) (T := TX4) (N := 4) S0 hK hW.1 hinX4 0 rfl rfl 0 (by decide) (List.mem_of_getElem? (i := 4) rfl) rfl rfl dX4_takesBehind_103 ?_
              refine lv_iload_n S0.1 S0.2.1 dX4_takesBehind_106 rfl (lv_at hl 1 rfl) ?_
              have hlv : 1 ≤ lvl x := lvl_ge (by omega)
              refine q_cV (n := 1) (rest := []) (wr := [(ps, .inr (4, [.ref b, .int (iI (pA S)), .int (iI (pO S)), .int (iI ((-1)))]))]) S0 hK hA hW (c_X0_addSign l g b k1 k2 k3 k4 k5 k6 s1 i1 s2 i2 (pB S) x (h1) (by omega)) gX4_takesBehind_X0_addSign rfl rfl rfl (by decide +kernel) ⟨Nat.le_of_ble_eq_true rfl, Nat.le_of_ble_eq_true rfl⟩ [1, 2, 3, 4, 5, 6, 7, 8, 9, 10, 11] [0] rfl rfl rfl rfl (by decide) (q_recv hK hW.1 (ci := 0) (q0 := 1) rfl rfl) (fun _ _ => trivial) (trivial) rfl rfl hl.1 (Nat.le_of_ble_eq_true rfl) ⟨Nat.le_of_ble_eq_true rfl, Nat.le_of_ble_eq_true rfl⟩ dX4_takesBehind_107 (fun _ H locs _ hW => ?_)
              have hW : gW g A s.heap H _ [(ps, .inr (4, [.ref b, .int (iI (pA S)), .int (iI (pO S)), .int (iI ((-1)))])), (b, .inr (0, [.ref k1, .ref k2, .ref k3, .ref k4, .ref k5, .ref k6, .int (iI (bN (sSign (pB S) x))), .int (iI (bZ (sSign (pB S) x))), .ref s1, .ref s2])), (k1, gI g 40 (bK (sSign (pB S) x))), (k2, gI g 40 (bU (sSign (pB S) x))), (k3, gI g 40 (bL (sSign (pB S) x))), (k4, gI g 40 (bV (sSign (pB S) x))), (k5, gI g 40 (bD (sSign (pB S) x))), (k6, gI g 40 (bE (sSign (pB S) x))), (s1, .inr (3, [.ref i1, .int (iI (lP (sSign (pB S) x)))])), (i1, gI g 40 (lQ (sSign (pB S) x))), (s2, .inr (3, [.ref i2, .int (iI (wP (sSign (pB S) x)))])), (i2, gI g 40 (wQ (sSign (pB S) x)))] := hW
              refine W.eq (g2 := F0 m 110 ls []) rfl ?_
              refine lv_aload_n S0.1 S0.2.1 dX4_takesBehind_110 rfl (lv_at hl 0 rfl) ?_
              refine q_iconst S0 dX4_takesBehind_111 ?_
              refine q_put (C := RX4) (T := TX4) (N := 4) S0 hK hW hinX4 tyX4_ok nmX4 0 rfl rfl 1 (by decide) (List.mem_of_getElem? (i := 2) rfl) rfl rfl rfl rfl (Nat.le_of_ble_eq_true rfl) dX4_takesBehind_112 (fun H locs hW => ?_)
              have hW : gW g A s.heap H _ [(ps, .inr (4, [.ref b, .int (iI 0), .int (iI (pO S)), .int (iI ((-1)))])), (b, .inr (0, [.ref k1, .ref k2, .ref k3, .ref k4, .ref k5, .ref k6, .int (iI (bN (sSign (pB S) x))), .int (iI (bZ (sSign (pB S) x))), .ref s1, .ref s2])), (k1, gI g 40 (bK (sSign (pB S) x))), (k2, gI g 40 (bU (sSign (pB S) x))), (k3, gI g 40 (bL (sSign (pB S) x))), (k4, gI g 40 (bV (sSign (pB S) x))), (k5, gI g 40 (bD (sSign (pB S) x))), (k6, gI g 40 (bE (sSign (pB S) x))), (s1, .inr (3, [.ref i1, .int (iI (lP (sSign (pB S) x)))])), (i1, gI g 40 (lQ (sSign (pB S) x))), (s2, .inr (3, [.ref i2, .int (iI (wP (sSign (pB S) x)))])), (i2, gI g 40 (wQ (sSign (pB S) x)))] := hW
              refine lv_goto (tgt := 120) S0.1 S0.2.1 dX4_takesBehind_115 (by decide) ?_
              refine q_iconst S0 dX4_takesBehind_120 ?_
              exact q_zret S0 hr hlocks () (trivial) (by first | exact Or.inl rfl | exact Or.inr rfl | omega) (by first | (exfalso; omega) | (unfold tkB; (repeat (first | rw [if_pos (by omega)] | rw [if_neg (by omega)])); first | done | rfl)) (hW.sub [0, 1, 2, 3, 4, 5, 6, 7, 8, 9, 10, 11] rfl (by first | (exfalso; omega) | (unfold tkB; (repeat (first | rw [if_pos (by omega)] | rw [if_neg (by omega)])); first | done | rfl))) (Nat.le_of_ble_eq_true rfl) (Nat.le_of_ble_eq_true rfl) dX4_takesBehind_121
            · skip
              refine lv_iload_n S0.1 S0.2.1 dX4_takesBehind_90 rfl (lv_at hl 1 rfl) ?_
              refine q_bipush S0 (by decide) dX4_takesBehind_91 ?_
              refine q_icmp_eq (tgt := 102) S0 (by omega) dX4_takesBehind_93 (by decide) (fun c93 => ?_) (fun c93 => ?_)
              · skip
                refine lv_aload_n S0.1 S0.2.1 dX4_takesBehind_102 rfl (lv_at hl 0 rfl) ?_
                refine q_get (C := RX4) (T := TX4) (N := 4) S0 hK hW.1 hinX4 0 rfl rfl 0 (by decide) (List.mem_of_getElem? (i := 4) rfl) rfl rfl dX4_takesBehind_103 ?_
                refine lv_iload_n S0.1 S0.2.1 dX4_takesBehind_106 rfl (lv_at hl 1 rfl) ?_
                have hlv : 1 ≤ lvl x := lvl_ge (by omega)
                refine q_cV (n := 1) (rest := []) (wr := [(ps, .inr (4, [.ref b, .int (iI (pA S)), .int (iI (pO S)), .int (iI ((-1)))]))]) S0 hK hA hW (c_X0_addSign l g b k1 k2 k3 k4 k5 k6 s1 i1 s2 i2 (pB S) x (h1) (by omega)) gX4_takesBehind_X0_addSign rfl rfl rfl (by decide +kernel) ⟨Nat.le_of_ble_eq_true rfl, Nat.le_of_ble_eq_true rfl⟩ [1, 2, 3, 4, 5, 6, 7, 8, 9, 10, 11] [0] rfl rfl rfl rfl (by decide) (q_recv hK hW.1 (ci := 0) (q0 := 1) rfl rfl) (fun _ _ => trivial) (trivial) rfl rfl hl.1 (Nat.le_of_ble_eq_true rfl) ⟨Nat.le_of_ble_eq_true rfl, Nat.le_of_ble_eq_true rfl⟩ dX4_takesBehind_107 (fun _ H locs _ hW => ?_)
                have hW : gW g A s.heap H _ [(ps, .inr (4, [.ref b, .int (iI (pA S)), .int (iI (pO S)), .int (iI ((-1)))])), (b, .inr (0, [.ref k1, .ref k2, .ref k3, .ref k4, .ref k5, .ref k6, .int (iI (bN (sSign (pB S) x))), .int (iI (bZ (sSign (pB S) x))), .ref s1, .ref s2])), (k1, gI g 40 (bK (sSign (pB S) x))), (k2, gI g 40 (bU (sSign (pB S) x))), (k3, gI g 40 (bL (sSign (pB S) x))), (k4, gI g 40 (bV (sSign (pB S) x))), (k5, gI g 40 (bD (sSign (pB S) x))), (k6, gI g 40 (bE (sSign (pB S) x))), (s1, .inr (3, [.ref i1, .int (iI (lP (sSign (pB S) x)))])), (i1, gI g 40 (lQ (sSign (pB S) x))), (s2, .inr (3, [.ref i2, .int (iI (wP (sSign (pB S) x)))])), (i2, gI g 40 (wQ (sSign (pB S) x)))] := hW
                refine W.eq (g2 := F0 m 110 ls []) rfl ?_
                refine lv_aload_n S0.1 S0.2.1 dX4_takesBehind_110 rfl (lv_at hl 0 rfl) ?_
                refine q_iconst S0 dX4_takesBehind_111 ?_
                refine q_put (C := RX4) (T := TX4) (N := 4) S0 hK hW hinX4 tyX4_ok nmX4 0 rfl rfl 1 (by decide) (List.mem_of_getElem? (i := 2) rfl) rfl rfl rfl rfl (Nat.le_of_ble_eq_true rfl) dX4_takesBehind_112 (fun H locs hW => ?_)
                have hW : gW g A s.heap H _ [(ps, .inr (4, [.ref b, .int (iI 0), .int (iI (pO S)), .int (iI ((-1)))])), (b, .inr (0, [.ref k1, .ref k2, .ref k3, .ref k4, .ref k5, .ref k6, .int (iI (bN (sSign (pB S) x))), .int (iI (bZ (sSign (pB S) x))), .ref s1, .ref s2])), (k1, gI g 40 (bK (sSign (pB S) x))), (k2, gI g 40 (bU (sSign (pB S) x))), (k3, gI g 40 (bL (sSign (pB S) x))), (k4, gI g 40 (bV (sSign (pB S) x))), (k5, gI g 40 (bD (sSign (pB S) x))), (k6, gI g 40 (bE (sSign (pB S) x))), (s1, .inr (3, [.ref i1, .int (iI (lP (sSign (pB S) x)))])), (i1, gI g 40 (lQ (sSign (pB S) x))), (s2, .inr (3, [.ref i2, .int (iI (wP (sSign (pB S) x)))])), (i2, gI g 40 (wQ (sSign (pB S) x)))] := hW
                refine lv_goto (tgt := 120) S0.1 S0.2.1 dX4_takesBehind_115 (by decide) ?_
                refine q_iconst S0 dX4_takesBehind_120 ?_
                exact q_zret S0 hr hlocks () (trivial) (by first | exact Or.inl rfl | exact Or.inr rfl | omega) (by first | (exfalso; omega) | (unfold tkB; (repeat (first | rw [if_pos (by omega)] | rw [if_neg (by omega)])); first | done | rfl)) (hW.sub [0, 1, 2, 3, 4, 5, 6, 7, 8, 9, 10, 11] rfl (by first | (exfalso; omega) | (unfold tkB; (repeat (first | rw [if_pos (by omega)] | rw [if_neg (by omega)])); first | done | rfl))) (Nat.le_of_ble_eq_true rfl) (Nat.le_of_ble_eq_true rfl) dX4_takesBehind_121
              · skip
                refine lv_iload_n S0.1 S0.2.1 dX4_takesBehind_96 rfl (lv_at hl 1 rfl) ?_
                refine q_bipush S0 (by decide) dX4_takesBehind_97 ?_
                refine q_icmp_ne (tgt := 118) S0 (by omega) dX4_takesBehind_99 (by decide) (fun c99 => ?_) (fun c99 => ?_)
                · skip
                  refine q_iconst S0 dX4_takesBehind_118 ?_
                  exact q_zret S0 hr hlocks () (trivial) (by first | exact Or.inl rfl | exact Or.inr rfl | omega) (by first | (exfalso; omega) | (unfold tkB; (repeat (first | rw [if_pos (by omega)] | rw [if_neg (by omega)])); first | done | rfl)) (hW.sub [0, 1, 2, 3, 4, 5, 6, 7, 8, 9, 10, 11] rfl (by first | (exfalso; omega) | (unfold tkB; (repeat (first | rw [if_pos (by omega)] | rw [if_neg (by omega)])); first | done | rfl))) (Nat.le_of_ble_eq_true rfl) (Nat.le_of_ble_eq_true rfl) dX4_takesBehind_119
                · skip
                  refine lv_aload_n S0.1 S0.2.1 dX4_takesBehind_102 rfl (lv_at hl 0 rfl) ?_
                  refine q_get (C := RX4) (T := TX4) (N := 4) S0 hK hW.1 hinX4 0 rfl rfl 0 (by decide) (List.mem_of_getElem? (i := 4) rfl) rfl rfl dX4_takesBehind_103 ?_
                  refine lv_iload_n S0.1 S0.2.1 dX4_takesBehind_106 rfl (lv_at hl 1 rfl) ?_
                  have hlv : 1 ≤ lvl x := lvl_ge (by omega)
                  refine q_cV (n := 1) (rest := []) (wr := [(ps, .inr (4, [.ref b, .int (iI (pA S)), .int (iI (pO S)), .int (iI ((-1)))]))]) S0 hK hA hW (c_X0_addSign l g b k1 k2 k3 k4 k5 k6 s1 i1 s2 i2 (pB S) x (h1) (by omega)) gX4_takesBehind_X0_addSign rfl rfl rfl (by decide +kernel) ⟨Nat.le_of_ble_eq_true rfl, Nat.le_of_ble_eq_true rfl⟩ [1, 2, 3, 4, 5, 6, 7, 8, 9, 10, 11] [0] rfl rfl rfl rfl (by decide) (q_recv hK hW.1 (ci := 0) (q0 := 1) rfl rfl) (fun _ _ => trivial) (trivial) rfl rfl hl.1 (Nat.le_of_ble_eq_true rfl) ⟨Nat.le_of_ble_eq_true rfl, Nat.le_of_ble_eq_true rfl⟩ dX4_takesBehind_107 (fun _ H locs _ hW => ?_)
                  have hW : gW g A s.heap H _ [(ps, .inr (4, [.ref b, .int (iI (pA S)), .int (iI (pO S)), .int (iI ((-1)))])), (b, .inr (0, [.ref k1, .ref k2, .ref k3, .ref k4, .ref k5, .ref k6, .int (iI (bN (sSign (pB S) x))), .int (iI (bZ (sSign (pB S) x))), .ref s1, .ref s2])), (k1, gI g 40 (bK (sSign (pB S) x))), (k2, gI g 40 (bU (sSign (pB S) x))), (k3, gI g 40 (bL (sSign (pB S) x))), (k4, gI g 40 (bV (sSign (pB S) x))), (k5, gI g 40 (bD (sSign (pB S) x))), (k6, gI g 40 (bE (sSign (pB S) x))), (s1, .inr (3, [.ref i1, .int (iI (lP (sSign (pB S) x)))])), (i1, gI g 40 (lQ (sSign (pB S) x))), (s2, .inr (3, [.ref i2, .int (iI (wP (sSign (pB S) x)))])), (i2, gI g 40 (wQ (sSign (pB S) x)))] := hW
                  refine W.eq (g2 := F0 m 110 ls []) rfl ?_
                  refine lv_aload_n S0.1 S0.2.1 dX4_takesBehind_110 rfl (lv_at hl 0 rfl) ?_
                  refine q_iconst S0 dX4_takesBehind_111 ?_
                  refine q_put (C := RX4) (T := TX4) (N := 4) S0 hK hW hinX4 tyX4_ok nmX4 0 rfl rfl 1 (by decide) (List.mem_of_getElem? (i := 2) rfl) rfl rfl rfl rfl (Nat.le_of_ble_eq_true rfl) dX4_takesBehind_112 (fun H locs hW => ?_)
                  have hW : gW g A s.heap H _ [(ps, .inr (4, [.ref b, .int (iI 0), .int (iI (pO S)), .int (iI ((-1)))])), (b, .inr (0, [.ref k1, .ref k2, .ref k3, .ref k4, .ref k5, .ref k6, .int (iI (bN (sSign (pB S) x))), .int (iI (bZ (sSign (pB S) x))), .ref s1, .ref s2])), (k1, gI g 40 (bK (sSign (pB S) x))), (k2, gI g 40 (bU (sSign (pB S) x))), (k3, gI g 40 (bL (sSign (pB S) x))), (k4, gI g 40 (bV (sSign (pB S) x))), (k5, gI g 40 (bD (sSign (pB S) x))), (k6, gI g 40 (bE (sSign (pB S) x))), (s1, .inr (3, [.ref i1, .int (iI (lP (sSign (pB S) x)))])), (i1, gI g 40 (lQ (sSign (pB S) x))), (s2, .inr (3, [.ref i2, .int (iI (wP (sSign (pB S) x)))])), (i2, gI g 40 (wQ (sSign (pB S) x)))] := hW
                  refine lv_goto (tgt := 120) S0.1 S0.2.1 dX4_takesBehind_115 (by decide) ?_
                  refine q_iconst S0 dX4_takesBehind_120 ?_
                  exact q_zret S0 hr hlocks () (trivial) (by first | exact Or.inl rfl | exact Or.inr rfl | omega) (by first | (exfalso; omega) | (unfold tkB; (repeat (first | rw [if_pos (by omega)] | rw [if_neg (by omega)])); first | done | rfl)) (hW.sub [0, 1, 2, 3, 4, 5, 6, 7, 8, 9, 10, 11] rfl (by first | (exfalso; omega) | (unfold tkB; (repeat (first | rw [if_pos (by omega)] | rw [if_neg (by omega)])); first | done | rfl))) (Nat.le_of_ble_eq_true rfl) (Nat.le_of_ble_eq_true rfl) dX4_takesBehind_121
        · skip
          refine lv_aload_n S0.1 S0.2.1 dX4_takesBehind_53 rfl (lv_at hl 0 rfl) ?_
          refine q_get (C := RX4) (T := TX4) (N := 4) S0 hK hW.1 hinX4 0 rfl rfl 0 (by decide) (List.mem_of_getElem? (i := 4) rfl) rfl rfl dX4_takesBehind_54 ?_
          refine q_cV (n := 0) (rest := []) (wr := [(ps, .inr (4, [.ref b, .int (iI (pA S)), .int (iI (pO S)), .int (iI ((-1)))]))]) S0 hK hA hW (c_X0_close l g b k1 k2 k3 k4 k5 k6 s1 i1 s2 i2 (pB S) (h1)) gX4_takesBehind_X0_close rfl rfl rfl (by decide +kernel) ⟨Nat.le_of_ble_eq_true rfl, Nat.le_of_ble_eq_true rfl⟩ [1, 2, 3, 4, 5, 6, 7, 8, 9, 10, 11] [0] rfl rfl rfl rfl (by decide) (q_recv hK hW.1 (ci := 0) (q0 := 1) rfl rfl) (fun _ _ => trivial) (trivial) rfl rfl hl.1 (Nat.le_of_ble_eq_true rfl) ⟨Nat.le_of_ble_eq_true rfl, Nat.le_of_ble_eq_true rfl⟩ dX4_takesBehind_57 (fun _ H locs _ hW => ?_)
          have hW : gW g A s.heap H _ [(ps, .inr (4, [.ref b, .int (iI (pA S)), .int (iI (pO S)), .int (iI ((-1)))])), (b, .inr (0, [.ref k1, .ref k2, .ref k3, .ref k4, .ref k5, .ref k6, .int (iI (bN (sClose (pB S)))), .int (iI (bZ (sClose (pB S)))), .ref s1, .ref s2])), (k1, gI g 40 (bK (sClose (pB S)))), (k2, gI g 40 (bU (sClose (pB S)))), (k3, gI g 40 (bL (sClose (pB S)))), (k4, gI g 40 (bV (sClose (pB S)))), (k5, gI g 40 (bD (sClose (pB S)))), (k6, gI g 40 (bE (sClose (pB S)))), (s1, .inr (3, [.ref i1, .int (iI (lP (sClose (pB S))))])), (i1, gI g 40 (lQ (sClose (pB S)))), (s2, .inr (3, [.ref i2, .int (iI (wP (sClose (pB S))))])), (i2, gI g 40 (wQ (sClose (pB S))))] := hW
          refine W.eq (g2 := F0 m 60 ls []) rfl ?_
          refine lv_aload_n S0.1 S0.2.1 dX4_takesBehind_60 rfl (lv_at hl 0 rfl) ?_
          refine lv_dup S0.1 S0.2.1 dX4_takesBehind_61 rfl ?_
          refine q_get (C := RX4) (T := TX4) (N := 4) S0 hK hW.1 hinX4 0 rfl rfl 2 (by decide) (List.mem_of_getElem? (i := 3) rfl) rfl rfl dX4_takesBehind_62 ?_
          refine q_iconst S0 dX4_takesBehind_65 ?_
          refine q_isub S0 dX4_takesBehind_66 ?_
          refine q_put (C := RX4) (T := TX4) (N := 4) S0 hK hW hinX4 tyX4_ok nmX4 0 rfl rfl 2 (by decide) (List.mem_of_getElem? (i := 3) rfl) rfl rfl rfl rfl (Nat.le_of_ble_eq_true rfl) dX4_takesBehind_67 (fun H locs hW => ?_)
          have hW : gW g A s.heap H _ [(ps, .inr (4, [.ref b, .int (iI (pA S)), .int (iI ((pO S) - 1)), .int (iI ((-1)))])), (b, .inr (0, [.ref k1, .ref k2, .ref k3, .ref k4, .ref k5, .ref k6, .int (iI (bN (sClose (pB S)))), .int (iI (bZ (sClose (pB S)))), .ref s1, .ref s2])), (k1, gI g 40 (bK (sClose (pB S)))), (k2, gI g 40 (bU (sClose (pB S)))), (k3, gI g 40 (bL (sClose (pB S)))), (k4, gI g 40 (bV (sClose (pB S)))), (k5, gI g 40 (bD (sClose (pB S)))), (k6, gI g 40 (bE (sClose (pB S)))), (s1, .inr (3, [.ref i1, .int (iI (lP (sClose (pB S))))])), (i1, gI g 40 (lQ (sClose (pB S)))), (s2, .inr (3, [.ref i2, .int (iI (wP (sClose (pB S))))])), (i2, gI g 40 (wQ (sClose (pB S))))] := hW
          refine lv_aload_n S0.1 S0.2.1 dX4_takesBehind_70 rfl (lv_at hl 0 rfl) ?_
          refine q_iconst S0 dX4_takesBehind_71 ?_
          refine q_put (C := RX4) (T := TX4) (N := 4) S0 hK hW hinX4 tyX4_ok nmX4 0 rfl rfl 1 (by decide) (List.mem_of_getElem? (i := 2) rfl) rfl rfl rfl rfl (Nat.le_of_ble_eq_true rfl) dX4_takesBehind_72 (fun H locs hW => ?_)
          have hW : gW g A s.heap H _ [(ps, .inr (4, [.ref b, .int (iI 3), .int (iI ((pO S) - 1)), .int (iI ((-1)))])), (b, .inr (0, [.ref k1, .ref k2, .ref k3, .ref k4, .ref k5, .ref k6, .int (iI (bN (sClose (pB S)))), .int (iI (bZ (sClose (pB S)))), .ref s1, .ref s2])), (k1, gI g 40 (bK (sClose (pB S)))), (k2, gI g 40 (bU (sClose (pB S)))), (k3, gI g 40 (bL (sClose (pB S)))), (k4, gI g 40 (bV (sClose (pB S)))), (k5, gI g 40 (bD (sClose (pB S)))), (k6, gI g 40 (bE (sClose (pB S)))), (s1, .inr (3, [.ref i1, .int (iI (lP (sClose (pB S))))])), (i1, gI g 40 (lQ (sClose (pB S)))), (s2, .inr (3, [.ref i2, .int (iI (wP (sClose (pB S))))])), (i2, gI g 40 (wQ (sClose (pB S))))] := hW
          refine lv_goto (tgt := 120) S0.1 S0.2.1 dX4_takesBehind_75 (by decide) ?_
          refine q_iconst S0 dX4_takesBehind_120 ?_
          exact q_zret S0 hr hlocks () (trivial) (by first | exact Or.inl rfl | exact Or.inr rfl | omega) (by first | (exfalso; omega) | (unfold tkB; (repeat (first | rw [if_pos (by omega)] | rw [if_neg (by omega)])); first | done | rfl)) (hW.sub [0, 1, 2, 3, 4, 5, 6, 7, 8, 9, 10, 11] rfl (by first | (exfalso; omega) | (unfold tkB; (repeat (first | rw [if_pos (by omega)] | rw [if_neg (by omega)])); first | done | rfl))) (Nat.le_of_ble_eq_true rfl) (Nat.le_of_ble_eq_true rfl) dX4_takesBehind_121
    · skip
      refine lv_aload_n S0.1 S0.2.1 dX4_takesBehind_24 rfl (lv_at hl 0 rfl) ?_
      refine q_get (C := RX4) (T := TX4) (N := 4) S0 hK hW.1 hinX4 0 rfl rfl 1 (by decide) (List.mem_of_getElem? (i := 2) rfl) rfl rfl dX4_takesBehind_25 ?_
      refine q_iconst S0 dX4_takesBehind_28 ?_
      refine q_icmp_ne (tgt := 40) S0 (by omega) dX4_takesBehind_29 (by decide) (fun c29 => ?_) (fun c29 => ?_)
      · skip
        refine lv_iload_n S0.1 S0.2.1 dX4_takesBehind_40 rfl (lv_at hl 1 rfl) ?_
        refine q_bipush S0 (by decide) dX4_takesBehind_41 ?_
        refine q_icmp_ne (tgt := 78) S0 (by omega) dX4_takesBehind_43 (by decide) (fun c43 => ?_) (fun c43 => ?_)
        · skip
          refine lv_iload_n S0.1 S0.2.1 dX4_takesBehind_78 rfl (lv_at hl 1 rfl) ?_
          refine q_bipush S0 (by decide) dX4_takesBehind_79 ?_
          refine q_icmp_eq (tgt := 102) S0 (by omega) dX4_takesBehind_81 (by decide) (fun c81 => ?_) (fun c81 => ?_)
          · skip
            refine lv_aload_n S0.1 S0.2.1 dX4_takesBehind_102 rfl (lv_at hl 0 rfl) ?_
            refine q_get (C := RX4) (T := TX4) (N := 4) S0 hK hW.1 hinX4 0 rfl rfl 0 (by decide) (List.mem_of_getElem? (i := 4) rfl) rfl rfl dX4_takesBehind_103 ?_
            refine lv_iload_n S0.1 S0.2.1 dX4_takesBehind_106 rfl (lv_at hl 1 rfl) ?_
            have hlv : 1 ≤ lvl x := lvl_ge (by omega)
            refine q_cV (n := 1) (rest := []) (wr := [(ps, .inr (4, [.ref b, .int (iI (pA S)), .int (iI (pO S)), .int (iI ((-1)))]))]) S0 hK hA hW (c_X0_addSign l g b k1 k2 k3 k4 k5 k6 s1 i1 s2 i2 (pB S) x (h1) (by omega)) gX4_takesBehind_X0_addSign rfl rfl rfl (by decide +kernel) ⟨Nat.le_of_ble_eq_true rfl, Nat.le_of_ble_eq_true rfl⟩ [1, 2, 3, 4, 5, 6, 7, 8, 9, 10, 11] [0] rfl rfl rfl rfl (by decide) (q_recv hK hW.1 (ci := 0) (q0 := 1) rfl rfl) (fun _ _ => trivial) (trivial) rfl rfl hl.1 (Nat.le_of_ble_eq_true rfl) ⟨Nat.le_of_ble_eq_true rfl, Nat.le_of_ble_eq_true rfl⟩ dX4_takesBehind_107 (fun _ H locs _ hW => ?_)
            have hW : gW g A s.heap H _ [(ps, .inr (4, [.ref b, .int (iI (pA S)), .int (iI (pO S)), .int (iI ((-1)))])), (b, .inr (0, [.ref k1, .ref k2, .ref k3, .ref k4, .ref k5, .ref k6, .int (iI (bN (sSign (pB S) x))), .int (iI (bZ (sSign (pB S) x))), .ref s1, .ref s2])), (k1, gI g 40 (bK (sSign (pB S) x))), (k2, gI g 40 (bU (sSign (pB S) x))), (k3, gI g 40 (bL (sSign (pB S) x))), (k4, gI g 40 (bV (sSign (pB S) x))), (k5, gI g 40 (bD (sSign (pB S) x))), (k6, gI g 40 (bE (sSign (pB S) x))), (s1, .inr (3, [.ref i1, .int (iI (lP (sSign (pB S) x)))])), (i1, gI g 40 (lQ (sSign (pB S) x))), (s2, .inr (3, [.ref i2, .int (iI (wP (sSign (pB S) x)))])), (i2, gI g 40 (wQ (sSign (pB S) x)))] := hW
            refine W.eq (g2 := F0 m 110 ls []) rfl ?_
            refine lv_aload_n S0.1 S0.2.1 dX4_takesBehind_110 rfl (lv_at hl 0 rfl) ?_
            refine q_iconst S0 dX4_takesBehind_111 ?_
            refine q_put (C := RX4) (T := TX4) (N := 4) S0 hK hW hinX4 tyX4_ok nmX4 0 rfl rfl 1 (by decide) (List.mem_of_getElem? (i := 2) rfl) rfl rfl rfl rfl (Nat.le_of_ble_eq_true rfl) dX4_takesBehind_112 (fun H locs hW => ?_)
            have hW : gW g A s.heap H _ [(ps, .inr (4, [.ref b, .int (iI 0), .int (iI (pO S)), .int (iI ((-1)))])), (b, .inr (0, [.ref k1, .ref k2, .ref k3, .ref k4, .ref k5, .ref k6, .int (iI (bN (sSign (pB S) x))), .int (iI (bZ (sSign (pB S) x))), .ref s1, .ref s2])), (k1, gI g 40 (bK (sSign (pB S) x))), (k2, gI g 40 (bU (sSign (pB S) x))), (k3, gI g 40 (bL (sSign (pB S) x))), (k4, gI g 40 (bV (sSign (pB S) x))), (k5, gI g 40 (bD (sSign (pB S) x))), (k6, gI g 40 (bE (sSign (pB S) x))), (s1, .inr (3, [.ref i1, .int (iI (lP (sSign (pB S) x)))])), (i1, gI g 40 (lQ (sSign (pB S) x))), (s2, .inr (3, [.ref i2, .int (iI (wP (sSign (pB S) x)))])), (i2, gI g 40 (wQ (sSign (pB S) x)))] := hW
            refine lv_goto (tgt := 120) S0.1 S0.2.1 dX4_takesBehind_115 (by decide) ?_
            refine q_iconst S0 dX4_takesBehind_120 ?_
            exact q_zret S0 hr hlocks () (trivial) (by first | exact Or.inl rfl | exact Or.inr rfl | omega) (by first | (exfalso; omega) | (unfold tkB; (repeat (first | rw [if_pos (by omega)] | rw [if_neg (by omega)])); first | done | rfl)) (hW.sub [0, 1, 2, 3, 4, 5, 6, 7, 8, 9, 10, 11] rfl (by first | (exfalso; omega) | (unfold tkB; (repeat (first | rw [if_pos (by omega)] | rw [if_neg (by omega)])); first | done | rfl))) (Nat.le_of_ble_eq_true rfl) (Nat.le_of_ble_eq_true rfl) dX4_takesBehind_121
          · skip
            refine lv_iload_n S0.1 S0.2.1 dX4_takesBehind_84 rfl (lv_at hl 1 rfl) ?_
            refine q_bipush S0 (by decide) dX4_takesBehind_85 ?_
            refine q_icmp_eq (tgt := 102) S0 (by omega) dX4_takesBehind_87 (by decide) (fun c87 => ?_) (fun c87 => ?_)
            · skip
              refine lv_aload_n S0.1 S0.2.1 dX4_takesBehind_102 rfl (lv_at hl 0 rfl) ?_
              refine q_get (C := RX4) (T := TX4) (N := 4) S0 hK hW.1 hinX4 0 rfl rfl 0 (by decide) (List.mem_of_getElem? (i := 4) rfl) rfl rfl dX4_takesBehind_103 ?_
              refine lv_iload_n S0.1 S0.2.1 dX4_takesBehind_106 rfl (lv_at hl 1 rfl) ?_
              have hlv : 1 ≤ lvl x := lvl_ge (by omega)
              refine q_cV (n := 1) (rest := []) (wr := [(ps, .inr (4, [.ref b, .int (iI (pA S)), .int (iI (pO S)), .int (iI ((-1)))]))]) S0 hK hA hW (c_X0_addSign l g b k1 k2 k3 k4 k5 k6 s1 i1 s2 i2 (pB S) x (h1) (by omega)) gX4_takesBehind_X0_addSign rfl rfl rfl (by decide +kernel) ⟨Nat.le_of_ble_eq_true rfl, Nat.le_of_ble_eq_true rfl⟩ [1, 2, 3, 4, 5, 6, 7, 8, 9, 10, 11] [0] rfl rfl rfl rfl (by decide) (q_recv hK hW.1 (ci := 0) (q0 := 1) rfl rfl) (fun _ _ => trivial) (trivial) rfl rfl hl.1 (Nat.le_of_ble_eq_true rfl) ⟨Nat.le_of_ble_eq_true rfl, Nat.le_of_ble_eq_true rfl⟩ dX4_takesBehind_107 (fun _ H locs _ hW => ?_)
              have hW : gW g A s.heap H _ [(ps, .inr (4, [.ref b, .int (iI (pA S)), .int (iI (pO S)), .int (iI ((-1)))])), (b, .inr (0, [.ref k1, .ref k2, .ref k3, .ref k4, .ref k5, .ref k6, .int (iI (bN (sSign (pB S) x))), .int (iI (bZ (sSign (pB S) x))), .ref s1, .ref s2])), (k1, gI g 40 (bK (sSign (pB S) x))), (k2, gI g 40 (bU (sSign (pB S) x))), (k3, gI g 40 (bL (sSign (pB S) x))), (k4, gI g 40 (bV (sSign (pB S) x))), (k5, gI g 40 (bD (sSign (pB S) x))), (k6, gI g 40 (bE (sSign (pB S) x))), (s1, .inr (3, [.ref i1, .int (iI (lP (sSign (pB S) x)))])), (i1, gI g 40 (lQ (sSign (pB S) x))), (s2, .inr (3, [.ref i2, .int (iI (wP (sSign (pB S) x)))])), (i2, gI g 40 (wQ (sSign (pB S) x)))] := hW
              refine W.eq (g2 := F0 m 110 ls []) rfl ?_
              refine lv_aload_n S0.1 S0.2.1 dX4_takesBehind_110 rfl (lv_at hl 0 rfl) ?_
              refine q_iconst S0 dX4_takesBehind_111 ?_
              refine q_put (C := RX4) (T := TX4) (N := 4) S0 hK hW hinX4 tyX4_ok nmX4 0 rfl rfl 1 (by decide) (List.mem_of_getElem? (i := 2) rfl) rfl rfl rfl rfl (Nat.le_of_ble_eq_true rfl) dX4_takesBehind_112 (fun H locs hW => ?_)
              have hW : gW g A s.heap H _ [(ps, .inr (4, [.ref b, .int (iI 0), .int (iI (pO S)), .int (iI ((-1)))])), (b, .inr (0, [.ref k1, .ref k2, .ref k3, .ref k4, .ref k5, .ref k6, .int (iI (bN (sSign (pB S) x))), .int (iI (bZ (sSign (pB S) x))), .ref s1, .ref s2])), (k1, gI g 40 (bK (sSign (pB S) x))), (k2, gI g 40 (bU (sSign (pB S) x))), (k3, gI g 40 (bL (sSign (pB S) x))), (k4, gI g 40 (bV (sSign (pB S) x))), (k5, gI g 40 (bD (sSign (pB S) x))), (k6, gI g 40 (bE (sSign (pB S) x))), (s1, .inr (3, [.ref i1, .int (iI (lP (sSign (pB S) x)))])), (i1, gI g 40 (lQ (sSign (pB S) x))), (s2, .inr (3, [.ref i2, .int (iI (wP (sSign (pB S) x)))])), (i2, gI g 40 (wQ (sSign (pB S) x)))] := hW
              refine lv_goto (tgt := 120) S0.1 S0.2.1 dX4_takesBehind_115 (by decide) ?_
              refine q_iconst S0 dX4_takesBehind_120 ?_
              exact q_zret S0 hr hlocks () (trivial) (by first | exact Or.inl rfl | exact Or.inr rfl | omega) (by first | (exfalso; omega) | (unfold tkB; (repeat (first | rw [if_pos (by omega)] | rw [if_neg (by omega)])); first | done | rfl)) (hW.sub [0, 1, 2, 3, 4, 5, 6, 7, 8, 9, 10, 11] rfl (by first | (exfalso; omega) | (unfold tkB; (repeat (first | rw [if_pos (by omega)] | rw [if_neg (by omega)])); first | done | rfl))) (Nat.le_of_ble_eq_true rfl) (Nat.le_of_ble_eq_true rfl) dX4_takesBehind_121
            · skip
              refine lv_iload_n S0.1 S0.2.1 dX4_takesBehind_90 rfl (lv_at hl 1 rfl) ?_
              refine q_bipush S0 (by decide) dX4_takesBehind_91 ?_
              refine q_icmp_eq (tgt := 102) S0 (by omega) dX4_takesBehind_93 (by decide) (fun c93 => ?_) (fun c93 => ?_)
              · skip
                refine lv_aload_n S0.1 S0.2.1 dX4_takesBehind_102 rfl (lv_at hl 0 rfl) ?_
                refine q_get (C := RX4) (T := TX4) (N := 4) S0 hK hW.1 hinX4 0 rfl rfl 0 (by decide) (List.mem_of_getElem? (i := 4) rfl) rfl rfl dX4_takesBehind_103 ?_
                refine lv_iload_n S0.1 S0.2.1 dX4_takesBehind_106 rfl (lv_at hl 1 rfl) ?_
                have hlv : 1 ≤ lvl x := lvl_ge (by omega)
                refine q_cV (n := 1) (rest := []) (wr := [(ps, .inr (4, [.ref b, .int (iI (pA S)), .int (iI (pO S)), .int (iI ((-1)))]))]) S0 hK hA hW (c_X0_addSign l g b k1 k2 k3 k4 k5 k6 s1 i1 s2 i2 (pB S) x (h1) (by omega)) gX4_takesBehind_X0_addSign rfl rfl rfl (by decide +kernel) ⟨Nat.le_of_ble_eq_true rfl, Nat.le_of_ble_eq_true rfl⟩ [1, 2, 3, 4, 5, 6, 7, 8, 9, 10, 11] [0] rfl rfl rfl rfl (by decide) (q_recv hK hW.1 (ci := 0) (q0 := 1) rfl rfl) (fun _ _ => trivial) (trivial) rfl rfl hl.1 (Nat.le_of_ble_eq_true rfl) ⟨Nat.le_of_ble_eq_true rfl, Nat.le_of_ble_eq_true rfl⟩ dX4_takesBehind_107 (fun _ H locs _ hW => ?_)
                have hW : gW g A s.heap H _ [(ps, .inr (4, [.ref b, .int (iI (pA S)), .int (iI (pO S)), .int (iI ((-1)))])), (b, .inr (0, [.ref k1, .ref k2, .ref k3, .ref k4, .ref k5, .ref k6, .int (iI (bN (sSign (pB S) x))), .int (iI (bZ (sSign (pB S) x))), .ref s1, .ref s2])), (k1, gI g 40 (bK (sSign (pB S) x))), (k2, gI g 40 (bU (sSign (pB S) x))), (k3, gI g 40 (bL (sSign (pB S) x))), (k4, gI g 40 (bV (sSign (pB S) x))), (k5, gI g 40 (bD (sSign (pB S) x))), (k6, gI g 40 (bE (sSign (pB S) x))), (s1, .inr (3, [.ref i1, .int (iI (lP (sSign (pB S) x)))])), (i1, gI g 40 (lQ (sSign (pB S) x))), (s2, .inr (3, [.ref i2, .int (iI (wP (sSign (pB S) x)))])), (i2, gI g 40 (wQ (sSign (pB S) x)))] := hW
                refine W.eq (g2 := F0 m 110 ls []) rfl ?_
                refine lv_aload_n S0.1 S0.2.1 dX4_takesBehind_110 rfl (lv_at hl 0 rfl) ?_
                refine q_iconst S0 dX4_takesBehind_111 ?_
                refine q_put (C := RX4) (T := TX4) (N := 4) S0 hK hW hinX4 tyX4_ok nmX4 0 rfl rfl 1 (by decide) (List.mem_of_getElem? (i := 2) rfl) rfl rfl rfl rfl (Nat.le_of_ble_eq_true rfl) dX4_takesBehind_112 (fun H locs hW => ?_)
                have hW : gW g A s.heap H _ [(ps, .inr (4, [.ref b, .int (iI 0), .int (iI (pO S)), .int (iI ((-1)))])), (b, .inr (0, [.ref k1, .ref k2, .ref k3, .ref k4, .ref k5, .ref k6, .int (iI (bN (sSign (pB S) x))), .int (iI (bZ (sSign (pB S) x))), .ref s1, .ref s2])), (k1, gI g 40 (bK (sSign (pB S) x))), (k2, gI g 40 (bU (sSign (pB S) x))), (k3, gI g 40 (bL (sSign (pB S) x))), (k4, gI g 40 (bV (sSign (pB S) x))), (k5, gI g 40 (bD (sSign (pB S) x))), (k6, gI g 40 (bE (sSign (pB S) x))), (s1, .inr (3, [.ref i1, .int (iI (lP (sSign (pB S) x)))])), (i1, gI g 40 (lQ (sSign (pB S) x))), (s2, .inr (3, [.ref i2, .int (iI (wP (sSign (pB S) x)))])), (i2, gI g 40 (wQ (sSign (pB S) x)))] := hW
                refine lv_goto (tgt := 120) S0.1 S0.2.1 dX4_takesBehind_115 (by decide) ?_
                refine q_iconst S0 dX4_takesBehind_120 ?_
                exact q_zret S0 hr hlocks () (trivial) (by first | exact Or.inl rfl | exact Or.inr rfl | omega) (by first | (exfalso; omega) | (unfold tkB; (repeat (first | rw [if_pos (by omega)] | rw [if_neg (by omega)])); first | done | rfl)) (hW.sub [0, 1, 2, 3, 4, 5, 6, 7, 8, 9, 10, 11] rfl (by first | (exfalso; omega) | (unfold tkB; (repeat (first | rw [if_pos (by omega)] | rw [if_neg (by omega)])); first | done | rfl))) (Nat.le_of_ble_eq_true rfl) (Nat.le_of_ble_eq_true rfl) dX4_takesBehind_121
              · skip
                refine lv_iload_n S0.1 S0.2.1 dX4_takesBehind_96 rfl (lv_at hl 1 rfl) ?_
                refine q_bipush S0 (by decide) dX4_takesBehind_97 ?_
                refine q_icmp_ne (tgt := 118) S0 (by omega) dX4_takesBehind_99 (by decide) (fun c99 => ?_) (fun c99 => ?_)
                · skip
                  refine q_iconst S0 dX4_takesBehind_118 ?_
                  exact q_zret S0 hr hlocks () (trivial) (by first | exact Or.inl rfl | exact Or.inr rfl | omega) (by first | (exfalso; omega) | (unfold tkB; (repeat (first | rw [if_pos (by omega)] | rw [if_neg (by omega)])); first | done | rfl)) (hW.sub [0, 1, 2, 3, 4, 5, 6, 7, 8, 9, 10, 11] rfl (by first | (exfalso; omega) | (unfold tkB; (repeat (first | rw [if_pos (by omega)] | rw [if_neg (by omega)])); first | done | rfl))) (Nat.le_of_ble_eq_true rfl) (Nat.le_of_ble_eq_true rfl) dX4_takesBehind_119
                · skip
                  refine lv_aload_n S0.1 S0.2.1 dX4_takesBehind_102 rfl (lv_at hl 0 rfl) ?_
                  refine q_get (C := RX4) (T := TX4) (N := 4) S0 hK hW.1 hinX4 0 rfl rfl 0 (by decide) (List.mem_of_getElem? (i := 4) rfl) rfl rfl dX4_takesBehind_103 ?_
                  refine lv_iload_n S0.1 S0.2.1 dX4_takesBehind_106 rfl (lv_at hl 1 rfl) ?_
                  have hlv : 1 ≤ lvl x := lvl_ge (by omega)
                  refine q_cV (n := 1) (rest := []) (wr := [(ps, .inr (4, [.ref b, .int (iI (pA S)), .int (iI (pO S)), .int (iI ((-1)))]))]) S0 hK hA hW (c_X0_addSign l g b k1 k2 k3 k4 k5 k6 s1 i1 s2 i2 (pB S) x (h1) (by omega)) gX4_takesBehind_X0_addSign rfl rfl rfl (by decide +kernel) ⟨Nat.le_of_ble_eq_true rfl, Nat.le_of_ble_eq_true rfl⟩ [1, 2, 3, 4, 5, 6, 7, 8, 9, 10, 11] [0] rfl rfl rfl rfl (by decide) (q_recv hK hW.1 (ci := 0) (q0 := 1) rfl rfl) (fun _ _ => trivial) (trivial) rfl rfl hl.1 (Nat.le_of_ble_eq_true rfl) ⟨Nat.le_of_ble_eq_true rfl, Nat.le_of_ble_eq_true rfl⟩ dX4_takesBehind_107 (fun _ H locs _ hW => ?_)
                  have hW : gW g A s.heap H _ [(ps, .inr (4, [.ref b, .int (iI (pA S)), .int (iI (pO S)), .int (iI ((-1)))])), (b, .inr (0, [.ref k1, .ref k2, .ref k3, .ref k4, .ref k5, .ref k6, .int (iI (bN (sSign (pB S) x))), .int (iI (bZ (sSign (pB S) x))), .ref s1, .ref s2])), (k1, gI g 40 (bK (sSign (pB S) x))), (k2, gI g 40 (bU (sSign (pB S) x))), (k3, gI g 40 (bL (sSign (pB S) x))), (k4, gI g 40 (bV (sSign (pB S) x))), (k5, gI g 40 (bD (sSign (pB S) x))), (k6, gI g 40 (bE (sSign (pB S) x))), (s1, .inr (3, [.ref i1, .int (iI (lP (sSign (pB S) x)))])), (i1, gI g 40 (lQ (sSign (pB S) x))), (s2, .inr (3, [.ref i2, .int (iI (wP (sSign (pB S) x)))])), (i2, gI g 40 (wQ (sSign (pB S) x)))] := hW
                  refine W.eq (g2 := F0 m 110 ls []) rfl ?_
                  refine lv_aload_n S0.1 S0.2.1 dX4_takesBehind_110 rfl (lv_at hl 0 rfl) ?_
                  refine q_iconst S0 dX4_takesBehind_111 ?_
                  refine q_put (C := RX4) (T := TX4) (N := 4) S0 hK hW hinX4 tyX4_ok nmX4 0 rfl rfl 1 (by decide) (List.mem_of_getElem? (i := 2) rfl) rfl rfl rfl rfl (Nat.le_of_ble_eq_true rfl) dX4_takesBehind_112 (fun H locs hW => ?_)
                  have hW : gW g A s.heap H _ [(ps, .inr (4, [.ref b, .int (iI 0), .int (iI (pO S)), .int (iI ((-1)))])), (b, .inr (0, [.ref k1, .ref k2, .ref k3, .ref k4, .ref k5, .ref k6, .int (iI (bN (sSign (pB S) x))), .int (iI (bZ (sSign (pB S) x))), .ref s1, .ref s2])), (k1, gI g 40 (bK (sSign (pB S) x))), (k2, gI g 40 (bU (sSign (pB S) x))), (k3, gI g 40 (bL (sSign (pB S) x))), (k4, gI g 40 (bV (sSign (pB S) x))), (k5, gI g 40 (bD (sSign (pB S) x))), (k6, gI g 40 (bE (sSign (pB S) x))), (s1, .inr (3, [.ref i1, .int (iI (lP (sSign (pB S) x)))])), (i1, gI g 40 (lQ (sSign (pB S) x))), (s2, .inr (3, [.ref i2, .int (iI (wP (sSign (pB S) x)))])), (i2, gI g 40 (wQ (sSign (pB S) x)))] := hW
                  refine lv_goto (tgt := 120) S0.1 S0.2.1 dX4_takesBehind_115 (by decide) ?_
                  refine q_iconst S0 dX4_takesBehind_120 ?_
                  exact q_zret S0 hr hlocks () (trivial) (by first | exact Or.inl rfl | exact Or.inr rfl | omega) (by first | (exfalso; omega) | (unfold tkB; (repeat (first | rw [if_pos (by omega)] | rw [if_neg (by omega)])); first | done | rfl)) (hW.sub [0, 1, 2, 3, 4, 5, 6, 7, 8, 9, 10, 11] rfl (by first | (exfalso; omega) | (unfold tkB; (repeat (first | rw [if_pos (by omega)] | rw [if_neg (by omega)])); first | done | rfl))) (Nat.le_of_ble_eq_true rfl) (Nat.le_of_ble_eq_true rfl) dX4_takesBehind_121
        · skip
          refine lv_aload_n S0.1 S0.2.1 dX4_takesBehind_46 rfl (lv_at hl 0 rfl) ?_
          refine q_get (C := RX4) (T := TX4) (N := 4) S0 hK hW.1 hinX4 0 rfl rfl 2 (by decide) (List.mem_of_getElem? (i := 3) rfl) rfl rfl dX4_takesBehind_47 ?_
          refine q_if_le (tgt := 78) S0 (by omega) dX4_takesBehind_50 (by decide) (fun c50 => ?_) (fun c50 => ?_)
          · skip
            refine lv_iload_n S0.1 S0.2.1 dX4_takesBehind_78 rfl (lv_at hl 1 rfl) ?_
            refine q_bipush S0 (by decide) dX4_takesBehind_79 ?_
            refine q_icmp_eq (tgt := 102) S0 (by omega) dX4_takesBehind_81 (by decide) (fun c81 => ?_) (fun c81 => ?_)
            · skip
              refine lv_aload_n S0.1 S0.2.1 dX4_takesBehind_102 rfl (lv_at hl 0 rfl) ?_
              refine q_get (C := RX4) (T := TX4) (N := 4) S0 hK hW.1 hinX4 0 rfl rfl 0 (by decide) (List.mem_of_getElem? (i := 4) rfl) rfl rfl dX4_takesBehind_103 ?_
              refine lv_iload_n S0.1 S0.2.1 dX4_takesBehind_106 rfl (lv_at hl 1 rfl) ?_
              have hlv : 1 ≤ lvl x := lvl_ge (by omega)
              refine q_cV (n := 1) (rest := []) (wr := [(ps, .inr (4, [.ref b, .int (iI (pA S)), .int (iI (pO S)), .int (iI ((-1)))]))]) S0 hK hA hW (c_X0_addSign l g b k1 k2 k3 k4 k5 k6 s1 i1 s2 i2 (pB S) x (h1) (by omega)) gX4_takesBehind_X0_addSign rfl rfl rfl (by decide +kernel) ⟨Nat.le_of_ble_eq_true rfl, Nat.le_of_ble_eq_true rfl⟩ [1, 2, 3, 4, 5, 6, 7, 8, 9, 10, 11] [0] rfl rfl rfl rfl (by decide) (q_recv hK hW.1 (ci := 0) (q0 := 1) rfl rfl) (fun _ _ => trivial) (trivial) rfl rfl hl.1 (Nat.le_of_ble_eq_true rfl) ⟨Nat.le_of_ble_eq_true rfl, Nat.le_of_ble_eq_true rfl⟩ dX4_takesBehind_107 (fun _ H locs _ hW => ?_)
              have hW : gW g A s.heap H _ [(ps, .inr (4, [.ref b, .int (iI (pA S)), .int (iI (pO S)), .int (iI ((-1)))])), (b, .inr (0, [.ref k1, .ref k2, .ref k3, .ref k4, .ref k5, .ref k6, .int (iI (bN (sSign (pB S) x))), .int (iI (bZ (sSign (pB S) x))), .ref s1, .ref s2])), (k1, gI g 40 (bK (sSign (pB S) x))), (k2, gI g 40 (bU (sSign (pB S) x))), (k3, gI g 40 (bL (sSign (pB S) x))), (k4, gI g 40 (bV (sSign (pB S) x))), (k5, gI g 40 (bD (sSign (pB S) x))), (k6, gI g 40 (bE (sSign (pB S) x))), (s1, .inr (3, [.ref i1, .int (iI (lP (sSign (pB S) x)))])), (i1, gI g 40 (lQ (sSign (pB S) x))), (s2, .inr (3, [.ref i2, .int (iI (wP (sSign (pB S) x)))])), (i2, gI g 40 (wQ (sSign (pB S) x)))] := hW
              refine W.eq (g2 := F0 m 110 ls []) rfl ?_
              refine lv_aload_n S0.1 S0.2.1 dX4_takesBehind_110 rfl (lv_at hl 0 rfl) ?_
              refine q_iconst S0 dX4_takesBehind_111 ?_
              refine q_put (C := RX4) (T := TX4) (N := 4) S0 hK hW hinX4 tyX4_ok nmX4 0 rfl rfl 1 (by decide) (List.mem_of_getElem? (i := 2) rfl) rfl rfl rfl rfl (Nat.le_of_ble_eq_true rfl) dX4_takesBehind_112 (fun H locs hW => ?_)
              have hW : gW g A s.heap H _ [(ps, .inr (4, [.ref b, .int (iI 0), .int (iI (pO S)), .int (iI ((-1)))])), (b, .inr (0, [.ref k1, .ref k2, .ref k3, .ref k4, .ref k5, .ref k6, .int (iI (bN (sSign (pB S) x))), .int (iI (bZ (sSign (pB S) x))), .ref s1, .ref s2])), (k1, gI g 40 (bK (sSign (pB S) x))), (k2, gI g 40 (bU (sSign (pB S) x))), (k3, gI g 40 (bL (sSign (pB S) x))), (k4, gI g 40 (bV (sSign (pB S) x))), (k5, gI g 40 (bD (sSign (pB S) x))), (k6, gI g 40 (bE (sSign (pB S) x))), (s1, .inr (3, [.ref i1, .int (iI (lP (sSign (pB S) x)))])), (i1, gI g 40 (lQ (sSign (pB S) x))), (s2, .inr (3, [.ref i2, .int (iI (wP (sSign (pB S) x)))])), (i2, gI g 40 (wQ (sSign (pB S) x)))] := hW
              refine lv_goto (tgt := 120) S0.1 S0.2.1 dX4_takesBehind_115 (by decide) ?_
              refine q_iconst S0 dX4_takesBehind_120 ?_
              exact q_zret S0 hr hlocks () (trivial) (by first | exact Or.inl rfl | exact Or.inr rfl | omega) (by first | (exfalso; omega) | (unfold tkB; (repeat (first | rw [if_pos (by omega)] | rw [if_neg (by omega)])); first | done | rfl)) (hW.sub [0, 1, 2, 3, 4, 5, 6, 7, 8, 9, 10, 11] rfl (by first | (exfalso; omega) | (unfold tkB; (repeat (first | rw [if_pos (by omega)] | rw [if_neg (by omega)])); first | done | rfl))) (Nat.le_of_ble_eq_true rfl) (Nat.le_of_ble_eq_true rfl) dX4_takesBehind_121
            · skip
              refine lv_iload_n S0.1 S0.2.1 dX4_takesBehind_84 rfl (lv_at hl 1 rfl) ?_
              refine q_bipush S0 (by decide) dX4_takesBehind_85 ?_
              refine q_icmp_eq (tgt := 102) S0 (by omega) dX4_takesBehind_87 (by decide) (fun c87 => ?_) (fun c87 => ?_)
              · skip
                refine lv_aload_n S0.1 S0.2.1 dX4_takesBehind_102 rfl (lv_at hl 0 rfl) ?_
                refine q_get (C := RX4) (T := TX4) (N := 4) S0 hK hW.1 hinX4 0 rfl rfl 0 (by decide) (List.mem_of_getElem? (i := 4) rfl) rfl rfl dX4_takesBehind_103 ?_
                refine lv_iload_n S0.1 S0.2.1 dX4_takesBehind_106 rfl (lv_at hl 1 rfl) ?_
                have hlv : 1 ≤ lvl x := lvl_ge (by omega)
                refine q_cV (n := 1) (rest := []) (wr := [(ps, .inr (4, [.ref b, .int (iI (pA S)), .int (iI (pO S)), .int (iI ((-1)))]))]) S0 hK hA hW (c_X0_addSign l g b k1 k2 k3 k4 k5 k6 s1 i1 s2 i2 (pB S) x (h1) (by omega)) gX4_takesBehind_X0_addSign rfl rfl rfl (by decide +kernel) ⟨Nat.le_of_ble_eq_true rfl, Nat.le_of_ble_eq_true rfl⟩ [1, 2, 3, 4, 5, 6, 7, 8, 9, 10, 11] [0] rfl rfl rfl rfl (by decide) (q_recv hK hW.1 (ci := 0) (q0 := 1) rfl rfl) (fun _ _ => trivial) (trivial) rfl rfl hl.1 (Nat.le_of_ble_eq_true rfl) ⟨Nat.le_of_ble_eq_true rfl, Nat.le_of_ble_eq_true rfl⟩ dX4_takesBehind_107 (fun _ H locs _ hW => ?_)
                have hW : gW g A s.heap H _ [(ps, .inr (4, [.ref b, .int (iI (pA S)), .int (iI (pO S)), .int (iI ((-1)))])), (b, .inr (0, [.ref k1, .ref k2, .ref k3, .ref k4, .ref k5, .ref k6, .int (iI (bN (sSign (pB S) x))), .int (iI (bZ (sSign (pB S) x))), .ref s1, .ref s2])), (k1, gI g 40 (bK (sSign (pB S) x))), (k2, gI g 40 (bU (sSign (pB S) x))), (k3, gI g 40 (bL (sSign (pB S) x))), (k4, gI g 40 (bV (sSign (pB S) x))), (k5, gI g 40 (bD (sSign (pB S) x))), (k6, gI g 40 (bE (sSign (pB S) x))), (s1, .inr (3, [.ref i1, .int (iI (lP (sSign (pB S) x)))])), (i1, gI g 40 (lQ (sSign (pB S) x))), (s2, .inr (3, [.ref i2, .int (iI (wP (sSign (pB S) x)))])), (i2, gI g 40 (wQ (sSign (pB S) x)))] := hW
                refine W.eq (g2 := F0 m 110 ls []) rfl ?_
                refine lv_aload_n S0.1 S0.2.1 dX4_takesBehind_110 rfl (lv_at hl 0 rfl) ?_
                refine q_iconst S0 dX4_takesBehind_111 ?_
                refine q_put (C := RX4) (T := TX4) (N := 4) S0 hK hW hinX4 tyX4_ok nmX4 0 rfl rfl 1 (by decide) (List.mem_of_getElem? (i := 2) rfl) rfl rfl rfl rfl (Nat.le_of_ble_eq_true rfl) dX4_takesBehind_112 (fun H locs hW => ?_)
                have hW : gW g A s.heap H _ [(ps, .inr (4, [.ref b, .int (iI 0), .int (iI (pO S)), .int (iI ((-1)))])), (b, .inr (0, [.ref k1, .ref k2, .ref k3, .ref k4, .ref k5, .ref k6, .int (iI (bN (sSign (pB S) x))), .int (iI (bZ (sSign (pB S) x))), .ref s1, .ref s2])), (k1, gI g 40 (bK (sSign (pB S) x))), (k2, gI g 40 (bU (sSign (pB S) x))), (k3, gI g 40 (bL (sSign (pB S) x))), (k4, gI g 40 (bV (sSign (pB S) x))), (k5, gI g 40 (bD (sSign (pB S) x))), (k6, gI g 40 (bE (sSign (pB S) x))), (s1, .inr (3, [.ref i1, .int (iI (lP (sSign (pB S) x)))])), (i1, gI g 40 (lQ (sSign (pB S) x))), (s2, .inr (3, [.ref i2, .int (iI (wP (sSign (pB S) x)))])), (i2, gI g 40 (wQ (sSign (pB S) x)))] := hW
                refine lv_goto (tgt := 120) S0.1 S0.2.1 dX4_takesBehind_115 (by decide) ?_
                refine q_iconst S0 dX4_takesBehind_120 ?_
                exact q_zret S0 hr hlocks () (trivial) (by first | exact Or.inl rfl | exact Or.inr rfl | omega) (by first | (exfalso; omega) | (unfold tkB; (repeat (first | rw [if_pos (by omega)] | rw [if_neg (by omega)])); first | done | rfl)) (hW.sub [0, 1, 2, 3, 4, 5, 6, 7, 8, 9, 10, 11] rfl (by first | (exfalso; omega) | (unfold tkB; (repeat (first | rw [if_pos (by omega)] | rw [if_neg (by omega)])); first | done | rfl))) (Nat.le_of_ble_eq_true rfl) (Nat.le_of_ble_eq_true rfl) dX4_takesBehind_121
              · skip
                refine lv_iload_n S0.1 S0.2.1 dX4_takesBehind_90 rfl (lv_at hl 1 rfl) ?_
                refine q_bipush S0 (by decide) dX4_takesBehind_91 ?_
                refine q_icmp_eq (tgt := 102) S0 (by omega) dX4_takesBehind_93 (by decide) (fun c93 => ?_) (fun c93 => ?_)
                · skip
                  refine lv_aload_n S0.1 S0.2.1 dX4_takesBehind_102 rfl (lv_at hl 0 rfl) ?_
                  refine q_get (C := RX4) (T := TX4) (N := 4) S0 hK hW.1 hinX4 0 rfl rfl 0 (by decide) (List.mem_of_getElem? (i := 4) rfl) rfl rfl dX4_takesBehind_103 ?_
                  refine lv_iload_n S0.1 S0.2.1 dX4_takesBehind_106 rfl (lv_at hl 1 rfl) ?_
                  have hlv : 1 ≤ lvl x := lvl_ge (by omega)
                  refine q_cV (n := 1) (rest := []) (wr := [(ps, .inr (4, [.ref b, .int (iI (pA S)), .int (iI (pO S)), .int (iI ((-1)))]))]) S0 hK hA hW (c_X0_addSign l g b k1 k2 k3 k4 k5 k6 s1 i1 s2 i2 (pB S) x (h1) (by omega)) gX4_takesBehind_X0_addSign rfl rfl rfl (by decide +kernel) ⟨Nat.le_of_ble_eq_true rfl, Nat.le_of_ble_eq_true rfl⟩ [1, 2, 3, 4, 5, 6, 7, 8, 9, 10, 11] [0] rfl rfl rfl rfl (by decide) (q_recv hK hW.1 (ci := 0) (q0 := 1) rfl rfl) (fun _ _ => trivial) (trivial) rfl rfl hl.1 (Nat.le_of_ble_eq_true rfl) ⟨Nat.le_of_ble_eq_true rfl, Nat.le_of_ble_eq_true rfl⟩ dX4_takesBehind_107 (fun _ H locs _ hW => ?_)
                  have hW : gW g A s.heap H _ [(ps, .inr (4, [.ref b, .int (iI (pA S)), .int (iI (pO S)), .int (iI ((-1)))])), (b, .inr (0, [.ref k1, .ref k2, .ref k3, .ref k4, .ref k5, .ref k6, .int (iI (bN (sSign (pB S) x))), .int (iI (bZ (sSign (pB S) x))), .ref s1, .ref s2])), (k1, gI g 40 (bK (sSign (pB S) x))), (k2, gI g 40 (bU (sSign (pB S) x))), (k3, gI g 40 (bL (sSign (pB S) x))), (k4, gI g 40 (bV (sSign (pB S) x))), (k5, gI g 40 (bD (sSign (pB S) x))), (k6, gI g 40 (bE (sSign (pB S) x))), (s1, .inr (3, [.ref i1, .int (iI (lP (sSign (pB S) x)))])), (i1, gI g 40 (lQ (sSign (pB S) x))), (s2, .inr (3, [.ref i2, .int (iI (wP (sSign (pB S) x)))])), (i2, gI g 40 (wQ (sSign (pB S) x)))] := hW
                  refine W.eq (g2 := F0 m 110 ls []) rfl ?_
                  refine lv_aload_n S0.1 S0.2.1 dX4_takesBehind_110 rfl (lv_at hl 0 rfl) ?_
                  refine q_iconst S0 dX4_takesBehind_111 ?_
                  refine q_put (C := RX4) (T := TX4) (N := 4) S0 hK hW hinX4 tyX4_ok nmX4 0 rfl rfl 1 (by decide) (List.mem_of_getElem? (i := 2) rfl) rfl rfl rfl rfl (Nat.le_of_ble_eq_true rfl) dX4_takesBehind_112 (fun H locs hW => ?_)
                  have hW : gW g A s.heap H _ [(ps, .inr (4, [.ref b, .int (iI 0), .int (iI (pO S)), .int (iI ((-1)))])), (b, .inr (0, [.ref k1, .ref k2, .ref k3, .ref k4, .ref k5, .ref k6, .int (iI (bN (sSign (pB S) x))), .int (iI (bZ (sSign (pB S) x))), .ref s1, .ref s2])), (k1, gI g 40 (bK (sSign (pB S) x))), (k2, gI g 40 (bU (sSign (pB S) x))), (k3, gI g 40 (bL (sSign (pB S) x))), (k4, gI g 40 (bV (sSign (pB S) x))), (k5, gI g 40 (bD (sSign (pB S) x))), (k6, gI g 40 (bE (sSign (pB S) x))), (s1, .inr (3, [.ref i1, .int (iI (lP (sSign (pB S) x)))])), (i1, gI g 40 (lQ (sSign (pB S) x))), (s2, .inr (3, [.ref i2, .int (iI (wP (sSign (pB S) x)))])), (i2, gI g 40 (wQ (sSign (pB S) x)))] := hW
                  refine lv_goto (tgt := 120) S0.1 S0.2.1 dX4_takesBehind_115 (by decide) ?_
                  refine q_iconst S0 dX4_takesBehind_120 ?_
                  exact q_zret S0 hr hlocks () (trivial) (by first | exact Or.inl rfl | exact Or.inr rfl | omega) (by first | (exfalso; omega) | (unfold tkB; (repeat (first | rw [if_pos (by omega)] | rw [if_neg (by omega)])); first | done | rfl)) (hW.sub [0, 1, 2, 3, 4, 5, 6, 7, 8, 9, 10, 11] rfl (by first | (exfalso; omega) | (unfold tkB; (repeat (first | rw [if_pos (by omega)] | rw [if_neg (by omega)])); first | done | rfl))) (Nat.le_of_ble_eq_true rfl) (Nat.le_of_ble_eq_true rfl) dX4_takesBehind_121
                · skip
                  refine lv_iload_n S0.1 S0.2.1 dX4_takesBehind_96 rfl (lv_at hl 1 rfl) ?_
                  refine q_bipush S0 (by decide) dX4_takesBehind_97 ?_
                  refine q_icmp_ne (tgt := 118) S0 (by omega) dX4_takesBehind_99 (by decide) (fun c99 => ?_) (fun c99 => ?_)
                  · skip
                    refine q_iconst S0 dX4_takesBehind_118 ?_
                    exact q_zret S0 hr hlocks () (trivial) (by first | exact Or.inl rfl | exact Or.inr rfl | omega) (by first | (exfalso; omega) | (unfold tkB; (repeat (first | rw [if_pos (by omega)] | rw [if_neg (by omega)])); first | done | rfl)) (hW.sub [0, 1, 2, 3, 4, 5, 6, 7, 8, 9, 10, 11] rfl (by first | (exfalso; omega) | (unfold tkB; (repeat (first | rw [if_pos (by omega)] | rw [if_neg (by omega)])); first | done | rfl))) (Nat.le_of_ble_eq_true rfl) (Nat.le_of_ble_eq_true rfl) dX4_takesBehind_119
                  · skip
                    refine lv_aload_n S0.1 S0.2.1 dX4_takesBehind_102 rfl (lv_at hl 0 rfl) ?_
                    refine q_get (C := RX4) (T := TX4) (N := 4) S0 hK hW.1 hinX4 0 rfl rfl 0 (by decide) (List.mem_of_getElem? (i := 4) rfl) rfl rfl dX4_takesBehind_103 ?_
                    refine lv_iload_n S0.1 S0.2.1 dX4_takesBehind_106 rfl (lv_at hl 1 rfl) ?_
                    have hlv : 1 ≤ lvl x := lvl_ge (by omega)
                    refine q_cV (n := 1) (rest := []) (wr := [(ps, .inr (4, [.ref b, .int (iI (pA S)), .int (iI (pO S)), .int (iI ((-1)))]))]) S0 hK hA hW (c_X0_addSign l g b k1 k2 k3 k4 k5 k6 s1 i1 s2 i2 (pB S) x (h1) (by omega)) gX4_takesBehind_X0_addSign rfl rfl rfl (by decide +kernel) ⟨Nat.le_of_ble_eq_true rfl, Nat.le_of_ble_eq_true rfl⟩ [1, 2, 3, 4, 5, 6, 7, 8, 9, 10, 11] [0] rfl rfl rfl rfl (by decide) (q_recv hK hW.1 (ci := 0) (q0 := 1) rfl rfl) (fun _ _ => trivial) (trivial) rfl rfl hl.1 (Nat.le_of_ble_eq_true rfl) ⟨Nat.le_of_ble_eq_true rfl, Nat.le_of_ble_eq_true rfl⟩ dX4_takesBehind_107 (fun _ H locs _ hW => ?_)
                    have hW : gW g A s.heap H _ [(ps, .inr (4, [.ref b, .int (iI (pA S)), .int (iI (pO S)), .int (iI ((-1)))])), (b, .inr (0, [.ref k1, .ref k2, .ref k3, .ref k4, .ref k5, .ref k6, .int (iI (bN (sSign (pB S) x))), .int (iI (bZ (sSign (pB S) x))), .ref s1, .ref s2])), (k1, gI g 40 (bK (sSign (pB S) x))), (k2, gI g 40 (bU (sSign (pB S) x))), (k3, gI g 40 (bL (sSign (pB S) x))), (k4, gI g 40 (bV (sSign (pB S) x))), (k5, gI g 40 (bD (sSign (pB S) x))), (k6, gI g 40 (bE (sSign (pB S) x))), (s1, .inr (3, [.ref i1, .int (iI (lP (sSign (pB S) x)))])), (i1, gI g 40 (lQ (sSign (pB S) x))), (s2, .inr (3, [.ref i2, .int (iI (wP (sSign (pB S) x)))])), (i2, gI g 40 (wQ (sSign (pB S) x)))] := hW
                    refine W.eq (g2 := F0 m 110 ls []) rfl ?_
                    refine lv_aload_n S0.1 S0.2.1 dX4_takesBehind_110 rfl (lv_at hl 0 rfl) ?_
                    refine q_iconst S0 dX4_takesBehind_111 ?_
                    refine q_put (C := RX4) (T := TX4) (N := 4) S0 hK hW hinX4 tyX4_ok nmX4 0 rfl rfl 1 (by decide) (List.mem_of_getElem? (i := 2) rfl) rfl rfl rfl rfl (Nat.le_of_ble_eq_true rfl) dX4_takesBehind_112 (fun H locs hW => ?_)
                    have hW : gW g A s.heap H _ [(ps, .inr (4, [.ref b, .int (iI 0), .int (iI (pO S)), .int (iI ((-1)))])), (b, .inr (0, [.ref k1, .ref k2, .ref k3, .ref k4, .ref k5, .ref k6, .int (iI (bN (sSign (pB S) x))), .int (iI (bZ (sSign (pB S) x))), .ref s1, .ref s2])), (k1, gI g 40 (bK (sSign (pB S) x))), (k2, gI g 40 (bU (sSign (pB S) x))), (k3, gI g 40 (bL (sSign (pB S) x))), (k4, gI g 40 (bV (sSign (pB S) x))), (k5, gI g 40 (bD (sSign (pB S) x))), (k6, gI g 40 (bE (sSign (pB S) x))), (s1, .inr (3, [.ref i1, .int (iI (lP (sSign (pB S) x)))])), (i1, gI g 40 (lQ (sSign (pB S) x))), (s2, .inr (3, [.ref i2, .int (iI (wP (sSign (pB S) x)))])), (i2, gI g 40 (wQ (sSign (pB S) x)))] := hW
                    refine lv_goto (tgt := 120) S0.1 S0.2.1 dX4_takesBehind_115 (by decide) ?_
                    refine q_iconst S0 dX4_takesBehind_120 ?_
                    exact q_zret S0 hr hlocks () (trivial) (by first | exact Or.inl rfl | exact Or.inr rfl | omega) (by first | (exfalso; omega) | (unfold tkB; (repeat (first | rw [if_pos (by omega)] | rw [if_neg (by omega)])); first | done | rfl)) (hW.sub [0, 1, 2, 3, 4, 5, 6, 7, 8, 9, 10, 11] rfl (by first | (exfalso; omega) | (unfold tkB; (repeat (first | rw [if_pos (by omega)] | rw [if_neg (by omega)])); first | done | rfl))) (Nat.le_of_ble_eq_true rfl) (Nat.le_of_ble_eq_true rfl) dX4_takesBehind_121
          · skip
            refine lv_aload_n S0.1 S0.2.1 dX4_takesBehind_53 rfl (lv_at hl 0 rfl) ?_
            refine q_get (C := RX4) (T := TX4) (N := 4) S0 hK hW.1 hinX4 0 rfl rfl 0 (by decide) (List.mem_of_getElem? (i := 4) rfl) rfl rfl dX4_takesBehind_54 ?_
            refine q_cV (n := 0) (rest := []) (wr := [(ps, .inr (4, [.ref b, .int (iI (pA S)), .int (iI (pO S)), .int (iI ((-1)))]))]) S0 hK hA hW (c_X0_close l g b k1 k2 k3 k4 k5 k6 s1 i1 s2 i2 (pB S) (h1)) gX4_takesBehind_X0_close rfl rfl rfl (by decide +kernel) ⟨Nat.le_of_ble_eq_true rfl, Nat.le_of_ble_eq_true rfl⟩ [1, 2, 3, 4, 5, 6, 7, 8, 9, 10, 11] [0] rfl rfl rfl rfl (by decide) (q_recv hK hW.1 (ci := 0) (q0 := 1) rfl rfl) (fun _ _ => trivial) (trivial) rfl rfl hl.1 (Nat.le_of_ble_eq_true rfl) ⟨Nat.le_of_ble_eq_true rfl, Nat.le_of_ble_eq_true rfl⟩ dX4_takesBehind_57 (fun _ H locs _ hW => ?_)
            have hW : gW g A s.heap H _ [(ps, .inr (4, [.ref b, .int (iI (pA S)), .int (iI (pO S)), .int (iI ((-1)))])), (b, .inr (0, [.ref k1, .ref k2, .ref k3, .ref k4, .ref k5, .ref k6, .int (iI (bN (sClose (pB S)))), .int (iI (bZ (sClose (pB S)))), .ref s1, .ref s2])), (k1, gI g 40 (bK (sClose (pB S)))), (k2, gI g 40 (bU (sClose (pB S)))), (k3, gI g 40 (bL (sClose (pB S)))), (k4, gI g 40 (bV (sClose (pB S)))), (k5, gI g 40 (bD (sClose (pB S)))), (k6, gI g 40 (bE (sClose (pB S)))), (s1, .inr (3, [.ref i1, .int (iI (lP (sClose (pB S))))])), (i1, gI g 40 (lQ (sClose (pB S)))), (s2, .inr (3, [.ref i2, .int (iI (wP (sClose (pB S))))])), (i2, gI g 40 (wQ (sClose (pB S))))] := hW
            refine W.eq (g2 := F0 m 60 ls []) rfl ?_
            refine lv_aload_n S0.1 S0.2.1 dX4_takesBehind_60 rfl (lv_at hl 0 rfl) ?_
            refine lv_dup S0.1 S0.2.1 dX4_takesBehind_61 rfl ?_
            refine q_get (C := RX4) (T := TX4) (N := 4) S0 hK hW.1 hinX4 0 rfl rfl 2 (by decide) (List.mem_of_getElem? (i := 3) rfl) rfl rfl dX4_takesBehind_62 ?_
            refine q_iconst S0 dX4_takesBehind_65 ?_
            refine q_isub S0 dX4_takesBehind_66 ?_
            refine q_put (C := RX4) (T := TX4) (N := 4) S0 hK hW hinX4 tyX4_ok nmX4 0 rfl rfl 2 (by decide) (List.mem_of_getElem? (i := 3) rfl) rfl rfl rfl rfl (Nat.le_of_ble_eq_true rfl) dX4_takesBehind_67 (fun H locs hW => ?_)
            have hW : gW g A s.heap H _ [(ps, .inr (4, [.ref b, .int (iI (pA S)), .int (iI ((pO S) - 1)), .int (iI ((-1)))])), (b, .inr (0, [.ref k1, .ref k2, .ref k3, .ref k4, .ref k5, .ref k6, .int (iI (bN (sClose (pB S)))), .int (iI (bZ (sClose (pB S)))), .ref s1, .ref s2])), (k1, gI g 40 (bK (sClose (pB S)))), (k2, gI g 40 (bU (sClose (pB S)))), (k3, gI g 40 (bL (sClose (pB S)))), (k4, gI g 40 (bV (sClose (pB S)))), (k5, gI g 40 (bD (sClose (pB S)))), (k6, gI g 40 (bE (sClose (pB S)))), (s1, .inr (3, [.ref i1, .int (iI (lP (sClose (pB S))))])), (i1, gI g 40 (lQ (sClose (pB S)))), (s2, .inr (3, [.ref i2, .int (iI (wP (sClose (pB S))))])), (i2, gI g 40 (wQ (sClose (pB S))))] := hW
            refine lv_aload_n S0.1 S0.2.1 dX4_takesBehind_70 rfl (lv_at hl 0 rfl) ?_
            refine q_iconst S0 dX4_takesBehind_71 ?_
            refine q_put (C := RX4) (T := TX4) (N := 4) S0 hK hW hinX4 tyX4_ok nmX4 0 rfl rfl 1 (by decide) (List.mem_of_getElem? (i := 2) rfl) rfl rfl rfl rfl (Nat.le_of_ble_eq_true rfl) dX4_takesBehind_72 (fun H locs hW => ?_)
            have hW : gW g A s.heap H _ [(ps, .inr (4, [.ref b, .int (iI 3), .int (iI ((pO S) - 1)), .int (iI ((-1)))])), (b, .inr (0, [.ref k1, .ref k2, .ref k3, .ref k4, .ref k5, .ref k6, .int (iI (bN (sClose (pB S)))), .int (iI (bZ (sClose (pB S)))), .ref s1, .ref s2])), (k1, gI g 40 (bK (sClose (pB S)))), (k2, gI g 40 (bU (sClose (pB S)))), (k3, gI g 40 (bL (sClose (pB S)))), (k4, gI g 40 (bV (sClose (pB S)))), (k5, gI g 40 (bD (sClose (pB S)))), (k6, gI g 40 (bE (sClose (pB S)))), (s1, .inr (3, [.ref i1, .int (iI (lP (sClose (pB S))))])), (i1, gI g 40 (lQ (sClose (pB S)))), (s2, .inr (3, [.ref i2, .int (iI (wP (sClose (pB S))))])), (i2, gI g 40 (wQ (sClose (pB S))))] := hW
            refine lv_goto (tgt := 120) S0.1 S0.2.1 dX4_takesBehind_75 (by decide) ?_
            refine q_iconst S0 dX4_takesBehind_120 ?_
            exact q_zret S0 hr hlocks () (trivial) (by first | exact Or.inl rfl | exact Or.inr rfl | omega) (by first | (exfalso; omega) | (unfold tkB; (repeat (first | rw [if_pos (by omega)] | rw [if_neg (by omega)])); first | done | rfl)) (hW.sub [0, 1, 2, 3, 4, 5, 6, 7, 8, 9, 10, 11] rfl (by first | (exfalso; omega) | (unfold tkB; (repeat (first | rw [if_pos (by omega)] | rw [if_neg (by omega)])); first | done | rfl))) (Nat.le_of_ble_eq_true rfl) (Nat.le_of_ble_eq_true rfl) dX4_takesBehind_121
      · skip
        refine lv_aload_n S0.1 S0.2.1 dX4_takesBehind_32 rfl (lv_at hl 0 rfl) ?_
        refine q_iconst S0 dX4_takesBehind_33 ?_
        refine q_put (C := RX4) (T := TX4) (N := 4) S0 hK hW hinX4 tyX4_ok nmX4 0 rfl rfl 1 (by decide) (List.mem_of_getElem? (i := 2) rfl) rfl rfl rfl rfl (Nat.le_of_ble_eq_true rfl) dX4_takesBehind_34 (fun H locs hW => ?_)
        have hW : gW g A s.heap H _ [(ps, .inr (4, [.ref b, .int (iI 2), .int (iI (pO S)), .int (iI ((-1)))])), (b, .inr (0, [.ref k1, .ref k2, .ref k3, .ref k4, .ref k5, .ref k6, .int (iI (bN (pB S))), .int (iI (bZ (pB S))), .ref s1, .ref s2])), (k1, gI g 40 (bK (pB S))), (k2, gI g 40 (bU (pB S))), (k3, gI g 40 (bL (pB S))), (k4, gI g 40 (bV (pB S))), (k5, gI g 40 (bD (pB S))), (k6, gI g 40 (bE (pB S))), (s1, .inr (3, [.ref i1, .int (iI (lP (pB S)))])), (i1, gI g 40 (lQ (pB S))), (s2, .inr (3, [.ref i2, .int (iI (wP (pB S)))])), (i2, gI g 40 (wQ (pB S)))] := hW
        refine lv_goto (tgt := 120) S0.1 S0.2.1 dX4_takesBehind_37 (by decide) ?_
        refine q_iconst S0 dX4_takesBehind_120 ?_
        exact q_zret S0 hr hlocks () (trivial) (by first | exact Or.inl rfl | exact Or.inr rfl | omega) (by first | (exfalso; omega) | (unfold tkB; (repeat (first | rw [if_pos (by omega)] | rw [if_neg (by omega)])); first | done | rfl)) (hW.sub [0, 1, 2, 3, 4, 5, 6, 7, 8, 9, 10, 11] rfl (by first | (exfalso; omega) | (unfold tkB; (repeat (first | rw [if_pos (by omega)] | rw [if_neg (by omega)])); first | done | rfl))) (Nat.le_of_ble_eq_true rfl) (Nat.le_of_ble_eq_true rfl) dX4_takesBehind_121
  · skip
    refine lv_aload_n S0.1 S0.2.1 dX4_takesBehind_7 rfl (lv_at hl 0 rfl) ?_
    refine lv_iload_n S0.1 S0.2.1 dX4_takesBehind_8 rfl (lv_at hl 1 rfl) ?_
    refine q_cV (n := 1) (rest := []) (wr := []) S0 hK hA hW (c_X4_takesFurtherDigit l g ps b k1 k2 k3 k4 k5 k6 s1 i1 s2 i2 S i x (hS) (hi) (hx) (by omega)) gX4_takesBehind_X4_takesFurtherDigit rfl rfl rfl (by decide +kernel) ⟨Nat.le_of_ble_eq_true rfl, Nat.le_of_ble_eq_true rfl⟩ [0, 1, 2, 3, 4, 5, 6, 7, 8, 9, 10, 11] [] rfl rfl rfl rfl (by decide) (q_recv hK hW.1 (ci := 4) (q0 := 0) rfl rfl) (fun _ _ => trivial) (trivial) rfl rfl hl.1 (Nat.le_of_ble_eq_true rfl) ⟨Nat.le_of_ble_eq_true rfl, Nat.le_of_ble_eq_true rfl⟩ dX4_takesBehind_9 (fun _ H locs _ hW => ?_)
    have hW : gW g A s.heap H _ [(ps, .inr (4, [.ref b, .int (iI (pA ((tkD S x).1))), .int (iI (pO ((tkD S x).1))), .int (iI (pM ((tkD S x).1)))])), (b, .inr (0, [.ref k1, .ref k2, .ref k3, .ref k4, .ref k5, .ref k6, .int (iI (bN (pB ((tkD S x).1)))), .int (iI (bZ (pB ((tkD S x).1)))), .ref s1, .ref s2])), (k1, gI g 40 (bK (pB ((tkD S x).1)))), (k2, gI g 40 (bU (pB ((tkD S x).1)))), (k3, gI g 40 (bL (pB ((tkD S x).1)))), (k4, gI g 40 (bV (pB ((tkD S x).1)))), (k5, gI g 40 (bD (pB ((tkD S x).1)))), (k6, gI g 40 (bE (pB ((tkD S x).1)))), (s1, .inr (3, [.ref i1, .int (iI (lP (pB ((tkD S x).1))))])), (i1, gI g 40 (lQ (pB ((tkD S x).1)))), (s2, .inr (3, [.ref i2, .int (iI (wP (pB ((tkD S x).1))))])), (i2, gI g 40 (wQ (pB ((tkD S x).1))))] := hW
    refine W.eq (g2 := F0 m 12 ls [.int (iI ((tkD S x).2))]) rfl ?_
    exact q_zret S0 hr hlocks () (trivial) (tkD_01 S x) (by first | (exfalso; omega) | (unfold tkB; (repeat (first | rw [if_pos (by omega)] | rw [if_neg (by omega)])); first | done | rfl)) (hW.sub [0, 1, 2, 3, 4, 5, 6, 7, 8, 9, 10, 11] rfl (by first | (exfalso; omega) | (unfold tkB; (repeat (first | rw [if_pos (by omega)] | rw [if_neg (by omega)])); first | done | rfl))) (Nat.le_of_ble_eq_true rfl) (Nat.le_of_ble_eq_true rfl) dX4_takesBehind_12
set_option maxHeartbeats 4000000 in
set_option maxRecDepth 100000 in
theorem c_X4_takes (l : Launch) (g : GG) (ps b k1 k2 k3 k4 k5 k6 s1 i1 s2 i2 : Nat) (S : PT) (i x : Int) (hS : WFP i S) (hi : i ≤ 39) (hx : 0 ≤ x ∧ x ≤ 65535) : qMet l yX4_takes wsX4_takes ({ frames := 5, cells := 0, slots := 0, locals := 129 }) g [.ref ps, .int (iI x)] [(ps, .inr (4, [.ref b, .int (iI (pA S)), .int (iI (pO S)), .int (iI (pM S))])), (b, .inr (0, [.ref k1, .ref k2, .ref k3, .ref k4, .ref k5, .ref k6, .int (iI (bN (pB S))), .int (iI (bZ (pB S))), .ref s1, .ref s2])), (k1, gI g 40 (bK (pB S))), (k2, gI g 40 (bU (pB S))), (k3, gI g 40 (bL (pB S))), (k4, gI g 40 (bV (pB S))), (k5, gI g 40 (bD (pB S))), (k6, gI g 40 (bE (pB S))), (s1, .inr (3, [.ref i1, .int (iI (lP (pB S)))])), (i1, gI g 40 (lQ (pB S))), (s2, .inr (3, [.ref i2, .int (iI (wP (pB S)))])), (i2, gI g 40 (wQ (pB S)))] (fun _ => True) (fun _ => True) (S := Unit) (fun _ => some (.int (iI ((tk S x).2)))) (fun _ => [(ps, .inr (4, [.ref b, .int (iI (pA ((tk S x).1))), .int (iI (pO ((tk S x).1))), .int (iI (pM ((tk S x).1)))])), (b, .inr (0, [.ref k1, .ref k2, .ref k3, .ref k4, .ref k5, .ref k6, .int (iI (bN (pB ((tk S x).1)))), .int (iI (bZ (pB ((tk S x).1)))), .ref s1, .ref s2])), (k1, gI g 40 (bK (pB ((tk S x).1)))), (k2, gI g 40 (bU (pB ((tk S x).1)))), (k3, gI g 40 (bL (pB ((tk S x).1)))), (k4, gI g 40 (bV (pB ((tk S x).1)))), (k5, gI g 40 (bD (pB ((tk S x).1)))), (k6, gI g 40 (bE (pB ((tk S x).1)))), (s1, .inr (3, [.ref i1, .int (iI (lP (pB ((tk S x).1))))])), (i1, gI g 40 (lQ (pB ((tk S x).1)))), (s2, .inr (3, [.ref i2, .int (iI (wP (pB ((tk S x).1))))])), (i2, gI g 40 (wQ (pB ((tk S x).1))))]) (fun _ => True) 0 0 := by
  refine q_ofW (cc := cX4_takes) (maxL := 2) (ret := (some .boolean)) (fun sz h => h.self) (by decide) rfl (Nat.le_of_ble_eq_true rfl) ?_
  intro p e s m args below meth c A ls S0 hr hlocks hnme hK hA hAe hW hD0 hX hl
  have hW : gW g A s.heap s.heap [] [(ps, .inr (4, [.ref b, .int (iI (pA S)), .int (iI (pO S)), .int (iI (pM S))])), (b, .inr (0, [.ref k1, .ref k2, .ref k3, .ref k4, .ref k5, .ref k6, .int (iI (bN (pB S))), .int (iI (bZ (pB S))), .ref s1, .ref s2])), (k1, gI g 40 (bK (pB S))), (k2, gI g 40 (bU (pB S))), (k3, gI g 40 (bL (pB S))), (k4, gI g 40 (bV (pB S))), (k5, gI g 40 (bD (pB S))), (k6, gI g 40 (bE (pB S))), (s1, .inr (3, [.ref i1, .int (iI (lP (pB S)))])), (i1, gI g 40 (lQ (pB S))), (s2, .inr (3, [.ref i2, .int (iI (wP (pB S)))])), (i2, gI g 40 (wQ (pB S)))] := hW
  have hl : lv_has ls 2 [(0, .ref ps), (1, .int (iI x))] := hl
  have hinX4 : ∀ w ∈ wsX40, w ∈ wsX4_takes := fun w h => List.mem_cons_of_mem _ (List.mem_append_left _ (List.mem_append_left _ (List.mem_append_right _ h)))
  obtain ⟨h1, h2, h3⟩ := id hS
  have h10 := h1.1
  have hfn := fnO_r x
  refine lv_aload_n S0.1 S0.2.1 dX4_takes_0 rfl (lv_at hl 0 rfl) ?_
  refine q_get (C := RX4) (T := TX4) (N := 4) S0 hK hW.1 hinX4 0 rfl rfl 1 (by decide) (List.mem_of_getElem? (i := 1) rfl) rfl rfl dX4_takes_1 ?_
  by_cases k4_0 : pA S = 0
  · refine q_topI k4_0 ?_
    refine lv_tableIn (off := 28) (tgt := 32) S0.1 S0.2.1 dX4_takes_4 (by decide) (by decide) (by decide) (by decide) ?_
    refine lv_aload_n S0.1 S0.2.1 dX4_takes_32 rfl (lv_at hl 0 rfl) ?_
    refine lv_iload_n S0.1 S0.2.1 dX4_takes_33 rfl (lv_at hl 1 rfl) ?_
    refine q_cV (n := 1) (rest := []) (wr := []) S0 hK hA hW (c_X4_takesAtom l g ps b k1 k2 k3 k4 k5 k6 s1 i1 s2 i2 S i x (hS) (hi) (hx)) gX4_takes_X4_takesAtom rfl rfl rfl (by decide +kernel) ⟨Nat.le_of_ble_eq_true rfl, Nat.le_of_ble_eq_true rfl⟩ [0, 1, 2, 3, 4, 5, 6, 7, 8, 9, 10, 11] [] rfl rfl rfl rfl (by decide) (q_recv hK hW.1 (ci := 4) (q0 := 0) rfl rfl) (fun _ _ => trivial) (trivial) rfl rfl hl.1 (Nat.le_of_ble_eq_true rfl) ⟨Nat.le_of_ble_eq_true rfl, Nat.le_of_ble_eq_true rfl⟩ dX4_takes_34 (fun _ H locs _ hW => ?_)
    have hW : gW g A s.heap H _ [(ps, .inr (4, [.ref b, .int (iI (pA ((tkA S x).1))), .int (iI (pO ((tkA S x).1))), .int (iI (pM ((tkA S x).1)))])), (b, .inr (0, [.ref k1, .ref k2, .ref k3, .ref k4, .ref k5, .ref k6, .int (iI (bN (pB ((tkA S x).1)))), .int (iI (bZ (pB ((tkA S x).1)))), .ref s1, .ref s2])), (k1, gI g 40 (bK (pB ((tkA S x).1)))), (k2, gI g 40 (bU (pB ((tkA S x).1)))), (k3, gI g 40 (bL (pB ((tkA S x).1)))), (k4, gI g 40 (bV (pB ((tkA S x).1)))), (k5, gI g 40 (bD (pB ((tkA S x).1)))), (k6, gI g 40 (bE (pB ((tkA S x).1)))), (s1, .inr (3, [.ref i1, .int (iI (lP (pB ((tkA S x).1))))])), (i1, gI g 40 (lQ (pB ((tkA S x).1)))), (s2, .inr (3, [.ref i2, .int (iI (wP (pB ((tkA S x).1))))])), (i2, gI g 40 (wQ (pB ((tkA S x).1))))] := hW
    refine W.eq (g2 := F0 m 37 ls [.int (iI ((tkA S x).2))]) rfl ?_
    exact q_zret S0 hr hlocks () (trivial) (tkA_01 S x) (by first | (exfalso; omega) | (unfold tk; (repeat (first | rw [if_pos (by omega)] | rw [if_neg (by omega)])); first | done | rfl)) (hW.sub [0, 1, 2, 3, 4, 5, 6, 7, 8, 9, 10, 11] rfl (by first | (exfalso; omega) | (unfold tk; (repeat (first | rw [if_pos (by omega)] | rw [if_neg (by omega)])); first | done | rfl))) (Nat.le_of_ble_eq_true rfl) (Nat.le_of_ble_eq_true rfl) dX4_takes_37
  by_cases k4_1 : pA S = 1
  · refine q_topI k4_1 ?_
    refine lv_tableIn (off := 34) (tgt := 38) S0.1 S0.2.1 dX4_takes_4 (by decide) (by decide) (by decide) (by decide) ?_
    refine lv_aload_n S0.1 S0.2.1 dX4_takes_38 rfl (lv_at hl 0 rfl) ?_
    refine lv_iload_n S0.1 S0.2.1 dX4_takes_39 rfl (lv_at hl 1 rfl) ?_
    refine q_cV (n := 1) (rest := []) (wr := []) S0 hK hA hW (c_X4_takesOpening l g ps b k1 k2 k3 k4 k5 k6 s1 i1 s2 i2 S i x (hS) (hi) (hx)) gX4_takes_X4_takesOpening rfl rfl rfl (by decide +kernel) ⟨Nat.le_of_ble_eq_true rfl, Nat.le_of_ble_eq_true rfl⟩ [0, 1, 2, 3, 4, 5, 6, 7, 8, 9, 10, 11] [] rfl rfl rfl rfl (by decide) (q_recv hK hW.1 (ci := 4) (q0 := 0) rfl rfl) (fun _ _ => trivial) (trivial) rfl rfl hl.1 (Nat.le_of_ble_eq_true rfl) ⟨Nat.le_of_ble_eq_true rfl, Nat.le_of_ble_eq_true rfl⟩ dX4_takes_40 (fun _ H locs _ hW => ?_)
    have hW : gW g A s.heap H _ [(ps, .inr (4, [.ref b, .int (iI (pA ((tkO S x).1))), .int (iI (pO ((tkO S x).1))), .int (iI (pM ((tkO S x).1)))])), (b, .inr (0, [.ref k1, .ref k2, .ref k3, .ref k4, .ref k5, .ref k6, .int (iI (bN (pB ((tkO S x).1)))), .int (iI (bZ (pB ((tkO S x).1)))), .ref s1, .ref s2])), (k1, gI g 40 (bK (pB ((tkO S x).1)))), (k2, gI g 40 (bU (pB ((tkO S x).1)))), (k3, gI g 40 (bL (pB ((tkO S x).1)))), (k4, gI g 40 (bV (pB ((tkO S x).1)))), (k5, gI g 40 (bD (pB ((tkO S x).1)))), (k6, gI g 40 (bE (pB ((tkO S x).1)))), (s1, .inr (3, [.ref i1, .int (iI (lP (pB ((tkO S x).1))))])), (i1, gI g 40 (lQ (pB ((tkO S x).1)))), (s2, .inr (3, [.ref i2, .int (iI (wP (pB ((tkO S x).1))))])), (i2, gI g 40 (wQ (pB ((tkO S x).1))))] := hW
    refine W.eq (g2 := F0 m 43 ls [.int (iI ((tkO S x).2))]) rfl ?_
    exact q_zret S0 hr hlocks () (trivial) (tkO_01 S x) (by first | (exfalso; omega) | (unfold tk; (repeat (first | rw [if_pos (by omega)] | rw [if_neg (by omega)])); first | done | rfl)) (hW.sub [0, 1, 2, 3, 4, 5, 6, 7, 8, 9, 10, 11] rfl (by first | (exfalso; omega) | (unfold tk; (repeat (first | rw [if_pos (by omega)] | rw [if_neg (by omega)])); first | done | rfl))) (Nat.le_of_ble_eq_true rfl) (Nat.le_of_ble_eq_true rfl) dX4_takes_43
  by_cases k4_2 : pA S = 2
  · refine q_topI k4_2 ?_
    refine lv_tableIn (off := 40) (tgt := 44) S0.1 S0.2.1 dX4_takes_4 (by decide) (by decide) (by decide) (by decide) ?_
    refine lv_aload_n S0.1 S0.2.1 dX4_takes_44 rfl (lv_at hl 0 rfl) ?_
    refine lv_iload_n S0.1 S0.2.1 dX4_takes_45 rfl (lv_at hl 1 rfl) ?_
    refine q_cV (n := 1) (rest := []) (wr := []) S0 hK hA hW (c_X4_takesExponent l g ps b k1 k2 k3 k4 k5 k6 s1 i1 s2 i2 S i x (hS) (hi) (hx)) gX4_takes_X4_takesExponent rfl rfl rfl (by decide +kernel) ⟨Nat.le_of_ble_eq_true rfl, Nat.le_of_ble_eq_true rfl⟩ [0, 1, 2, 3, 4, 5, 6, 7, 8, 9, 10, 11] [] rfl rfl rfl rfl (by decide) (q_recv hK hW.1 (ci := 4) (q0 := 0) rfl rfl) (fun _ _ => trivial) (trivial) rfl rfl hl.1 (Nat.le_of_ble_eq_true rfl) ⟨Nat.le_of_ble_eq_true rfl, Nat.le_of_ble_eq_true rfl⟩ dX4_takes_46 (fun _ H locs _ hW => ?_)
    have hW : gW g A s.heap H _ [(ps, .inr (4, [.ref b, .int (iI (pA ((tkE S x).1))), .int (iI (pO ((tkE S x).1))), .int (iI (pM ((tkE S x).1)))])), (b, .inr (0, [.ref k1, .ref k2, .ref k3, .ref k4, .ref k5, .ref k6, .int (iI (bN (pB ((tkE S x).1)))), .int (iI (bZ (pB ((tkE S x).1)))), .ref s1, .ref s2])), (k1, gI g 40 (bK (pB ((tkE S x).1)))), (k2, gI g 40 (bU (pB ((tkE S x).1)))), (k3, gI g 40 (bL (pB ((tkE S x).1)))), (k4, gI g 40 (bV (pB ((tkE S x).1)))), (k5, gI g 40 (bD (pB ((tkE S x).1)))), (k6, gI g 40 (bE (pB ((tkE S x).1)))), (s1, .inr (3, [.ref i1, .int (iI (lP (pB ((tkE S x).1))))])), (i1, gI g 40 (lQ (pB ((tkE S x).1)))), (s2, .inr (3, [.ref i2, .int (iI (wP (pB ((tkE S x).1))))])), (i2, gI g 40 (wQ (pB ((tkE S x).1))))] := hW
    refine W.eq (g2 := F0 m 49 ls [.int (iI ((tkE S x).2))]) rfl ?_
    exact q_zret S0 hr hlocks () (trivial) (tkE_01 S x) (by first | (exfalso; omega) | (unfold tk; (repeat (first | rw [if_pos (by omega)] | rw [if_neg (by omega)])); first | done | rfl)) (hW.sub [0, 1, 2, 3, 4, 5, 6, 7, 8, 9, 10, 11] rfl (by first | (exfalso; omega) | (unfold tk; (repeat (first | rw [if_pos (by omega)] | rw [if_neg (by omega)])); first | done | rfl))) (Nat.le_of_ble_eq_true rfl) (Nat.le_of_ble_eq_true rfl) dX4_takes_49
  refine lv_tableOut (tgt := 50) S0.1 S0.2.1 dX4_takes_4 (by rw [iI_t (by omega) (by omega)]; omega) (by decide) ?_
  refine lv_aload_n S0.1 S0.2.1 dX4_takes_50 rfl (lv_at hl 0 rfl) ?_
  refine lv_iload_n S0.1 S0.2.1 dX4_takes_51 rfl (lv_at hl 1 rfl) ?_
  refine q_cV (n := 1) (rest := []) (wr := []) S0 hK hA hW (c_X4_takesBehind l g ps b k1 k2 k3 k4 k5 k6 s1 i1 s2 i2 S i x (hS) (hi) (hx)) gX4_takes_X4_takesBehind rfl rfl rfl (by decide +kernel) ⟨Nat.le_of_ble_eq_true rfl, Nat.le_of_ble_eq_true rfl⟩ [0, 1, 2, 3, 4, 5, 6, 7, 8, 9, 10, 11] [] rfl rfl rfl rfl (by decide) (q_recv hK hW.1 (ci := 4) (q0 := 0) rfl rfl) (fun _ _ => trivial) (trivial) rfl rfl hl.1 (Nat.le_of_ble_eq_true rfl) ⟨Nat.le_of_ble_eq_true rfl, Nat.le_of_ble_eq_true rfl⟩ dX4_takes_52 (fun _ H locs _ hW => ?_)
  have hW : gW g A s.heap H _ [(ps, .inr (4, [.ref b, .int (iI (pA ((tkB S x).1))), .int (iI (pO ((tkB S x).1))), .int (iI (pM ((tkB S x).1)))])), (b, .inr (0, [.ref k1, .ref k2, .ref k3, .ref k4, .ref k5, .ref k6, .int (iI (bN (pB ((tkB S x).1)))), .int (iI (bZ (pB ((tkB S x).1)))), .ref s1, .ref s2])), (k1, gI g 40 (bK (pB ((tkB S x).1)))), (k2, gI g 40 (bU (pB ((tkB S x).1)))), (k3, gI g 40 (bL (pB ((tkB S x).1)))), (k4, gI g 40 (bV (pB ((tkB S x).1)))), (k5, gI g 40 (bD (pB ((tkB S x).1)))), (k6, gI g 40 (bE (pB ((tkB S x).1)))), (s1, .inr (3, [.ref i1, .int (iI (lP (pB ((tkB S x).1))))])), (i1, gI g 40 (lQ (pB ((tkB S x).1)))), (s2, .inr (3, [.ref i2, .int (iI (wP (pB ((tkB S x).1))))])), (i2, gI g 40 (wQ (pB ((tkB S x).1))))] := hW
  refine W.eq (g2 := F0 m 55 ls [.int (iI ((tkB S x).2))]) rfl ?_
  exact q_zret S0 hr hlocks () (trivial) (tkB_01 S x) (by first | (exfalso; omega) | (unfold tk; (repeat (first | rw [if_pos (by omega)] | rw [if_neg (by omega)])); first | done | rfl)) (hW.sub [0, 1, 2, 3, 4, 5, 6, 7, 8, 9, 10, 11] rfl (by first | (exfalso; omega) | (unfold tk; (repeat (first | rw [if_pos (by omega)] | rw [if_neg (by omega)])); first | done | rfl))) (Nat.le_of_ble_eq_true rfl) (Nat.le_of_ble_eq_true rfl) dX4_takes_55
set_option maxHeartbeats 4000000 in
set_option maxRecDepth 100000 in
/-- firstError: the reading of the text -/
theorem c_X4_firstError (l : Launch) (g : GG) (ps b k1 k2 k3 k4 k5 k6 s1 i1 s2 i2 t q : Nat) (S : PT) (n : Int) (f : Nat → Int) (hB : WFB (pB S)) (hn : 0 ≤ n ∧ n ≤ 40) (hf : ∀ j, 0 ≤ f j ∧ f j < 65536) : qMet l yX4_firstError wsX4_firstError ({ frames := 6, cells := 0, slots := 0, locals := 150 }) g [.ref ps, .ref t] [(ps, .inr (4, [.ref b, .int (iI (pA S)), .int (iI (pO S)), .int (iI (pM S))])), (b, .inr (0, [.ref k1, .ref k2, .ref k3, .ref k4, .ref k5, .ref k6, .int (iI (bN (pB S))), .int (iI (bZ (pB S))), .ref s1, .ref s2])), (k1, gI g 40 (bK (pB S))), (k2, gI g 40 (bU (pB S))), (k3, gI g 40 (bL (pB S))), (k4, gI g 40 (bV (pB S))), (k5, gI g 40 (bD (pB S))), (k6, gI g 40 (bE (pB S))), (s1, .inr (3, [.ref i1, .int (iI (lP (pB S)))])), (i1, gI g 40 (lQ (pB S))), (s2, .inr (3, [.ref i2, .int (iI (wP (pB S)))])), (i2, gI g 40 (wQ (pB S))), (t, .inr (9, [.ref q, .int (iI n)])), (q, gC g 40 f)] (fun _ => True) (fun _ => True) (S := Unit) (fun _ => some (.int (iI ((fe (pB S) f n).2)))) (fun _ => [(ps, .inr (4, [.ref b, .int (iI (pA ((fe (pB S) f n).1))), .int (iI (pO ((fe (pB S) f n).1))), .int (iI (pM ((fe (pB S) f n).1)))])), (b, .inr (0, [.ref k1, .ref k2, .ref k3, .ref k4, .ref k5, .ref k6, .int (iI (bN (pB ((fe (pB S) f n).1)))), .int (iI (bZ (pB ((fe (pB S) f n).1)))), .ref s1, .ref s2])), (k1, gI g 40 (bK (pB ((fe (pB S) f n).1)))), (k2, gI g 40 (bU (pB ((fe (pB S) f n).1)))), (k3, gI g 40 (bL (pB ((fe (pB S) f n).1)))), (k4, gI g 40 (bV (pB ((fe (pB S) f n).1)))), (k5, gI g 40 (bD (pB ((fe (pB S) f n).1)))), (k6, gI g 40 (bE (pB ((fe (pB S) f n).1)))), (s1, .inr (3, [.ref i1, .int (iI (lP (pB ((fe (pB S) f n).1))))])), (i1, gI g 40 (lQ (pB ((fe (pB S) f n).1)))), (s2, .inr (3, [.ref i2, .int (iI (wP (pB ((fe (pB S) f n).1))))])), (i2, gI g 40 (wQ (pB ((fe (pB S) f n).1)))), (t, .inr (9, [.ref q, .int (iI n)])), (q, gC g 40 f)]) (fun _ => True) 0 0 := by
  refine q_ofW (cc := cX4_firstError) (maxL := 3) (ret := (some .int)) (fun sz h => h.self) (by decide) rfl (Nat.le_of_ble_eq_true rfl) ?_
  intro p e s m args below meth c A ls S0 hr hlocks hnme hK hA hAe hW hD0 hX hl
  have hW : gW g A s.heap s.heap [] [(ps, .inr (4, [.ref b, .int (iI (pA S)), .int (iI (pO S)), .int (iI (pM S))])), (b, .inr (0, [.ref k1, .ref k2, .ref k3, .ref k4, .ref k5, .ref k6, .int (iI (bN (pB S))), .int (iI (bZ (pB S))), .ref s1, .ref s2])), (k1, gI g 40 (bK (pB S))), (k2, gI g 40 (bU (pB S))), (k3, gI g 40 (bL (pB S))), (k4, gI g 40 (bV (pB S))), (k5, gI g 40 (bD (pB S))), (k6, gI g 40 (bE (pB S))), (s1, .inr (3, [.ref i1, .int (iI (lP (pB S)))])), (i1, gI g 40 (lQ (pB S))), (s2, .inr (3, [.ref i2, .int (iI (wP (pB S)))])), (i2, gI g 40 (wQ (pB S))), (t, .inr (9, [.ref q, .int (iI n)])), (q, gC g 40 f)] := hW
  have hl : lv_has ls 3 [(0, .ref ps), (1, .ref t)] := hl
  have hinX4 : ∀ w ∈ wsX40, w ∈ wsX4_firstError := fun w h => List.mem_cons_of_mem _ (List.mem_append_left _ (List.mem_append_left _ (List.mem_append_left _ (List.mem_append_right _ h))))
  refine lv_aload_n S0.1 S0.2.1 dX4_firstError_0 rfl (lv_at hl 0 rfl) ?_
  refine q_get (C := RX4) (T := TX4) (N := 4) S0 hK hW.1 hinX4 0 rfl rfl 0 (by decide) (List.mem_of_getElem? (i := 1) rfl) rfl rfl dX4_firstError_1 ?_
  refine q_cV (n := 0) (rest := []) (wr := [(ps, .inr (4, [.ref b, .int (iI (pA S)), .int (iI (pO S)), .int (iI (pM S))])), (t, .inr (9, [.ref q, .int (iI n)])), (q, gC g 40 f)]) S0 hK hA hW (c_X0_clear l g b k1 k2 k3 k4 k5 k6 s1 i1 s2 i2 (pB S)) gX4_firstError_X0_clear rfl rfl rfl (by decide +kernel) ⟨Nat.le_of_ble_eq_true rfl, Nat.le_of_ble_eq_true rfl⟩ [1, 2, 3, 4, 5, 6, 7, 8, 9, 10, 11] [0, 12, 13] rfl rfl rfl rfl (by decide) (q_recv hK hW.1 (ci := 0) (q0 := 1) rfl rfl) (fun _ _ => trivial) (trivial) rfl rfl hl.1 (Nat.le_of_ble_eq_true rfl) ⟨Nat.le_of_ble_eq_true rfl, Nat.le_of_ble_eq_true rfl⟩ dX4_firstError_4 (fun _ H locs _ hW => ?_)
  have hW : gW g A s.heap H _ [(ps, .inr (4, [.ref b, .int (iI (pA S)), .int (iI (pO S)), .int (iI (pM S))])), (t, .inr (9, [.ref q, .int (iI n)])), (q, gC g 40 f), (b, .inr (0, [.ref k1, .ref k2, .ref k3, .ref k4, .ref k5, .ref k6, .int (iI (bN (sClear (pB S)))), .int (iI (bZ (sClear (pB S)))), .ref s1, .ref s2])), (k1, gI g 40 (bK (sClear (pB S)))), (k2, gI g 40 (bU (sClear (pB S)))), (k3, gI g 40 (bL (sClear (pB S)))), (k4, gI g 40 (bV (sClear (pB S)))), (k5, gI g 40 (bD (sClear (pB S)))), (k6, gI g 40 (bE (sClear (pB S)))), (s1, .inr (3, [.ref i1, .int (iI (lP (sClear (pB S))))])), (i1, gI g 40 (lQ (sClear (pB S)))), (s2, .inr (3, [.ref i2, .int (iI (wP (sClear (pB S))))])), (i2, gI g 40 (wQ (sClear (pB S))))] := hW
  refine W.eq (g2 := F0 m 7 ls []) rfl ?_
  refine lv_aload_n S0.1 S0.2.1 dX4_firstError_7 rfl (lv_at hl 0 rfl) ?_
  refine q_iconst S0 dX4_firstError_8 ?_
  refine q_put (C := RX4) (T := TX4) (N := 4) S0 hK hW hinX4 tyX4_ok nmX4 0 rfl rfl 1 (by decide) (List.mem_of_getElem? (i := 2) rfl) rfl rfl rfl rfl (Nat.le_of_ble_eq_true rfl) dX4_firstError_9 (fun H locs hW => ?_)
  have hW : gW g A s.heap H _ [(ps, .inr (4, [.ref b, .int (iI 0), .int (iI (pO S)), .int (iI (pM S))])), (t, .inr (9, [.ref q, .int (iI n)])), (q, gC g 40 f), (b, .inr (0, [.ref k1, .ref k2, .ref k3, .ref k4, .ref k5, .ref k6, .int (iI (bN (sClear (pB S)))), .int (iI (bZ (sClear (pB S)))), .ref s1, .ref s2])), (k1, gI g 40 (bK (sClear (pB S)))), (k2, gI g 40 (bU (sClear (pB S)))), (k3, gI g 40 (bL (sClear (pB S)))), (k4, gI g 40 (bV (sClear (pB S)))), (k5, gI g 40 (bD (sClear (pB S)))), (k6, gI g 40 (bE (sClear (pB S)))), (s1, .inr (3, [.ref i1, .int (iI (lP (sClear (pB S))))])), (i1, gI g 40 (lQ (sClear (pB S)))), (s2, .inr (3, [.ref i2, .int (iI (wP (sClear (pB S))))])), (i2, gI g 40 (wQ (sClear (pB S))))] := hW
  refine lv_aload_n S0.1 S0.2.1 dX4_firstError_12 rfl (lv_at hl 0 rfl) ?_
  refine q_iconst S0 dX4_firstError_13 ?_
  refine q_put (C := RX4) (T := TX4) (N := 4) S0 hK hW hinX4 tyX4_ok nmX4 0 rfl rfl 2 (by decide) (List.mem_of_getElem? (i := 3) rfl) rfl rfl rfl rfl (Nat.le_of_ble_eq_true rfl) dX4_firstError_14 (fun H locs hW => ?_)
  have hW : gW g A s.heap H _ [(ps, .inr (4, [.ref b, .int (iI 0), .int (iI 0), .int (iI (pM S))])), (t, .inr (9, [.ref q, .int (iI n)])), (q, gC g 40 f), (b, .inr (0, [.ref k1, .ref k2, .ref k3, .ref k4, .ref k5, .ref k6, .int (iI (bN (sClear (pB S)))), .int (iI (bZ (sClear (pB S)))), .ref s1, .ref s2])), (k1, gI g 40 (bK (sClear (pB S)))), (k2, gI g 40 (bU (sClear (pB S)))), (k3, gI g 40 (bL (sClear (pB S)))), (k4, gI g 40 (bV (sClear (pB S)))), (k5, gI g 40 (bD (sClear (pB S)))), (k6, gI g 40 (bE (sClear (pB S)))), (s1, .inr (3, [.ref i1, .int (iI (lP (sClear (pB S))))])), (i1, gI g 40 (lQ (sClear (pB S)))), (s2, .inr (3, [.ref i2, .int (iI (wP (sClear (pB S))))])), (i2, gI g 40 (wQ (sClear (pB S))))] := hW
  refine lv_aload_n S0.1 S0.2.1 dX4_firstError_17 rfl (lv_at hl 0 rfl) ?_
  refine q_iconst S0 dX4_firstError_18 ?_
  refine q_put (C := RX4) (T := TX4) (N := 4) S0 hK hW hinX4 tyX4_ok nmX4 0 rfl rfl 3 (by decide) (List.mem_of_getElem? (i := 4) rfl) rfl rfl rfl rfl (Nat.le_of_ble_eq_true rfl) dX4_firstError_19 (fun H locs hW => ?_)
  have hW : gW g A s.heap H _ [(ps, .inr (4, [.ref b, .int (iI 0), .int (iI 0), .int (iI ((-1)))])), (t, .inr (9, [.ref q, .int (iI n)])), (q, gC g 40 f), (b, .inr (0, [.ref k1, .ref k2, .ref k3, .ref k4, .ref k5, .ref k6, .int (iI (bN (sClear (pB S)))), .int (iI (bZ (sClear (pB S)))), .ref s1, .ref s2])), (k1, gI g 40 (bK (sClear (pB S)))), (k2, gI g 40 (bU (sClear (pB S)))), (k3, gI g 40 (bL (sClear (pB S)))), (k4, gI g 40 (bV (sClear (pB S)))), (k5, gI g 40 (bD (sClear (pB S)))), (k6, gI g 40 (bE (sClear (pB S)))), (s1, .inr (3, [.ref i1, .int (iI (lP (sClear (pB S))))])), (i1, gI g 40 (lQ (sClear (pB S)))), (s2, .inr (3, [.ref i2, .int (iI (wP (sClear (pB S))))])), (i2, gI g 40 (wQ (sClear (pB S))))] := hW
  refine q_iconst S0 dX4_firstError_22 ?_
  refine lv_istore_n (lv' := [(2, .int (iI 0)), (0, .ref ps), (1, .ref t)]) S0.1 S0.2.1 dX4_firstError_23 rfl hl (by decide) rfl (fun ls hl => ?_)
  refine q_loop (α := Int × PT) (fun (z_ : Int × PT) => match z_ with | (i, S1) => WFP i S1 ∧ (0 ≤ i ∧ i ≤ n) ∧ feL f (n - i).toNat i S1 = feL f n.toNat 0 (fe0 (pB S))) (fun (z_ : Int × PT) => match z_ with | (i, S1) => (n - i).toNat) (fun (z_ : Int × PT) => match z_ with | (i, S1) => [(ps, .inr (4, [.ref b, .int (iI (pA S1)), .int (iI (pO S1)), .int (iI (pM S1))])), (t, .inr (9, [.ref q, .int (iI n)])), (q, gC g 40 f), (b, .inr (0, [.ref k1, .ref k2, .ref k3, .ref k4, .ref k5, .ref k6, .int (iI (bN (pB S1))), .int (iI (bZ (pB S1))), .ref s1, .ref s2])), (k1, gI g 40 (bK (pB S1))), (k2, gI g 40 (bU (pB S1))), (k3, gI g 40 (bL (pB S1))), (k4, gI g 40 (bV (pB S1))), (k5, gI g 40 (bD (pB S1))), (k6, gI g 40 (bE (pB S1))), (s1, .inr (3, [.ref i1, .int (iI (lP (pB S1)))])), (i1, gI g 40 (lQ (pB S1))), (s2, .inr (3, [.ref i2, .int (iI (wP (pB S1)))])), (i2, gI g 40 (wQ (pB S1)))]) (fun (z_ : Int × PT) => match z_ with | (i, S1) => [(2, .int (iI i)), (0, .ref ps), (1, .ref t)]) ?_ (0, fe0 (pB S)) (by refine ⟨WF_fe0 hB, by omega, by rw [show (n - 0) = n by omega]⟩) hW (lv_sub hl [0, 1, 2] rfl)
  rintro ⟨i, S1⟩ hinv IHl H locs ls hW hl
  try dsimp only at hinv
  have hW : gW g A s.heap H _ [(ps, .inr (4, [.ref b, .int (iI (pA S1)), .int (iI (pO S1)), .int (iI (pM S1))])), (t, .inr (9, [.ref q, .int (iI n)])), (q, gC g 40 f), (b, .inr (0, [.ref k1, .ref k2, .ref k3, .ref k4, .ref k5, .ref k6, .int (iI (bN (pB S1))), .int (iI (bZ (pB S1))), .ref s1, .ref s2])), (k1, gI g 40 (bK (pB S1))), (k2, gI g 40 (bU (pB S1))), (k3, gI g 40 (bL (pB S1))), (k4, gI g 40 (bV (pB S1))), (k5, gI g 40 (bD (pB S1))), (k6, gI g 40 (bE (pB S1))), (s1, .inr (3, [.ref i1, .int (iI (lP (pB S1)))])), (i1, gI g 40 (lQ (pB S1))), (s2, .inr (3, [.ref i2, .int (iI (wP (pB S1)))])), (i2, gI g 40 (wQ (pB S1)))] := hW
  have hl : lv_has ls 3 [(2, .int (iI i)), (0, .ref ps), (1, .ref t)] := hl
  obtain ⟨hS1, hi, heq⟩ := hinv
  have hfi := hf i.toNat
  have ht := tk_01 S1 (f i.toNat)
  have h3 := hS1.2.2
  refine lv_iload_n S0.1 S0.2.1 dX4_firstError_24 rfl (lv_at hl 0 rfl) ?_
  refine lv_aload_n S0.1 S0.2.1 dX4_firstError_25 rfl (lv_at hl 2 rfl) ?_
  refine q_pV (n := 0) (rest := [.int (iI i)]) S0 hK (c_X9_length l g t q n) (subP hW.1 [1] rfl) (trivial) gX4_firstError_X9_length rfl rfl rfl (by decide +kernel) ⟨Nat.le_of_ble_eq_true rfl, Nat.le_of_ble_eq_true rfl⟩ (q_recv hK hW.1 (ci := 9) (q0 := 1) rfl rfl) rfl rfl hl.1 (Nat.le_of_ble_eq_true rfl) ⟨Nat.le_of_ble_eq_true rfl, Nat.le_of_ble_eq_true rfl⟩ dX4_firstError_26 ?_
  refine W.eq (g2 := F0 m 29 ls [.int (iI n), .int (iI i)]) rfl ?_
  refine q_icmp_ge (tgt := 52) S0 (by omega) dX4_firstError_29 (by decide) (fun c29 => ?_) (fun c29 => ?_)
  · skip
    have heq2 : feL f n.toNat 0 (fe0 (pB S)) = (S1, -2) := by rw [← heq, show (n - i).toNat = 0 by omega]; rfl
    refine lv_aload_n S0.1 S0.2.1 dX4_firstError_52 rfl (lv_at hl 1 rfl) ?_
    refine q_get (C := RX4) (T := TX4) (N := 4) S0 hK hW.1 hinX4 0 rfl rfl 2 (by decide) (List.mem_of_getElem? (i := 3) rfl) rfl rfl dX4_firstError_53 ?_
    refine q_if_gt (tgt := 75) S0 (by omega) dX4_firstError_56 (by decide) (fun c56 => ?_) (fun c56 => ?_)
    · skip
      refine lv_aload_n S0.1 S0.2.1 dX4_firstError_75 rfl (lv_at hl 2 rfl) ?_
      refine q_pV (n := 0) (rest := []) S0 hK (c_X9_length l g t q n) (subP hW.1 [1] rfl) (trivial) gX4_firstError_X9_length rfl rfl rfl (by decide +kernel) ⟨Nat.le_of_ble_eq_true rfl, Nat.le_of_ble_eq_true rfl⟩ (q_recv hK hW.1 (ci := 9) (q0 := 1) rfl rfl) rfl rfl hl.1 (Nat.le_of_ble_eq_true rfl) ⟨Nat.le_of_ble_eq_true rfl, Nat.le_of_ble_eq_true rfl⟩ dX4_firstError_76 ?_
      refine W.eq (g2 := F0 m 79 ls [.int (iI n)]) rfl ?_
      have hfin : fe (pB S) f n = (S1, n) := by
            unfold fe
            rw [heq2]
            unfold feZ
            rw [if_pos rfl, if_pos (by show 0 < pO S1 ∨ (¬ pA S1 = 3 ∧ ¬ pA S1 = 4); omega)]
      exact q_iret S0 hr hlocks () (trivial) (by rw [hfin]) (hW.sub [0, 3, 4, 5, 6, 7, 8, 9, 10, 11, 12, 13, 1, 2] rfl (by rw [hfin]; rfl)) (Nat.le_of_ble_eq_true rfl) (Nat.le_of_ble_eq_true rfl) dX4_firstError_79
    · skip
      refine lv_aload_n S0.1 S0.2.1 dX4_firstError_59 rfl (lv_at hl 1 rfl) ?_
      refine q_get (C := RX4) (T := TX4) (N := 4) S0 hK hW.1 hinX4 0 rfl rfl 1 (by decide) (List.mem_of_getElem? (i := 2) rfl) rfl rfl dX4_firstError_60 ?_
      refine q_iconst S0 dX4_firstError_63 ?_
      refine q_icmp_eq (tgt := 80) S0 (by omega) dX4_firstError_64 (by decide) (fun c64 => ?_) (fun c64 => ?_)
      · skip
        refine lv_aload_n S0.1 S0.2.1 dX4_firstError_80 rfl (lv_at hl 1 rfl) ?_
        refine q_get (C := RX4) (T := TX4) (N := 4) S0 hK hW.1 hinX4 0 rfl rfl 0 (by decide) (List.mem_of_getElem? (i := 1) rfl) rfl rfl dX4_firstError_81 ?_
        refine q_cV (n := 0) (rest := []) (wr := [(ps, .inr (4, [.ref b, .int (iI (pA S1)), .int (iI (pO S1)), .int (iI (pM S1))])), (t, .inr (9, [.ref q, .int (iI n)])), (q, gC g 40 f)]) S0 hK hA hW (c_X0_finish l g b k1 k2 k3 k4 k5 k6 s1 i1 s2 i2 (pB S1) (hS1.1)) gX4_firstError_X0_finish rfl rfl rfl (by decide +kernel) ⟨Nat.le_of_ble_eq_true rfl, Nat.le_of_ble_eq_true rfl⟩ [3, 4, 5, 6, 7, 8, 9, 10, 11, 12, 13] [0, 1, 2] rfl rfl rfl rfl (by decide) (q_recv hK hW.1 (ci := 0) (q0 := 3) rfl rfl) (fun _ _ => trivial) (trivial) rfl rfl hl.1 (Nat.le_of_ble_eq_true rfl) ⟨Nat.le_of_ble_eq_true rfl, Nat.le_of_ble_eq_true rfl⟩ dX4_firstError_84 (fun _ H locs _ hW => ?_)
        have hW : gW g A s.heap H _ [(ps, .inr (4, [.ref b, .int (iI (pA S1)), .int (iI (pO S1)), .int (iI (pM S1))])), (t, .inr (9, [.ref q, .int (iI n)])), (q, gC g 40 f), (b, .inr (0, [.ref k1, .ref k2, .ref k3, .ref k4, .ref k5, .ref k6, .int (iI (bN (sJoinF 1 (pB S1)))), .int (iI (bZ (sJoinF 1 (pB S1)))), .ref s1, .ref s2])), (k1, gI g 40 (bK (sJoinF 1 (pB S1)))), (k2, gI g 40 (bU (sJoinF 1 (pB S1)))), (k3, gI g 40 (bL (sJoinF 1 (pB S1)))), (k4, gI g 40 (bV (sJoinF 1 (pB S1)))), (k5, gI g 40 (bD (sJoinF 1 (pB S1)))), (k6, gI g 40 (bE (sJoinF 1 (pB S1)))), (s1, .inr (3, [.ref i1, .int (iI (lP (sJoinF 1 (pB S1))))])), (i1, gI g 40 (lQ (sJoinF 1 (pB S1)))), (s2, .inr (3, [.ref i2, .int (iI (wP (sJoinF 1 (pB S1))))])), (i2, gI g 40 (wQ (sJoinF 1 (pB S1))))] := hW
        refine W.eq (g2 := F0 m 87 ls []) rfl ?_
        refine q_iconst S0 dX4_firstError_87 ?_
        have hfin : fe (pB S) f n = (mkP (sJoinF 1 (pB S1)) (pA S1) (pO S1) (pM S1), -1) := by
              unfold fe
              rw [heq2]
              unfold feZ
              rw [if_pos rfl, if_neg (by show ¬ (0 < pO S1 ∨ (¬ pA S1 = 3 ∧ ¬ pA S1 = 4)); omega)]
        exact q_iret S0 hr hlocks () (trivial) (by rw [hfin]) (hW.sub [0, 3, 4, 5, 6, 7, 8, 9, 10, 11, 12, 13, 1, 2] rfl (by rw [hfin]; rfl)) (Nat.le_of_ble_eq_true rfl) (Nat.le_of_ble_eq_true rfl) dX4_firstError_88
      · skip
        refine lv_aload_n S0.1 S0.2.1 dX4_firstError_67 rfl (lv_at hl 1 rfl) ?_
        refine q_get (C := RX4) (T := TX4) (N := 4) S0 hK hW.1 hinX4 0 rfl rfl 1 (by decide) (List.mem_of_getElem? (i := 2) rfl) rfl rfl dX4_firstError_68 ?_
        refine q_iconst S0 dX4_firstError_71 ?_
        refine q_icmp_eq (tgt := 80) S0 (by omega) dX4_firstError_72 (by decide) (fun c72 => ?_) (fun c72 => ?_)
        · skip
          refine lv_aload_n S0.1 S0.2.1 dX4_firstError_80 rfl (lv_at hl 1 rfl) ?_
          refine q_get (C := RX4) (T := TX4) (N := 4) S0 hK hW.1 hinX4 0 rfl rfl 0 (by decide) (List.mem_of_getElem? (i := 1) rfl) rfl rfl dX4_firstError_81 ?_
          refine q_cV (n := 0) (rest := []) (wr := [(ps, .inr (4, [.ref b, .int (iI (pA S1)), .int (iI (pO S1)), .int (iI (pM S1))])), (t, .inr (9, [.ref q, .int (iI n)])), (q, gC g 40 f)]) S0 hK hA hW (c_X0_finish l g b k1 k2 k3 k4 k5 k6 s1 i1 s2 i2 (pB S1) (hS1.1)) gX4_firstError_X0_finish rfl rfl rfl (by decide +kernel) ⟨Nat.le_of_ble_eq_true rfl, Nat.le_of_ble_eq_true rfl⟩ [3, 4, 5, 6, 7, 8, 9, 10, 11, 12, 13] [0, 1, 2] rfl rfl rfl rfl (by decide) (q_recv hK hW.1 (ci := 0) (q0 := 3) rfl rfl) (fun _ _ => trivial) (trivial) rfl rfl hl.1 (Nat.le_of_ble_eq_true rfl) ⟨Nat.le_of_ble_eq_true rfl, Nat.le_of_ble_eq_true rfl⟩ dX4_firstError_84 (fun _ H locs _ hW => ?_)
          have hW : gW g A s.heap H _ [(ps, .inr (4, [.ref b, .int (iI (pA S1)), .int (iI (pO S1)), .int (iI (pM S1))])), (t, .inr (9, [.ref q, .int (iI n)])), (q, gC g 40 f), (b, .inr (0, [.ref k1, .ref k2, .ref k3, .ref k4, .ref k5, .ref k6, .int (iI (bN (sJoinF 1 (pB S1)))), .int (iI (bZ (sJoinF 1 (pB S1)))), .ref s1, .ref s2])), (k1, gI g 40 (bK (sJoinF 1 (pB S1)))), (k2, gI g 40 (bU (sJoinF 1 (pB S1)))), (k3, gI g 40 (bL (sJoinF 1 (pB S1)))), (k4, gI g 40 (bV (sJoinF 1 (pB S1)))), (k5, gI g 40 (bD (sJoinF 1 (pB S1)))), (k6, gI g 40 (bE (sJoinF 1 (pB S1)))), (s1, .inr (3, [.ref i1, .int (iI (lP (sJoinF 1 (pB S1))))])), (i1, gI g 40 (lQ (sJoinF 1 (pB S1)))), (s2, .inr (3, [.ref i2, .int (iI (wP (sJoinF 1 (pB S1))))])), (i2, gI g 40 (wQ (sJoinF 1 (pB S1))))] := hW
          refine W.eq (g2 := F0 m 87 ls []) rfl ?_
          refine q_iconst S0 dX4_firstError_87 ?_
          have hfin : fe (pB S) f n = (mkP (sJoinF 1 (pB S1)) (pA S1) (pO S1) (pM S1), -1) := by
                unfold fe
                rw [heq2]
                unfold feZ
                rw [if_pos rfl, if_neg (by show ¬ (0 < pO S1 ∨ (¬ pA S1 = 3 ∧ ¬ pA S1 = 4)); omega)]
          exact q_iret S0 hr hlocks () (trivial) (by rw [hfin]) (hW.sub [0, 3, 4, 5, 6, 7, 8, 9, 10, 11, 12, 13, 1, 2] rfl (by rw [hfin]; rfl)) (Nat.le_of_ble_eq_true rfl) (Nat.le_of_ble_eq_true rfl) dX4_firstError_88
        · skip
          refine lv_aload_n S0.1 S0.2.1 dX4_firstError_75 rfl (lv_at hl 2 rfl) ?_
          refine q_pV (n := 0) (rest := []) S0 hK (c_X9_length l g t q n) (subP hW.1 [1] rfl) (trivial) gX4_firstError_X9_length rfl rfl rfl (by decide +kernel) ⟨Nat.le_of_ble_eq_true rfl, Nat.le_of_ble_eq_true rfl⟩ (q_recv hK hW.1 (ci := 9) (q0 := 1) rfl rfl) rfl rfl hl.1 (Nat.le_of_ble_eq_true rfl) ⟨Nat.le_of_ble_eq_true rfl, Nat.le_of_ble_eq_true rfl⟩ dX4_firstError_76 ?_
          refine W.eq (g2 := F0 m 79 ls [.int (iI n)]) rfl ?_
          have hfin : fe (pB S) f n = (S1, n) := by
                unfold fe
                rw [heq2]
                unfold feZ
                rw [if_pos rfl, if_pos (by show 0 < pO S1 ∨ (¬ pA S1 = 3 ∧ ¬ pA S1 = 4); omega)]
          exact q_iret S0 hr hlocks () (trivial) (by rw [hfin]) (hW.sub [0, 3, 4, 5, 6, 7, 8, 9, 10, 11, 12, 13, 1, 2] rfl (by rw [hfin]; rfl)) (Nat.le_of_ble_eq_true rfl) (Nat.le_of_ble_eq_true rfl) dX4_firstError_79
  · skip
    refine lv_aload_n S0.1 S0.2.1 dX4_firstError_32 rfl (lv_at hl 1 rfl) ?_
    refine lv_aload_n S0.1 S0.2.1 dX4_firstError_33 rfl (lv_at hl 2 rfl) ?_
    refine lv_iload_n S0.1 S0.2.1 dX4_firstError_34 rfl (lv_at hl 0 rfl) ?_
    refine q_pV (n := 1) (rest := [.ref ps]) S0 hK (c_X9_characterAt l g t q n f i (by omega) (hf)) (subP hW.1 [1, 2] rfl) (trivial) gX4_firstError_X9_characterAt rfl rfl rfl (by decide +kernel) ⟨Nat.le_of_ble_eq_true rfl, Nat.le_of_ble_eq_true rfl⟩ (q_recv hK hW.1 (ci := 9) (q0 := 1) rfl rfl) rfl rfl hl.1 (Nat.le_of_ble_eq_true rfl) ⟨Nat.le_of_ble_eq_true rfl, Nat.le_of_ble_eq_true rfl⟩ dX4_firstError_35 ?_
    refine W.eq (g2 := F0 m 38 ls [.int (iI (if 0 ≤ i ∧ i < 40 then f i.toNat else 0)), .ref ps]) rfl ?_
    refine q_topI (b := f i.toNat) (by rw [if_pos (by omega)]) ?_
    refine q_cV (n := 1) (rest := []) (wr := [(t, .inr (9, [.ref q, .int (iI n)])), (q, gC g 40 f)]) S0 hK hA hW (c_X4_takes l g ps b k1 k2 k3 k4 k5 k6 s1 i1 s2 i2 S1 i (f i.toNat) (hS1) (by omega) (by omega)) gX4_firstError_X4_takes rfl rfl rfl (by decide +kernel) ⟨Nat.le_of_ble_eq_true rfl, Nat.le_of_ble_eq_true rfl⟩ [0, 3, 4, 5, 6, 7, 8, 9, 10, 11, 12, 13] [1, 2] rfl rfl rfl rfl (by decide) (q_recv hK hW.1 (ci := 4) (q0 := 0) rfl rfl) (fun _ _ => trivial) (trivial) rfl rfl hl.1 (Nat.le_of_ble_eq_true rfl) ⟨Nat.le_of_ble_eq_true rfl, Nat.le_of_ble_eq_true rfl⟩ dX4_firstError_38 (fun _ H locs _ hW => ?_)
    have hW : gW g A s.heap H _ [(t, .inr (9, [.ref q, .int (iI n)])), (q, gC g 40 f), (ps, .inr (4, [.ref b, .int (iI (pA ((tk S1 (f i.toNat)).1))), .int (iI (pO ((tk S1 (f i.toNat)).1))), .int (iI (pM ((tk S1 (f i.toNat)).1)))])), (b, .inr (0, [.ref k1, .ref k2, .ref k3, .ref k4, .ref k5, .ref k6, .int (iI (bN (pB ((tk S1 (f i.toNat)).1)))), .int (iI (bZ (pB ((tk S1 (f i.toNat)).1)))), .ref s1, .ref s2])), (k1, gI g 40 (bK (pB ((tk S1 (f i.toNat)).1)))), (k2, gI g 40 (bU (pB ((tk S1 (f i.toNat)).1)))), (k3, gI g 40 (bL (pB ((tk S1 (f i.toNat)).1)))), (k4, gI g 40 (bV (pB ((tk S1 (f i.toNat)).1)))), (k5, gI g 40 (bD (pB ((tk S1 (f i.toNat)).1)))), (k6, gI g 40 (bE (pB ((tk S1 (f i.toNat)).1)))), (s1, .inr (3, [.ref i1, .int (iI (lP (pB ((tk S1 (f i.toNat)).1))))])), (i1, gI g 40 (lQ (pB ((tk S1 (f i.toNat)).1)))), (s2, .inr (3, [.ref i2, .int (iI (wP (pB ((tk S1 (f i.toNat)).1))))])), (i2, gI g 40 (wQ (pB ((tk S1 (f i.toNat)).1))))] := hW
    refine W.eq (g2 := F0 m 41 ls [.int (iI ((tk S1 (f i.toNat)).2))]) rfl ?_
    refine q_if_ne (tgt := 46) S0 (by omega) dX4_firstError_41 (by decide) (fun c41 => ?_) (fun c41 => ?_)
    · skip
      refine q_iinc (lv' := [(2, .int (iI (i + 1))), (0, .ref ps), (1, .ref t)]) S0 dX4_firstError_46 hl (k := 0) rfl (by decide) rfl (fun ls hl => ?_)
      refine lv_goto (tgt := 24) S0.1 S0.2.1 dX4_firstError_49 (by decide) ?_
      exact IHl (i + 1, (tk S1 (f i.toNat)).1) H locs ls (by refine ⟨WF_tk hS1 (by omega) (by omega), by omega, ?_⟩; rw [← heq, show (n - i).toNat = (n - (i + 1)).toNat + 1 by omega, feL_step c41]) (by (try dsimp only); omega) (hW.sub [2, 0, 1, 3, 4, 5, 6, 7, 8, 9, 10, 11, 12, 13] rfl rfl) (lv_sub hl [0, 1, 2] rfl)
    · skip
      refine lv_iload_n S0.1 S0.2.1 dX4_firstError_44 rfl (lv_at hl 0 rfl) ?_
      have hfin : fe (pB S) f n = ((tk S1 (f i.toNat)).1, i) := by
            unfold fe
            rw [← heq, show (n - i).toNat = (n - (i + 1)).toNat + 1 by omega, feL_stop c41]
            unfold feZ
            rw [if_neg (by show ¬ i = -2; omega)]
      exact q_iret S0 hr hlocks () (trivial) (by rw [hfin]) (hW.sub [2, 3, 4, 5, 6, 7, 8, 9, 10, 11, 12, 13, 0, 1] rfl (by rw [hfin]; rfl)) (Nat.le_of_ble_eq_true rfl) (Nat.le_of_ble_eq_true rfl) dX4_firstError_45
set_option maxHeartbeats 4000000 in
set_option maxRecDepth 100000 in
theorem c_X4_leastDefinable (l : Launch) (g : GG) (ps b k1 k2 k3 k4 k5 k6 s1 s2 : Nat) (S : PT) : qPure l yX4_leastDefinable wsX4_leastDefinable ({ frames := 1, cells := 0, slots := 0, locals := 20 }) g [.ref ps] [(ps, .inr (4, [.ref b, .int (iI (pA S)), .int (iI (pO S)), .int (iI (pM S))])), (b, .inr (0, [.ref k1, .ref k2, .ref k3, .ref k4, .ref k5, .ref k6, .int (iI (bN (pB S))), .int (iI (bZ (pB S))), .ref s1, .ref s2]))] (fun _ => True) (some (.int (iI (bZ (pB S))))) := by
  refine q_ofP (cc := cX4_leastDefinable) (maxL := 1) (ret := (some .int)) (by decide) rfl (Nat.le_of_ble_eq_true rfl) ?_
  intro p e s m args below meth c ls S0 hr hlocks hK hP hX hl
  have hP : va_P g.1 vwCl [(ps, .inr (4, [.ref b, .int (iI (pA S)), .int (iI (pO S)), .int (iI (pM S))])), (b, .inr (0, [.ref k1, .ref k2, .ref k3, .ref k4, .ref k5, .ref k6, .int (iI (bN (pB S))), .int (iI (bZ (pB S))), .ref s1, .ref s2]))] s.heap := hP
  have hl : lv_has ls 1 [(0, .ref ps)] := hl
  have hinX4 : ∀ w ∈ wsX40, w ∈ wsX4_leastDefinable := fun w h => List.mem_cons_of_mem _ (List.mem_append_left _ (List.mem_append_right _ h))
  refine lv_aload_n S0.1 S0.2.1 dX4_leastDefinable_0 rfl (lv_at hl 0 rfl) ?_
  refine q_get (C := RX4) (T := TX4) (N := 4) S0 hK hP hinX4 0 rfl rfl 0 (by decide) (List.mem_of_getElem? (i := 1) rfl) rfl rfl dX4_leastDefinable_1 ?_
  refine q_pV (n := 0) (rest := []) S0 hK (c_X0_leastDefinable l g b k1 k2 k3 k4 k5 k6 s1 s2 (pB S)) (subP hP [1] rfl) (trivial) gX4_leastDefinable_X0_leastDefinable rfl rfl rfl (by decide +kernel) ⟨Nat.le_of_ble_eq_true rfl, Nat.le_of_ble_eq_true rfl⟩ (q_recv hK hP (ci := 0) (q0 := 1) rfl rfl) rfl rfl hl.1 (Nat.le_of_ble_eq_true rfl) ⟨Nat.le_of_ble_eq_true rfl, Nat.le_of_ble_eq_true rfl⟩ dX4_leastDefinable_4 ?_
  refine W.eq (g2 := F0 m 7 ls [.int (iI (bZ (pB S)))]) rfl ?_
  exact qp_iret S0 hr hlocks (rfl) dX4_leastDefinable_7
