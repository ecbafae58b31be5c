set_option maxHeartbeats 4000000 in
set_option maxRecDepth 100000 in
/-- at(row, i): what stands there, 0 outside -/
theorem c_X10_at (l : Launch) (g : GG) (a n : Nat) (f : Nat → Int) (i : Int) (hn : n < 100000) (hi : -2147483648 ≤ i ∧ i < 2147483648) : qPure l yX10_at wsX10_at ({ frames := 0, cells := 0, slots := 0, locals := 0 }) g [.ref a, .int (iI i)] [(a, gI g n f)] (fun _ => True) (some (.int (iI (at0 n f i)))) := by
  refine q_ofP (cc := cX10_at) (maxL := 2) (ret := (some .int)) (by decide) rfl (Nat.le_of_ble_eq_true rfl) ?_
  intro p e s m args below meth c ls S0 hr hlocks hK hP hX hl
  have hP : va_P g.1 vwCl [(a, gI g n f)] s.heap := hP
  have hl : lv_has ls 2 [(0, .ref a), (1, .int (iI i))] := hl
  refine lv_iload_n S0.1 S0.2.1 dX10_at_0 rfl (lv_at hl 1 rfl) ?_
  refine q_if_lt (tgt := 16) S0 (by omega) dX10_at_1 (by decide) (fun c1 => ?_) (fun c1 => ?_)
  · skip
    refine q_iconst S0 dX10_at_16 ?_
    exact qp_iret S0 hr hlocks (by simp only [at0]; first | rw [if_pos (by omega)] | rw [if_neg (by omega)]) dX10_at_17
  · skip
    refine lv_iload_n S0.1 S0.2.1 dX10_at_4 rfl (lv_at hl 1 rfl) ?_
    refine lv_aload_n S0.1 S0.2.1 dX10_at_5 rfl (lv_at hl 0 rfl) ?_
    refine q_alen (z := ((n : Nat) : Int)) S0 hK hP 0 rfl rfl dX10_at_6 ?_
    refine q_icmp_ge (tgt := 16) S0 (by omega) dX10_at_7 (by decide) (fun c7 => ?_) (fun c7 => ?_)
    · skip
      refine q_iconst S0 dX10_at_16 ?_
      exact qp_iret S0 hr hlocks (by simp only [at0]; first | rw [if_pos (by omega)] | rw [if_neg (by omega)]) dX10_at_17
    · skip
      refine lv_aload_n S0.1 S0.2.1 dX10_at_10 rfl (lv_at hl 0 rfl) ?_
      refine lv_iload_n S0.1 S0.2.1 dX10_at_11 rfl (lv_at hl 1 rfl) ?_
      refine q_iald S0 hK hP 0 rfl (by omega) dX10_at_12 ?_
      refine lv_goto (tgt := 17) S0.1 S0.2.1 dX10_at_13 (by decide) ?_
      exact qp_iret S0 hr hlocks (by simp only [at0]; first | rw [if_pos (by omega)] | rw [if_neg (by omega)]) dX10_at_17
set_option maxHeartbeats 4000000 in
set_option maxRecDepth 100000 in
/-- put(row, i, x): changes that place, if there is one -/
theorem c_X10_put (l : Launch) (g : GG) (a n : Nat) (f : Nat → Int) (i x : Int) (hn : n < 100000) (hi : -2147483648 ≤ i ∧ i < 2147483648) : qMet l yX10_put wsX10_put ({ frames := 0, cells := 0, slots := 0, locals := 0 }) g [.ref a, .int (iI i), .int (iI x)] [(a, gI g n f)] (fun _ => True) (fun _ => True) (S := Unit) (fun _ => none) (fun _ => [(a, gI g n (put0 n f i x))]) (fun _ => True) 0 0 := by
  refine q_ofW (cc := cX10_put) (maxL := 3) (ret := none) (fun sz h => h.self) (by decide) rfl (Nat.le_of_ble_eq_true rfl) ?_
  intro p e s m args below meth c A ls S0 hr hlocks hnme hK hA hAe hW hD0 hX hl
  have hW : gW g A s.heap s.heap [] [(a, gI g n f)] := hW
  have hl : lv_has ls 3 [(0, .ref a), (1, .int (iI i)), (2, .int (iI x))] := hl
  refine lv_iload_n S0.1 S0.2.1 dX10_put_0 rfl (lv_at hl 1 rfl) ?_
  refine q_if_lt (tgt := 14) S0 (by omega) dX10_put_1 (by decide) (fun c1 => ?_) (fun c1 => ?_)
  · skip
    exact q_vret S0 hr hlocks () (trivial) rfl (hW.sub [0] rfl (by simp only [put0]; first | (rw [if_pos (by omega)]; rfl) | (rw [if_neg (by omega)]; rfl))) (Nat.le_of_ble_eq_true rfl) (Nat.le_of_ble_eq_true rfl) dX10_put_14
  · skip
    refine lv_iload_n S0.1 S0.2.1 dX10_put_4 rfl (lv_at hl 1 rfl) ?_
    refine lv_aload_n S0.1 S0.2.1 dX10_put_5 rfl (lv_at hl 0 rfl) ?_
    refine q_alen (z := ((n : Nat) : Int)) S0 hK hW.1 0 rfl rfl dX10_put_6 ?_
    refine q_icmp_ge (tgt := 14) S0 (by omega) dX10_put_7 (by decide) (fun c7 => ?_) (fun c7 => ?_)
    · skip
      exact q_vret S0 hr hlocks () (trivial) rfl (hW.sub [0] rfl (by simp only [put0]; first | (rw [if_pos (by omega)]; rfl) | (rw [if_neg (by omega)]; rfl))) (Nat.le_of_ble_eq_true rfl) (Nat.le_of_ble_eq_true rfl) dX10_put_14
    · skip
      refine lv_aload_n S0.1 S0.2.1 dX10_put_10 rfl (lv_at hl 0 rfl) ?_
      refine lv_iload_n S0.1 S0.2.1 dX10_put_11 rfl (lv_at hl 1 rfl) ?_
      refine lv_iload_n S0.1 S0.2.1 dX10_put_12 rfl (lv_at hl 2 rfl) ?_
      refine q_iast S0 hK hW 0 rfl (by omega) dX10_put_13 (fun H locs hW => ?_)
      have hW : gW g A s.heap H _ [(a, gI g n (up f ((i).toNat) x))] := hW
      exact q_vret S0 hr hlocks () (trivial) rfl (hW.sub [0] rfl (by simp only [put0]; first | (rw [if_pos (by omega)]; rfl) | (rw [if_neg (by omega)]; rfl))) (Nat.le_of_ble_eq_true rfl) (Nat.le_of_ble_eq_true rfl) dX10_put_14
set_option maxHeartbeats 4000000 in
set_option maxRecDepth 100000 in
theorem c_X3_count (l : Launch) (g : GG) (a q : Nat) (n : Int) : qPure l yX3_count wsX3_count ({ frames := 0, cells := 0, slots := 0, locals := 0 }) g [.ref a] [(a, .inr (3, [.ref q, .int (iI n)]))] (fun _ => True) (some (.int (iI n))) := by
  refine q_ofP (cc := cX3_count) (maxL := 1) (ret := (some .int)) (by decide) rfl (Nat.le_of_ble_eq_true rfl) ?_
  intro p e s m args below meth c ls S0 hr hlocks hK hP hX hl
  have hP : va_P g.1 vwCl [(a, .inr (3, [.ref q, .int (iI n)]))] s.heap := hP
  have hl : lv_has ls 1 [(0, .ref a)] := hl
  have hinX3 : ∀ w ∈ wsX30, w ∈ wsX3_count := fun w h => List.mem_cons_of_mem _ (List.mem_append_right _ h)
  refine lv_aload_n S0.1 S0.2.1 dX3_count_0 rfl (lv_at hl 0 rfl) ?_
  refine q_get (C := RX3) (T := TX3) (N := 2) S0 hK hP hinX3 0 rfl rfl 1 (by decide) (List.mem_of_getElem? (i := 1) rfl) rfl rfl dX3_count_1 ?_
  exact qp_iret S0 hr hlocks (rfl) dX3_count_4
set_option maxHeartbeats 4000000 in
set_option maxRecDepth 100000 in
theorem c_X3_clear (l : Launch) (g : GG) (a q : Nat) (n : Int) : qMet l yX3_clear wsX3_clear ({ frames := 0, cells := 0, slots := 0, locals := 0 }) g [.ref a] [(a, .inr (3, [.ref q, .int (iI n)]))] (fun _ => True) (fun _ => True) (S := Unit) (fun _ => none) (fun _ => [(a, .inr (3, [.ref q, .int (iI 0)]))]) (fun _ => True) 0 0 := by
  refine q_ofW (cc := cX3_clear) (maxL := 1) (ret := none) (fun sz h => h.self) (by decide) rfl (Nat.le_of_ble_eq_true rfl) ?_
  intro p e s m args below meth c A ls S0 hr hlocks hnme hK hA hAe hW hD0 hX hl
  have hW : gW g A s.heap s.heap [] [(a, .inr (3, [.ref q, .int (iI n)]))] := hW
  have hl : lv_has ls 1 [(0, .ref a)] := hl
  have hinX3 : ∀ w ∈ wsX30, w ∈ wsX3_clear := fun w h => List.mem_cons_of_mem _ (List.mem_append_right _ h)
  refine lv_aload_n S0.1 S0.2.1 dX3_clear_0 rfl (lv_at hl 0 rfl) ?_
  refine q_iconst S0 dX3_clear_1 ?_
  refine q_put (C := RX3) (T := TX3) (N := 2) S0 hK hW hinX3 tyX3_ok nmX3 0 rfl rfl 1 (by decide) (List.mem_of_getElem? (i := 1) rfl) rfl rfl rfl rfl (Nat.le_of_ble_eq_true rfl) dX3_clear_2 (fun H locs hW => ?_)
  have hW : gW g A s.heap H _ [(a, .inr (3, [.ref q, .int (iI 0)]))] := hW
  exact q_vret S0 hr hlocks () (trivial) rfl (hW.sub [0] rfl (rfl)) (Nat.le_of_ble_eq_true rfl) (Nat.le_of_ble_eq_true rfl) dX3_clear_5
set_option maxHeartbeats 4000000 in
set_option maxRecDepth 100000 in
/-- push: on top, if there is room -/
theorem c_X3_push (l : Launch) (g : GG) (a q : Nat) (n : Int) (f : Nat → Int) (x : Int) (hn : 0 ≤ n ∧ n ≤ 40) : qMet l yX3_push wsX3_push ({ frames := 0, cells := 0, slots := 0, locals := 0 }) g [.ref a, .int (iI x)] [(a, .inr (3, [.ref q, .int (iI n)])), (q, gI g 40 f)] (fun _ => True) (fun _ => True) (S := Unit) (fun _ => none) (fun _ => [(a, .inr (3, [.ref q, .int (iI (pN n))])), (q, gI g 40 (pF n f x))]) (fun _ => True) 0 0 := by
  refine q_ofW (cc := cX3_push) (maxL := 2) (ret := none) (fun sz h => h.self) (by decide) rfl (Nat.le_of_ble_eq_true rfl) ?_
  intro p e s m args below meth c A ls S0 hr hlocks hnme hK hA hAe hW hD0 hX hl
  have hW : gW g A s.heap s.heap [] [(a, .inr (3, [.ref q, .int (iI n)])), (q, gI g 40 f)] := hW
  have hl : lv_has ls 2 [(0, .ref a), (1, .int (iI x))] := hl
  have hinX3 : ∀ w ∈ wsX30, w ∈ wsX3_push := fun w h => List.mem_cons_of_mem _ (List.mem_append_right _ h)
  refine lv_aload_n S0.1 S0.2.1 dX3_push_0 rfl (lv_at hl 0 rfl) ?_
  refine q_get (C := RX3) (T := TX3) (N := 2) S0 hK hW.1 hinX3 0 rfl rfl 1 (by decide) (List.mem_of_getElem? (i := 1) rfl) rfl rfl dX3_push_1 ?_
  refine q_if_lt (tgt := 39) S0 (by omega) dX3_push_4 (by decide) (fun c4 => ?_) (fun c4 => ?_)
  · skip
    exact absurd c4 (by omega)
  · skip
    refine lv_aload_n S0.1 S0.2.1 dX3_push_7 rfl (lv_at hl 0 rfl) ?_
    refine q_get (C := RX3) (T := TX3) (N := 2) S0 hK hW.1 hinX3 0 rfl rfl 1 (by decide) (List.mem_of_getElem? (i := 1) rfl) rfl rfl dX3_push_8 ?_
    refine lv_aload_n S0.1 S0.2.1 dX3_push_11 rfl (lv_at hl 0 rfl) ?_
    refine q_get (C := RX3) (T := TX3) (N := 2) S0 hK hW.1 hinX3 0 rfl rfl 0 (by decide) (List.mem_of_getElem? (i := 2) rfl) rfl rfl dX3_push_12 ?_
    refine q_alen (z := 40) S0 hK hW.1 1 rfl rfl dX3_push_15 ?_
    refine q_icmp_ge (tgt := 39) S0 (by omega) dX3_push_16 (by decide) (fun c16 => ?_) (fun c16 => ?_)
    · skip
      exact q_vret S0 hr hlocks () (trivial) rfl (hW.sub [0, 1] rfl (by simp only [pN, pF]; first | (rw [if_pos (by omega), if_pos (by omega)]; rfl) | (rw [if_neg (by omega), if_neg (by omega)]; rfl) | (exfalso; omega))) (Nat.le_of_ble_eq_true rfl) (Nat.le_of_ble_eq_true rfl) dX3_push_39
    · skip
      refine lv_aload_n S0.1 S0.2.1 dX3_push_19 rfl (lv_at hl 0 rfl) ?_
      refine q_get (C := RX3) (T := TX3) (N := 2) S0 hK hW.1 hinX3 0 rfl rfl 0 (by decide) (List.mem_of_getElem? (i := 2) rfl) rfl rfl dX3_push_20 ?_
      refine lv_aload_n S0.1 S0.2.1 dX3_push_23 rfl (lv_at hl 0 rfl) ?_
      refine q_get (C := RX3) (T := TX3) (N := 2) S0 hK hW.1 hinX3 0 rfl rfl 1 (by decide) (List.mem_of_getElem? (i := 1) rfl) rfl rfl dX3_push_24 ?_
      refine lv_iload_n S0.1 S0.2.1 dX3_push_27 rfl (lv_at hl 1 rfl) ?_
      refine q_iast S0 hK hW 1 rfl (by omega) dX3_push_28 (fun H locs hW => ?_)
      have hW : gW g A s.heap H _ [(a, .inr (3, [.ref q, .int (iI n)])), (q, gI g 40 (up f ((n).toNat) x))] := hW
      refine lv_aload_n S0.1 S0.2.1 dX3_push_29 rfl (lv_at hl 0 rfl) ?_
      refine lv_dup S0.1 S0.2.1 dX3_push_30 rfl ?_
      refine q_get (C := RX3) (T := TX3) (N := 2) S0 hK hW.1 hinX3 0 rfl rfl 1 (by decide) (List.mem_of_getElem? (i := 1) rfl) rfl rfl dX3_push_31 ?_
      refine q_iconst S0 dX3_push_34 ?_
      refine q_iadd S0 dX3_push_35 ?_
      refine q_put (C := RX3) (T := TX3) (N := 2) S0 hK hW hinX3 tyX3_ok nmX3 0 rfl rfl 1 (by decide) (List.mem_of_getElem? (i := 1) rfl) rfl rfl rfl rfl (Nat.le_of_ble_eq_true rfl) dX3_push_36 (fun H locs hW => ?_)
      have hW : gW g A s.heap H _ [(a, .inr (3, [.ref q, .int (iI (n + 1))])), (q, gI g 40 (up f ((n).toNat) x))] := hW
      exact q_vret S0 hr hlocks () (trivial) rfl (hW.sub [0, 1] rfl (by simp only [pN, pF]; first | (rw [if_pos (by omega), if_pos (by omega)]; rfl) | (rw [if_neg (by omega), if_neg (by omega)]; rfl) | (exfalso; omega))) (Nat.le_of_ble_eq_true rfl) (Nat.le_of_ble_eq_true rfl) dX3_push_39
set_option maxHeartbeats 4000000 in
set_option maxRecDepth 100000 in
theorem c_X3_top (l : Launch) (g : GG) (a q : Nat) (n : Int) (f : Nat → Int) (hn : 0 ≤ n ∧ n ≤ 40) : qPure l yX3_top wsX3_top ({ frames := 0, cells := 0, slots := 0, locals := 0 }) g [.ref a] [(a, .inr (3, [.ref q, .int (iI n)])), (q, gI g 40 f)] (fun _ => True) (some (.int (iI (tp n f)))) := by
  refine q_ofP (cc := cX3_top) (maxL := 1) (ret := (some .int)) (by decide) rfl (Nat.le_of_ble_eq_true rfl) ?_
  intro p e s m args below meth c ls S0 hr hlocks hK hP hX hl
  have hP : va_P g.1 vwCl [(a, .inr (3, [.ref q, .int (iI n)])), (q, gI g 40 f)] s.heap := hP
  have hl : lv_has ls 1 [(0, .ref a)] := hl
  have hinX3 : ∀ w ∈ wsX30, w ∈ wsX3_top := fun w h => List.mem_cons_of_mem _ (List.mem_append_right _ h)
  refine lv_aload_n S0.1 S0.2.1 dX3_top_0 rfl (lv_at hl 0 rfl) ?_
  refine q_get (C := RX3) (T := TX3) (N := 2) S0 hK hP hinX3 0 rfl rfl 1 (by decide) (List.mem_of_getElem? (i := 1) rfl) rfl rfl dX3_top_1 ?_
  refine q_if_le (tgt := 33) S0 (by omega) dX3_top_4 (by decide) (fun c4 => ?_) (fun c4 => ?_)
  · skip
    refine q_iconst S0 dX3_top_33 ?_
    exact qp_iret S0 hr hlocks (by unfold tp; first | (rw [if_pos (by omega)]; done) | (rw [if_neg (by omega)]; done) | (exfalso; omega)) dX3_top_34
  · skip
    refine lv_aload_n S0.1 S0.2.1 dX3_top_7 rfl (lv_at hl 0 rfl) ?_
    refine q_get (C := RX3) (T := TX3) (N := 2) S0 hK hP hinX3 0 rfl rfl 1 (by decide) (List.mem_of_getElem? (i := 1) rfl) rfl rfl dX3_top_8 ?_
    refine lv_aload_n S0.1 S0.2.1 dX3_top_11 rfl (lv_at hl 0 rfl) ?_
    refine q_get (C := RX3) (T := TX3) (N := 2) S0 hK hP hinX3 0 rfl rfl 0 (by decide) (List.mem_of_getElem? (i := 2) rfl) rfl rfl dX3_top_12 ?_
    refine q_alen (z := 40) S0 hK hP 1 rfl rfl dX3_top_15 ?_
    refine q_icmp_gt (tgt := 33) S0 (by omega) dX3_top_16 (by decide) (fun c16 => ?_) (fun c16 => ?_)
    · skip
      refine q_iconst S0 dX3_top_33 ?_
      exact qp_iret S0 hr hlocks (by unfold tp; first | (rw [if_pos (by omega)]; done) | (rw [if_neg (by omega)]; done) | (exfalso; omega)) dX3_top_34
    · skip
      refine lv_aload_n S0.1 S0.2.1 dX3_top_19 rfl (lv_at hl 0 rfl) ?_
      refine q_get (C := RX3) (T := TX3) (N := 2) S0 hK hP hinX3 0 rfl rfl 0 (by decide) (List.mem_of_getElem? (i := 2) rfl) rfl rfl dX3_top_20 ?_
      refine lv_aload_n S0.1 S0.2.1 dX3_top_23 rfl (lv_at hl 0 rfl) ?_
      refine q_get (C := RX3) (T := TX3) (N := 2) S0 hK hP hinX3 0 rfl rfl 1 (by decide) (List.mem_of_getElem? (i := 1) rfl) rfl rfl dX3_top_24 ?_
      refine q_iconst S0 dX3_top_27 ?_
      refine q_isub S0 dX3_top_28 ?_
      refine q_iald S0 hK hP 1 rfl (by omega) dX3_top_29 ?_
      refine lv_goto (tgt := 34) S0.1 S0.2.1 dX3_top_30 (by decide) ?_
      exact qp_iret S0 hr hlocks (by unfold tp; first | (rw [if_pos (by omega)]; done) | (rw [if_neg (by omega)]; done) | (exfalso; omega)) dX3_top_34
set_option maxHeartbeats 4000000 in
set_option maxRecDepth 100000 in
theorem c_X3_pop (l : Launch) (g : GG) (a q : Nat) (n : Int) (f : Nat → Int) (hn : 0 ≤ n ∧ n ≤ 40) : qMet l yX3_pop wsX3_pop ({ frames := 0, cells := 0, slots := 0, locals := 0 }) g [.ref a] [(a, .inr (3, [.ref q, .int (iI n)])), (q, gI g 40 f)] (fun _ => True) (fun _ => True) (S := Unit) (fun _ => some (.int (iI (tp n f)))) (fun _ => [(a, .inr (3, [.ref q, .int (iI (oN n))])), (q, gI g 40 f)]) (fun _ => True) 0 0 := by
  refine q_ofW (cc := cX3_pop) (maxL := 1) (ret := (some .int)) (fun sz h => h.self) (by decide) rfl (Nat.le_of_ble_eq_true rfl) ?_
  intro p e s m args below meth c A ls S0 hr hlocks hnme hK hA hAe hW hD0 hX hl
  have hW : gW g A s.heap s.heap [] [(a, .inr (3, [.ref q, .int (iI n)])), (q, gI g 40 f)] := hW
  have hl : lv_has ls 1 [(0, .ref a)] := hl
  have hinX3 : ∀ w ∈ wsX30, w ∈ wsX3_pop := fun w h => List.mem_cons_of_mem _ (List.mem_append_right _ h)
  refine lv_aload_n S0.1 S0.2.1 dX3_pop_0 rfl (lv_at hl 0 rfl) ?_
  refine q_get (C := RX3) (T := TX3) (N := 2) S0 hK hW.1 hinX3 0 rfl rfl 1 (by decide) (List.mem_of_getElem? (i := 1) rfl) rfl rfl dX3_pop_1 ?_
  refine q_if_le (tgt := 19) S0 (by omega) dX3_pop_4 (by decide) (fun c4 => ?_) (fun c4 => ?_)
  · skip
    refine q_iconst S0 dX3_pop_19 ?_
    exact q_iret S0 hr hlocks () (trivial) (by unfold tp; first | (rw [if_pos (by omega)]; done) | (rw [if_neg (by omega)]; done) | (exfalso; omega)) (hW.sub [0, 1] rfl (by simp only [oN]; first | (rw [if_pos (by omega)]; rfl) | (rw [if_neg (by omega)]; rfl) | (exfalso; omega))) (Nat.le_of_ble_eq_true rfl) (Nat.le_of_ble_eq_true rfl) dX3_pop_20
  · skip
    refine lv_aload_n S0.1 S0.2.1 dX3_pop_7 rfl (lv_at hl 0 rfl) ?_
    refine q_get (C := RX3) (T := TX3) (N := 2) S0 hK hW.1 hinX3 0 rfl rfl 1 (by decide) (List.mem_of_getElem? (i := 1) rfl) rfl rfl dX3_pop_8 ?_
    refine lv_aload_n S0.1 S0.2.1 dX3_pop_11 rfl (lv_at hl 0 rfl) ?_
    refine q_get (C := RX3) (T := TX3) (N := 2) S0 hK hW.1 hinX3 0 rfl rfl 0 (by decide) (List.mem_of_getElem? (i := 2) rfl) rfl rfl dX3_pop_12 ?_
    refine q_alen (z := 40) S0 hK hW.1 1 rfl rfl dX3_pop_15 ?_
    refine q_icmp_le (tgt := 21) S0 (by omega) dX3_pop_16 (by decide) (fun c16 => ?_) (fun c16 => ?_)
    · skip
      refine lv_aload_n S0.1 S0.2.1 dX3_pop_21 rfl (lv_at hl 0 rfl) ?_
      refine lv_dup S0.1 S0.2.1 dX3_pop_22 rfl ?_
      refine q_get (C := RX3) (T := TX3) (N := 2) S0 hK hW.1 hinX3 0 rfl rfl 1 (by decide) (List.mem_of_getElem? (i := 1) rfl) rfl rfl dX3_pop_23 ?_
      refine q_iconst S0 dX3_pop_26 ?_
      refine q_isub S0 dX3_pop_27 ?_
      refine q_put (C := RX3) (T := TX3) (N := 2) S0 hK hW hinX3 tyX3_ok nmX3 0 rfl rfl 1 (by decide) (List.mem_of_getElem? (i := 1) rfl) rfl rfl rfl rfl (Nat.le_of_ble_eq_true rfl) dX3_pop_28 (fun H locs hW => ?_)
      have hW : gW g A s.heap H _ [(a, .inr (3, [.ref q, .int (iI (n - 1))])), (q, gI g 40 f)] := hW
      refine lv_aload_n S0.1 S0.2.1 dX3_pop_31 rfl (lv_at hl 0 rfl) ?_
      refine q_get (C := RX3) (T := TX3) (N := 2) S0 hK hW.1 hinX3 0 rfl rfl 0 (by decide) (List.mem_of_getElem? (i := 2) rfl) rfl rfl dX3_pop_32 ?_
      refine lv_aload_n S0.1 S0.2.1 dX3_pop_35 rfl (lv_at hl 0 rfl) ?_
      refine q_get (C := RX3) (T := TX3) (N := 2) S0 hK hW.1 hinX3 0 rfl rfl 1 (by decide) (List.mem_of_getElem? (i := 1) rfl) rfl rfl dX3_pop_36 ?_
      refine q_iald S0 hK hW.1 1 rfl (by omega) dX3_pop_39 ?_
      exact q_iret S0 hr hlocks () (trivial) (by unfold tp; first | (rw [if_pos (by omega)]; done) | (rw [if_neg (by omega)]; done) | (exfalso; omega)) (hW.sub [0, 1] rfl (by simp only [oN]; first | (rw [if_pos (by omega)]; rfl) | (rw [if_neg (by omega)]; rfl) | (exfalso; omega))) (Nat.le_of_ble_eq_true rfl) (Nat.le_of_ble_eq_true rfl) dX3_pop_40
    · skip
      refine q_iconst S0 dX3_pop_19 ?_
      exact q_iret S0 hr hlocks () (trivial) (by unfold tp; first | (rw [if_pos (by omega)]; done) | (rw [if_neg (by omega)]; done) | (exfalso; omega)) (hW.sub [0, 1] rfl (by simp only [oN]; first | (rw [if_pos (by omega)]; rfl) | (rw [if_neg (by omega)]; rfl) | (exfalso; omega))) (Nat.le_of_ble_eq_true rfl) (Nat.le_of_ble_eq_true rfl) dX3_pop_20
