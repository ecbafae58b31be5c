set_option maxHeartbeats 4000000 in
set_option maxRecDepth 100000 in
theorem c_X8_get40 (l : Launch) (g : GG) (t q : Nat) (f : Nat → Int) (u k : Int) (hu : 0 ≤ u ∧ u < 4) (hk : -2147483648 ≤ k ∧ k < 2147483648) : qPure l yX8_get wsX8_get ({ frames := 1, cells := 0, slots := 0, locals := 21 }) g [.ref t, .int (iI u), .int (iI k)] [(t, .inr (8, [.int (iI 40), .ref q])), (q, gI g 160 f)] (fun _ => True) (some (.int (iI (gv (row f u) k)))) := by
  refine q_ofP (cc := cX8_get) (maxL := 3) (ret := (some .int)) (by decide) rfl (Nat.le_of_ble_eq_true rfl) ?_
  intro p e s m args below meth c ls S0 hr hlocks hK hP hX hl
  have hP : va_P g.1 vwCl [(t, .inr (8, [.int (iI 40), .ref q])), (q, gI g 160 f)] s.heap := hP
  have hl : lv_has ls 3 [(0, .ref t), (1, .int (iI u)), (2, .int (iI k))] := hl
  have hinX8 : ∀ w ∈ wsX80, w ∈ wsX8_get := fun w h => List.mem_cons_of_mem _ (List.mem_append_right _ h)
  refine lv_iload_n S0.1 S0.2.1 dX8_get_0 rfl (lv_at hl 2 rfl) ?_
  refine q_if_lt (tgt := 30) S0 (by omega) dX8_get_1 (by decide) (fun c1 => ?_) (fun c1 => ?_)
  · skip
    refine q_iconst S0 dX8_get_30 ?_
    exact qp_iret S0 hr hlocks (by rw [← gv_get]; first | (rw [if_pos (by omega)]; done) | (rw [if_neg (by omega)]; done) | (exfalso; omega)) dX8_get_31
  · skip
    refine lv_iload_n S0.1 S0.2.1 dX8_get_4 rfl (lv_at hl 2 rfl) ?_
    refine lv_aload_n S0.1 S0.2.1 dX8_get_5 rfl (lv_at hl 0 rfl) ?_
    refine q_get (C := RX8) (T := TX8) (N := 2) S0 hK hP hinX8 0 rfl rfl 0 (by decide) (List.mem_of_getElem? (i := 1) rfl) rfl rfl dX8_get_6 ?_
    refine q_icmp_ge (tgt := 30) S0 (by omega) dX8_get_9 (by decide) (fun c9 => ?_) (fun c9 => ?_)
    · skip
      refine q_iconst S0 dX8_get_30 ?_
      exact qp_iret S0 hr hlocks (by rw [← gv_get]; first | (rw [if_pos (by omega)]; done) | (rw [if_neg (by omega)]; done) | (exfalso; omega)) dX8_get_31
    · skip
      refine lv_aload_n S0.1 S0.2.1 dX8_get_12 rfl (lv_at hl 0 rfl) ?_
      refine q_get (C := RX8) (T := TX8) (N := 2) S0 hK hP hinX8 0 rfl rfl 1 (by decide) (List.mem_of_getElem? (i := 2) rfl) rfl rfl dX8_get_13 ?_
      refine lv_iload_n S0.1 S0.2.1 dX8_get_16 rfl (lv_at hl 1 rfl) ?_
      refine lv_aload_n S0.1 S0.2.1 dX8_get_17 rfl (lv_at hl 0 rfl) ?_
      refine q_get (C := RX8) (T := TX8) (N := 2) S0 hK hP hinX8 0 rfl rfl 0 (by decide) (List.mem_of_getElem? (i := 1) rfl) rfl rfl dX8_get_18 ?_
      refine q_imul S0 dX8_get_21 ?_
      refine lv_iload_n S0.1 S0.2.1 dX8_get_22 rfl (lv_at hl 2 rfl) ?_
      refine q_iadd S0 dX8_get_23 ?_
      refine q_pSN (n := 2) (rest := []) S0 hK (c_X10_at l g q 160 f ((u * 40) + k) (by omega) (by omega)) (subP hP [1] rfl) (trivial) gX8_get_X10_at_n34 rfl rfl rfl 1 rfl (List.mem_of_getElem? (i := 4) rfl) (List.mem_of_getElem? (i := 3) rfl) (by decide +kernel) ⟨Nat.le_of_ble_eq_true rfl, Nat.le_of_ble_eq_true rfl⟩ rfl rfl hl.1 (Nat.le_of_ble_eq_true rfl) ⟨Nat.le_of_ble_eq_true rfl, Nat.le_of_ble_eq_true rfl⟩ dX8_get_24 ?_
      refine W.eq (g2 := F0 m 27 ls [.int (iI (at0 160 f ((u * 40) + k)))]) rfl ?_
      refine q_topI (b := f (u * 40 + k).toNat) (by unfold at0; rw [if_pos (by omega)]) ?_
      refine lv_goto (tgt := 31) S0.1 S0.2.1 dX8_get_27 (by decide) ?_
      exact qp_iret S0 hr hlocks (by rw [← gv_get]; first | (rw [if_pos (by omega)]; done) | (rw [if_neg (by omega)]; done) | (exfalso; omega)) dX8_get_31
set_option maxHeartbeats 4000000 in
set_option maxRecDepth 100000 in
theorem c_X8_get199 (l : Launch) (g : GG) (t q : Nat) (f : Nat → Int) (u k : Int) (hu : 0 ≤ u ∧ u < 4) (hk : 0 ≤ k ∧ k < 199) : qPure l yX8_get wsX8_get ({ frames := 1, cells := 0, slots := 0, locals := 21 }) g [.ref t, .int (iI u), .int (iI k)] [(t, .inr (8, [.int (iI 199), .ref q])), (q, gI g 796 f)] (fun _ => True) (some (.int (iI (f (u * 199 + k).toNat)))) := by
  refine q_ofP (cc := cX8_get) (maxL := 3) (ret := (some .int)) (by decide) rfl (Nat.le_of_ble_eq_true rfl) ?_
  intro p e s m args below meth c ls S0 hr hlocks hK hP hX hl
  have hP : va_P g.1 vwCl [(t, .inr (8, [.int (iI 199), .ref q])), (q, gI g 796 f)] s.heap := hP
  have hl : lv_has ls 3 [(0, .ref t), (1, .int (iI u)), (2, .int (iI k))] := hl
  have hinX8 : ∀ w ∈ wsX80, w ∈ wsX8_get := fun w h => List.mem_cons_of_mem _ (List.mem_append_right _ h)
  refine lv_iload_n S0.1 S0.2.1 dX8_get_0 rfl (lv_at hl 2 rfl) ?_
  refine q_if_lt (tgt := 30) S0 (by omega) dX8_get_1 (by decide) (fun c1 => ?_) (fun c1 => ?_)
  · skip
    exact absurd c1 (by omega)
  · skip
    refine lv_iload_n S0.1 S0.2.1 dX8_get_4 rfl (lv_at hl 2 rfl) ?_
    refine lv_aload_n S0.1 S0.2.1 dX8_get_5 rfl (lv_at hl 0 rfl) ?_
    refine q_get (C := RX8) (T := TX8) (N := 2) S0 hK hP hinX8 0 rfl rfl 0 (by decide) (List.mem_of_getElem? (i := 1) rfl) rfl rfl dX8_get_6 ?_
    refine q_icmp_ge (tgt := 30) S0 (by omega) dX8_get_9 (by decide) (fun c9 => ?_) (fun c9 => ?_)
    · skip
      exact absurd c9 (by omega)
    · skip
      refine lv_aload_n S0.1 S0.2.1 dX8_get_12 rfl (lv_at hl 0 rfl) ?_
      refine q_get (C := RX8) (T := TX8) (N := 2) S0 hK hP hinX8 0 rfl rfl 1 (by decide) (List.mem_of_getElem? (i := 2) rfl) rfl rfl dX8_get_13 ?_
      refine lv_iload_n S0.1 S0.2.1 dX8_get_16 rfl (lv_at hl 1 rfl) ?_
      refine lv_aload_n S0.1 S0.2.1 dX8_get_17 rfl (lv_at hl 0 rfl) ?_
      refine q_get (C := RX8) (T := TX8) (N := 2) S0 hK hP hinX8 0 rfl rfl 0 (by decide) (List.mem_of_getElem? (i := 1) rfl) rfl rfl dX8_get_18 ?_
      refine q_imul S0 dX8_get_21 ?_
      refine lv_iload_n S0.1 S0.2.1 dX8_get_22 rfl (lv_at hl 2 rfl) ?_
      refine q_iadd S0 dX8_get_23 ?_
      refine q_pSN (n := 2) (rest := []) S0 hK (c_X10_at l g q 796 f ((u * 199) + k) (by omega) (by omega)) (subP hP [1] rfl) (trivial) gX8_get_X10_at_n34 rfl rfl rfl 1 rfl (List.mem_of_getElem? (i := 4) rfl) (List.mem_of_getElem? (i := 3) rfl) (by decide +kernel) ⟨Nat.le_of_ble_eq_true rfl, Nat.le_of_ble_eq_true rfl⟩ rfl rfl hl.1 (Nat.le_of_ble_eq_true rfl) ⟨Nat.le_of_ble_eq_true rfl, Nat.le_of_ble_eq_true rfl⟩ dX8_get_24 ?_
      refine W.eq (g2 := F0 m 27 ls [.int (iI (at0 796 f ((u * 199) + k)))]) rfl ?_
      refine q_topI (b := f (u * 199 + k).toNat) (by unfold at0; rw [if_pos (by omega)]) ?_
      refine lv_goto (tgt := 31) S0.1 S0.2.1 dX8_get_27 (by decide) ?_
      exact qp_iret S0 hr hlocks (by first | rfl | (exfalso; omega)) dX8_get_31
set_option maxHeartbeats 4000000 in
set_option maxRecDepth 100000 in
theorem c_X8_set40 (l : Launch) (g : GG) (t q : Nat) (f : Nat → Int) (u k x : Int) (hu : 0 ≤ u ∧ u < 4) (hk : 0 ≤ k ∧ k < 40) : qMet l yX8_set wsX8_set ({ frames := 1, cells := 0, slots := 0, locals := 22 }) g [.ref t, .int (iI u), .int (iI k), .int (iI x)] [(t, .inr (8, [.int (iI 40), .ref q])), (q, gI g 160 f)] (fun _ => True) (fun _ => True) (S := Unit) (fun _ => none) (fun _ => [(t, .inr (8, [.int (iI 40), .ref q])), (q, gI g 160 (up f (u * 40 + k).toNat x))]) (fun _ => True) 0 0 := by
  refine q_ofW (cc := cX8_set) (maxL := 4) (ret := none) (fun sz h => h.self) (by decide) rfl (Nat.le_of_ble_eq_true rfl) ?_
  intro p e s m args below meth c A ls S0 hr hlocks hnme hK hA hAe hW hD0 hX hl
  have hW : gW g A s.heap s.heap [] [(t, .inr (8, [.int (iI 40), .ref q])), (q, gI g 160 f)] := hW
  have hl : lv_has ls 4 [(0, .ref t), (1, .int (iI u)), (2, .int (iI k)), (3, .int (iI x))] := hl
  have hinX8 : ∀ w ∈ wsX80, w ∈ wsX8_set := fun w h => List.mem_cons_of_mem _ (List.mem_append_right _ h)
  refine lv_iload_n S0.1 S0.2.1 dX8_set_0 rfl (lv_at hl 2 rfl) ?_
  refine q_if_lt (tgt := 28) S0 (by omega) dX8_set_1 (by decide) (fun c1 => ?_) (fun c1 => ?_)
  · skip
    exact q_vret S0 hr hlocks () (trivial) rfl (hW.sub [0, 1] rfl (by first | (exfalso; omega) | (simp only [put0]; rw [if_pos (by omega)]; rfl))) (Nat.le_of_ble_eq_true rfl) (Nat.le_of_ble_eq_true rfl) dX8_set_28
  · skip
    refine lv_iload_n S0.1 S0.2.1 dX8_set_4 rfl (lv_at hl 2 rfl) ?_
    refine lv_aload_n S0.1 S0.2.1 dX8_set_5 rfl (lv_at hl 0 rfl) ?_
    refine q_get (C := RX8) (T := TX8) (N := 2) S0 hK hW.1 hinX8 0 rfl rfl 0 (by decide) (List.mem_of_getElem? (i := 1) rfl) rfl rfl dX8_set_6 ?_
    refine q_icmp_ge (tgt := 28) S0 (by omega) dX8_set_9 (by decide) (fun c9 => ?_) (fun c9 => ?_)
    · skip
      exact q_vret S0 hr hlocks () (trivial) rfl (hW.sub [0, 1] rfl (by first | (exfalso; omega) | (simp only [put0]; rw [if_pos (by omega)]; rfl))) (Nat.le_of_ble_eq_true rfl) (Nat.le_of_ble_eq_true rfl) dX8_set_28
    · skip
      refine lv_aload_n S0.1 S0.2.1 dX8_set_12 rfl (lv_at hl 0 rfl) ?_
      refine q_get (C := RX8) (T := TX8) (N := 2) S0 hK hW.1 hinX8 0 rfl rfl 1 (by decide) (List.mem_of_getElem? (i := 2) rfl) rfl rfl dX8_set_13 ?_
      refine lv_iload_n S0.1 S0.2.1 dX8_set_16 rfl (lv_at hl 1 rfl) ?_
      refine lv_aload_n S0.1 S0.2.1 dX8_set_17 rfl (lv_at hl 0 rfl) ?_
      refine q_get (C := RX8) (T := TX8) (N := 2) S0 hK hW.1 hinX8 0 rfl rfl 0 (by decide) (List.mem_of_getElem? (i := 1) rfl) rfl rfl dX8_set_18 ?_
      refine q_imul S0 dX8_set_21 ?_
      refine lv_iload_n S0.1 S0.2.1 dX8_set_22 rfl (lv_at hl 2 rfl) ?_
      refine q_iadd S0 dX8_set_23 ?_
      refine lv_iload_n S0.1 S0.2.1 dX8_set_24 rfl (lv_at hl 3 rfl) ?_
      refine q_cSN (n := 3) (rest := []) (wr := [(t, .inr (8, [.int (iI 40), .ref q]))]) S0 hK hA hW (c_X10_put l g q 160 f ((u * 40) + k) x (by omega) (by omega)) gX8_set_X10_put_n38 rfl rfl rfl 0 rfl (List.mem_of_getElem? (i := 4) rfl) (List.mem_of_getElem? (i := 3) rfl) (by decide +kernel) ⟨Nat.le_of_ble_eq_true rfl, Nat.le_of_ble_eq_true rfl⟩ [1] [0] rfl rfl rfl rfl (by decide) (fun _ _ => trivial) (trivial) rfl rfl hl.1 (Nat.le_of_ble_eq_true rfl) ⟨Nat.le_of_ble_eq_true rfl, Nat.le_of_ble_eq_true rfl⟩ dX8_set_25 (fun _ H locs _ hW => ?_)
      have hW : gW g A s.heap H _ [(t, .inr (8, [.int (iI 40), .ref q])), (q, gI g 160 (put0 160 f ((u * 40) + k) x))] := hW
      refine W.eq (g2 := F0 m 28 ls []) rfl ?_
      exact q_vret S0 hr hlocks () (trivial) rfl (hW.sub [0, 1] rfl (by first | (exfalso; omega) | (simp only [put0]; rw [if_pos (by omega)]; rfl))) (Nat.le_of_ble_eq_true rfl) (Nat.le_of_ble_eq_true rfl) dX8_set_28
set_option maxHeartbeats 4000000 in
set_option maxRecDepth 100000 in
theorem c_X8_set199 (l : Launch) (g : GG) (t q : Nat) (f : Nat → Int) (u k x : Int) (hu : 0 ≤ u ∧ u < 4) (hk : 0 ≤ k ∧ k < 199) : qMet l yX8_set wsX8_set ({ frames := 1, cells := 0, slots := 0, locals := 22 }) g [.ref t, .int (iI u), .int (iI k), .int (iI x)] [(t, .inr (8, [.int (iI 199), .ref q])), (q, gI g 796 f)] (fun _ => True) (fun _ => True) (S := Unit) (fun _ => none) (fun _ => [(t, .inr (8, [.int (iI 199), .ref q])), (q, gI g 796 (up f (u * 199 + k).toNat x))]) (fun _ => True) 0 0 := by
  refine q_ofW (cc := cX8_set) (maxL := 4) (ret := none) (fun sz h => h.self) (by decide) rfl (Nat.le_of_ble_eq_true rfl) ?_
  intro p e s m args below meth c A ls S0 hr hlocks hnme hK hA hAe hW hD0 hX hl
  have hW : gW g A s.heap s.heap [] [(t, .inr (8, [.int (iI 199), .ref q])), (q, gI g 796 f)] := hW
  have hl : lv_has ls 4 [(0, .ref t), (1, .int (iI u)), (2, .int (iI k)), (3, .int (iI x))] := hl
  have hinX8 : ∀ w ∈ wsX80, w ∈ wsX8_set := fun w h => List.mem_cons_of_mem _ (List.mem_append_right _ h)
  refine lv_iload_n S0.1 S0.2.1 dX8_set_0 rfl (lv_at hl 2 rfl) ?_
  refine q_if_lt (tgt := 28) S0 (by omega) dX8_set_1 (by decide) (fun c1 => ?_) (fun c1 => ?_)
  · skip
    exact q_vret S0 hr hlocks () (trivial) rfl (hW.sub [0, 1] rfl (by first | (exfalso; omega) | (simp only [put0]; rw [if_pos (by omega)]; rfl))) (Nat.le_of_ble_eq_true rfl) (Nat.le_of_ble_eq_true rfl) dX8_set_28
  · skip
    refine lv_iload_n S0.1 S0.2.1 dX8_set_4 rfl (lv_at hl 2 rfl) ?_
    refine lv_aload_n S0.1 S0.2.1 dX8_set_5 rfl (lv_at hl 0 rfl) ?_
    refine q_get (C := RX8) (T := TX8) (N := 2) S0 hK hW.1 hinX8 0 rfl rfl 0 (by decide) (List.mem_of_getElem? (i := 1) rfl) rfl rfl dX8_set_6 ?_
    refine q_icmp_ge (tgt := 28) S0 (by omega) dX8_set_9 (by decide) (fun c9 => ?_) (fun c9 => ?_)
    · skip
      exact q_vret S0 hr hlocks () (trivial) rfl (hW.sub [0, 1] rfl (by first | (exfalso; omega) | (simp only [put0]; rw [if_pos (by omega)]; rfl))) (Nat.le_of_ble_eq_true rfl) (Nat.le_of_ble_eq_true rfl) dX8_set_28
    · skip
      refine lv_aload_n S0.1 S0.2.1 dX8_set_12 rfl (lv_at hl 0 rfl) ?_
      refine q_get (C := RX8) (T := TX8) (N := 2) S0 hK hW.1 hinX8 0 rfl rfl 1 (by decide) (List.mem_of_getElem? (i := 2) rfl) rfl rfl dX8_set_13 ?_
      refine lv_iload_n S0.1 S0.2.1 dX8_set_16 rfl (lv_at hl 1 rfl) ?_
      refine lv_aload_n S0.1 S0.2.1 dX8_set_17 rfl (lv_at hl 0 rfl) ?_
      refine q_get (C := RX8) (T := TX8) (N := 2) S0 hK hW.1 hinX8 0 rfl rfl 0 (by decide) (List.mem_of_getElem? (i := 1) rfl) rfl rfl dX8_set_18 ?_
      refine q_imul S0 dX8_set_21 ?_
      refine lv_iload_n S0.1 S0.2.1 dX8_set_22 rfl (lv_at hl 2 rfl) ?_
      refine q_iadd S0 dX8_set_23 ?_
      refine lv_iload_n S0.1 S0.2.1 dX8_set_24 rfl (lv_at hl 3 rfl) ?_
      refine q_cSN (n := 3) (rest := []) (wr := [(t, .inr (8, [.int (iI 199), .ref q]))]) S0 hK hA hW (c_X10_put l g q 796 f ((u * 199) + k) x (by omega) (by omega)) gX8_set_X10_put_n38 rfl rfl rfl 0 rfl (List.mem_of_getElem? (i := 4) rfl) (List.mem_of_getElem? (i := 3) rfl) (by decide +kernel) ⟨Nat.le_of_ble_eq_true rfl, Nat.le_of_ble_eq_true rfl⟩ [1] [0] rfl rfl rfl rfl (by decide) (fun _ _ => trivial) (trivial) rfl rfl hl.1 (Nat.le_of_ble_eq_true rfl) ⟨Nat.le_of_ble_eq_true rfl, Nat.le_of_ble_eq_true rfl⟩ dX8_set_25 (fun _ H locs _ hW => ?_)
      have hW : gW g A s.heap H _ [(t, .inr (8, [.int (iI 199), .ref q])), (q, gI g 796 (put0 796 f ((u * 199) + k) x))] := hW
      refine W.eq (g2 := F0 m 28 ls []) rfl ?_
      exact q_vret S0 hr hlocks () (trivial) rfl (hW.sub [0, 1] rfl (by first | (exfalso; omega) | (simp only [put0]; rw [if_pos (by omega)]; rfl))) (Nat.le_of_ble_eq_true rfl) (Nat.le_of_ble_eq_true rfl) dX8_set_28
set_option maxHeartbeats 4000000 in
set_option maxRecDepth 100000 in
theorem c_X7_exprOf (l : Launch) (g : GG) (st rm : Nat) (xa : Nat → Nat) (u : Int) (hu : 0 ≤ u ∧ u < 4) : qPure l yX7_expressionOf wsX7_expressionOf ({ frames := 0, cells := 0, slots := 0, locals := 0 }) g [.ref st, .int (iI u)] [(st, .inr (7, [.ref rm, .ref (xa 0), .ref (xa 1), .ref (xa 2), .ref (xa 3)]))] (fun _ => True) (some (.ref (xa u.toNat))) := by
  refine q_ofP (cc := cX7_expressionOf) (maxL := 2) (ret := (some (.object "HingeNumbers$Expression"))) (by decide) rfl (Nat.le_of_ble_eq_true rfl) ?_
  intro p e s m args below meth c ls S0 hr hlocks hK hP hX hl
  have hP : va_P g.1 vwCl [(st, .inr (7, [.ref rm, .ref (xa 0), .ref (xa 1), .ref (xa 2), .ref (xa 3)]))] s.heap := hP
  have hl : lv_has ls 2 [(0, .ref st), (1, .int (iI u))] := hl
  have hinX7 : ∀ w ∈ wsX70, w ∈ wsX7_expressionOf := fun w h => List.mem_cons_of_mem _ (List.mem_append_right _ h)
  refine lv_iload_n S0.1 S0.2.1 dX7_expressionOf_0 rfl (lv_at hl 1 rfl) ?_
  by_cases k1_0 : u = 0
  · refine q_topI k1_0 ?_
    refine lv_tableIn (off := 27) (tgt := 28) S0.1 S0.2.1 dX7_expressionOf_1 (by decide) (by decide) (by decide) (by decide) ?_
    refine lv_aload_n S0.1 S0.2.1 dX7_expressionOf_28 rfl (lv_at hl 0 rfl) ?_
    refine q_get (C := RX7) (T := TX7) (N := 5) S0 hK hP hinX7 0 rfl rfl 1 (by decide) (List.mem_of_getElem? (i := 1) rfl) rfl rfl dX7_expressionOf_29 ?_
    exact qp_aret S0 hr (Or.inl ⟨_, rfl⟩) hlocks (Or.inr ⟨_, rfl⟩) (by first | (rw [k1_0]; rfl) | (rw [k1_1]; rfl) | (rw [k1_2]; rfl) | (rw [show u = 3 by omega]; rfl)) dX7_expressionOf_32
  by_cases k1_1 : u = 1
  · refine q_topI k1_1 ?_
    refine lv_tableIn (off := 32) (tgt := 33) S0.1 S0.2.1 dX7_expressionOf_1 (by decide) (by decide) (by decide) (by decide) ?_
    refine lv_aload_n S0.1 S0.2.1 dX7_expressionOf_33 rfl (lv_at hl 0 rfl) ?_
    refine q_get (C := RX7) (T := TX7) (N := 5) S0 hK hP hinX7 0 rfl rfl 2 (by decide) (List.mem_of_getElem? (i := 2) rfl) rfl rfl dX7_expressionOf_34 ?_
    exact qp_aret S0 hr (Or.inl ⟨_, rfl⟩) hlocks (Or.inr ⟨_, rfl⟩) (by first | (rw [k1_0]; rfl) | (rw [k1_1]; rfl) | (rw [k1_2]; rfl) | (rw [show u = 3 by omega]; rfl)) dX7_expressionOf_37
  by_cases k1_2 : u = 2
  · refine q_topI k1_2 ?_
    refine lv_tableIn (off := 37) (tgt := 38) S0.1 S0.2.1 dX7_expressionOf_1 (by decide) (by decide) (by decide) (by decide) ?_
    refine lv_aload_n S0.1 S0.2.1 dX7_expressionOf_38 rfl (lv_at hl 0 rfl) ?_
    refine q_get (C := RX7) (T := TX7) (N := 5) S0 hK hP hinX7 0 rfl rfl 3 (by decide) (List.mem_of_getElem? (i := 3) rfl) rfl rfl dX7_expressionOf_39 ?_
    exact qp_aret S0 hr (Or.inl ⟨_, rfl⟩) hlocks (Or.inr ⟨_, rfl⟩) (by first | (rw [k1_0]; rfl) | (rw [k1_1]; rfl) | (rw [k1_2]; rfl) | (rw [show u = 3 by omega]; rfl)) dX7_expressionOf_42
  refine lv_tableOut (tgt := 43) S0.1 S0.2.1 dX7_expressionOf_1 (by rw [iI_t (by omega) (by omega)]; omega) (by decide) ?_
  refine lv_aload_n S0.1 S0.2.1 dX7_expressionOf_43 rfl (lv_at hl 0 rfl) ?_
  refine q_get (C := RX7) (T := TX7) (N := 5) S0 hK hP hinX7 0 rfl rfl 4 (by decide) (List.mem_of_getElem? (i := 4) rfl) rfl rfl dX7_expressionOf_44 ?_
  exact qp_aret S0 hr (Or.inl ⟨_, rfl⟩) hlocks (Or.inr ⟨_, rfl⟩) (by first | (rw [k1_0]; rfl) | (rw [k1_1]; rfl) | (rw [k1_2]; rfl) | (rw [show u = 3 by omega]; rfl)) dX7_expressionOf_47
set_option maxHeartbeats 4000000 in
set_option maxRecDepth 100000 in
theorem c_X1_kindI (l : Launch) (g : GG) (x k1 k2 k3 k4 : Nat) (dp un le : Int) (n : Nat) (K : Nat → Int) (i : Int) (hn : n ≤ 40) (hi : 0 ≤ i ∧ i < n) : qPure l yX1_kind wsX1_kind ({ frames := 1, cells := 0, slots := 0, locals := 21 }) g [.ref x, .int (iI i)] [(x, .inr (1, [.ref k1, .ref k2, .ref k3, .ref k4, .int (iI dp), .int (iI un), .int (iI le)])), (k1, gI g n K)] (fun _ => True) (some (.int (iI (K i.toNat)))) := by
  refine q_ofP (cc := cX1_kind) (maxL := 2) (ret := (some .int)) (by decide) rfl (Nat.le_of_ble_eq_true rfl) ?_
  intro p e s m args below meth c ls S0 hr hlocks hK hP hX hl
  have hP : va_P g.1 vwCl [(x, .inr (1, [.ref k1, .ref k2, .ref k3, .ref k4, .int (iI dp), .int (iI un), .int (iI le)])), (k1, gI g n K)] s.heap := hP
  have hl : lv_has ls 2 [(0, .ref x), (1, .int (iI i))] := hl
  have hinX1 : ∀ w ∈ wsX10, w ∈ wsX1_kind := fun w h => List.mem_cons_of_mem _ (List.mem_append_right _ h)
  refine lv_aload_n S0.1 S0.2.1 dX1_kind_0 rfl (lv_at hl 0 rfl) ?_
  refine q_get (C := RX1) (T := TX1) (N := 7) S0 hK hP hinX1 0 rfl rfl 0 (by decide) (List.mem_of_getElem? (i := 1) rfl) rfl rfl dX1_kind_1 ?_
  refine lv_iload_n S0.1 S0.2.1 dX1_kind_4 rfl (lv_at hl 1 rfl) ?_
  refine q_pSN (n := 2) (rest := []) S0 hK (c_X10_at l g k1 n K i (by omega) (by omega)) (subP hP [1] rfl) (trivial) gX1_kind_X10_at_n37 rfl rfl rfl 4 rfl (List.mem_of_getElem? (i := 3) rfl) (List.mem_of_getElem? (i := 2) rfl) (by decide +kernel) ⟨Nat.le_of_ble_eq_true rfl, Nat.le_of_ble_eq_true rfl⟩ rfl rfl hl.1 (Nat.le_of_ble_eq_true rfl) ⟨Nat.le_of_ble_eq_true rfl, Nat.le_of_ble_eq_true rfl⟩ dX1_kind_5 ?_
  refine W.eq (g2 := F0 m 8 ls [.int (iI (at0 n K i))]) rfl ?_
  exact qp_iret S0 hr hlocks (by unfold at0; rw [if_pos (by omega)]) dX1_kind_8
set_option maxHeartbeats 4000000 in
set_option maxRecDepth 100000 in
theorem c_X1_numberI (l : Launch) (g : GG) (x k1 k2 k3 k4 : Nat) (dp un le : Int) (n : Nat) (U : Nat → Int) (i : Int) (hn : n ≤ 40) (hi : 0 ≤ i ∧ i < n) : qPure l yX1_number wsX1_number ({ frames := 1, cells := 0, slots := 0, locals := 21 }) g [.ref x, .int (iI i)] [(x, .inr (1, [.ref k1, .ref k2, .ref k3, .ref k4, .int (iI dp), .int (iI un), .int (iI le)])), (k2, gI g n U)] (fun _ => True) (some (.int (iI (U i.toNat)))) := by
  refine q_ofP (cc := cX1_number) (maxL := 2) (ret := (some .int)) (by decide) rfl (Nat.le_of_ble_eq_true rfl) ?_
  intro p e s m args below meth c ls S0 hr hlocks hK hP hX hl
  have hP : va_P g.1 vwCl [(x, .inr (1, [.ref k1, .ref k2, .ref k3, .ref k4, .int (iI dp), .int (iI un), .int (iI le)])), (k2, gI g n U)] s.heap := hP
  have hl : lv_has ls 2 [(0, .ref x), (1, .int (iI i))] := hl
  have hinX1 : ∀ w ∈ wsX10, w ∈ wsX1_number := fun w h => List.mem_cons_of_mem _ (List.mem_append_right _ h)
  refine lv_aload_n S0.1 S0.2.1 dX1_number_0 rfl (lv_at hl 0 rfl) ?_
  refine q_get (C := RX1) (T := TX1) (N := 7) S0 hK hP hinX1 0 rfl rfl 1 (by decide) (List.mem_of_getElem? (i := 1) rfl) rfl rfl dX1_number_1 ?_
  refine lv_iload_n S0.1 S0.2.1 dX1_number_4 rfl (lv_at hl 1 rfl) ?_
  refine q_pSN (n := 2) (rest := []) S0 hK (c_X10_at l g k2 n U i (by omega) (by omega)) (subP hP [1] rfl) (trivial) gX1_number_X10_at_n37 rfl rfl rfl 4 rfl (List.mem_of_getElem? (i := 3) rfl) (List.mem_of_getElem? (i := 2) rfl) (by decide +kernel) ⟨Nat.le_of_ble_eq_true rfl, Nat.le_of_ble_eq_true rfl⟩ rfl rfl hl.1 (Nat.le_of_ble_eq_true rfl) ⟨Nat.le_of_ble_eq_true rfl, Nat.le_of_ble_eq_true rfl⟩ dX1_number_5 ?_
  refine W.eq (g2 := F0 m 8 ls [.int (iI (at0 n U i))]) rfl ?_
  exact qp_iret S0 hr hlocks (by unfold at0; rw [if_pos (by omega)]) dX1_number_8
set_option maxHeartbeats 4000000 in
set_option maxRecDepth 100000 in
theorem c_X1_leftI (l : Launch) (g : GG) (x k1 k2 k3 k4 : Nat) (dp un le : Int) (n : Nat) (L : Nat → Int) (i : Int) (hn : n ≤ 40) (hi : 0 ≤ i ∧ i < n) : qPure l yX1_left wsX1_left ({ frames := 0, cells := 0, slots := 0, locals := 0 }) g [.ref x, .int (iI i)] [(x, .inr (1, [.ref k1, .ref k2, .ref k3, .ref k4, .int (iI dp), .int (iI un), .int (iI le)])), (k3, gI g n L)] (fun _ => True) (some (.int (iI (L i.toNat)))) := by
  refine q_ofP (cc := cX1_left) (maxL := 2) (ret := (some .int)) (by decide) rfl (Nat.le_of_ble_eq_true rfl) ?_
  intro p e s m args below meth c ls S0 hr hlocks hK hP hX hl
  have hP : va_P g.1 vwCl [(x, .inr (1, [.ref k1, .ref k2, .ref k3, .ref k4, .int (iI dp), .int (iI un), .int (iI le)])), (k3, gI g n L)] s.heap := hP
  have hl : lv_has ls 2 [(0, .ref x), (1, .int (iI i))] := hl
  have hinX1 : ∀ w ∈ wsX10, w ∈ wsX1_left := fun w h => List.mem_cons_of_mem _ (List.mem_append_right _ h)
  refine lv_iload_n S0.1 S0.2.1 dX1_left_0 rfl (lv_at hl 1 rfl) ?_
  refine q_if_lt (tgt := 22) S0 (by omega) dX1_left_1 (by decide) (fun c1 => ?_) (fun c1 => ?_)
  · skip
    refine q_iconst S0 dX1_left_22 ?_
    exact qp_iret S0 hr hlocks (by first | rfl | (exfalso; omega)) dX1_left_23
  · skip
    refine lv_iload_n S0.1 S0.2.1 dX1_left_4 rfl (lv_at hl 1 rfl) ?_
    refine lv_aload_n S0.1 S0.2.1 dX1_left_5 rfl (lv_at hl 0 rfl) ?_
    refine q_get (C := RX1) (T := TX1) (N := 7) S0 hK hP hinX1 0 rfl rfl 2 (by decide) (List.mem_of_getElem? (i := 1) rfl) rfl rfl dX1_left_6 ?_
    refine q_alen (z := ((n : Nat) : Int)) S0 hK hP 1 rfl rfl dX1_left_9 ?_
    refine q_icmp_ge (tgt := 22) S0 (by omega) dX1_left_10 (by decide) (fun c10 => ?_) (fun c10 => ?_)
    · skip
      refine q_iconst S0 dX1_left_22 ?_
      exact qp_iret S0 hr hlocks (by first | rfl | (exfalso; omega)) dX1_left_23
    · skip
      refine lv_aload_n S0.1 S0.2.1 dX1_left_13 rfl (lv_at hl 0 rfl) ?_
      refine q_get (C := RX1) (T := TX1) (N := 7) S0 hK hP hinX1 0 rfl rfl 2 (by decide) (List.mem_of_getElem? (i := 1) rfl) rfl rfl dX1_left_14 ?_
      refine lv_iload_n S0.1 S0.2.1 dX1_left_17 rfl (lv_at hl 1 rfl) ?_
      refine q_iald S0 hK hP 1 rfl (by omega) dX1_left_18 ?_
      refine lv_goto (tgt := 23) S0.1 S0.2.1 dX1_left_19 (by decide) ?_
      exact qp_iret S0 hr hlocks (by first | rfl | (exfalso; omega)) dX1_left_23
set_option maxHeartbeats 4000000 in
set_option maxRecDepth 100000 in
theorem c_X1_rightI (l : Launch) (g : GG) (x k1 k2 k3 k4 : Nat) (dp un le : Int) (n : Nat) (V : Nat → Int) (i : Int) (hn : n ≤ 40) (hi : 0 ≤ i ∧ i < n) : qPure l yX1_right wsX1_right ({ frames := 0, cells := 0, slots := 0, locals := 0 }) g [.ref x, .int (iI i)] [(x, .inr (1, [.ref k1, .ref k2, .ref k3, .ref k4, .int (iI dp), .int (iI un), .int (iI le)])), (k4, gI g n V)] (fun _ => True) (some (.int (iI (V i.toNat)))) := by
  refine q_ofP (cc := cX1_right) (maxL := 2) (ret := (some .int)) (by decide) rfl (Nat.le_of_ble_eq_true rfl) ?_
  intro p e s m args below meth c ls S0 hr hlocks hK hP hX hl
  have hP : va_P g.1 vwCl [(x, .inr (1, [.ref k1, .ref k2, .ref k3, .ref k4, .int (iI dp), .int (iI un), .int (iI le)])), (k4, gI g n V)] s.heap := hP
  have hl : lv_has ls 2 [(0, .ref x), (1, .int (iI i))] := hl
  have hinX1 : ∀ w ∈ wsX10, w ∈ wsX1_right := fun w h => List.mem_cons_of_mem _ (List.mem_append_right _ h)
  refine lv_iload_n S0.1 S0.2.1 dX1_right_0 rfl (lv_at hl 1 rfl) ?_
  refine q_if_lt (tgt := 22) S0 (by omega) dX1_right_1 (by decide) (fun c1 => ?_) (fun c1 => ?_)
  · skip
    refine q_iconst S0 dX1_right_22 ?_
    exact qp_iret S0 hr hlocks (by first | rfl | (exfalso; omega)) dX1_right_23
  · skip
    refine lv_iload_n S0.1 S0.2.1 dX1_right_4 rfl (lv_at hl 1 rfl) ?_
    refine lv_aload_n S0.1 S0.2.1 dX1_right_5 rfl (lv_at hl 0 rfl) ?_
    refine q_get (C := RX1) (T := TX1) (N := 7) S0 hK hP hinX1 0 rfl rfl 3 (by decide) (List.mem_of_getElem? (i := 1) rfl) rfl rfl dX1_right_6 ?_
    refine q_alen (z := ((n : Nat) : Int)) S0 hK hP 1 rfl rfl dX1_right_9 ?_
    refine q_icmp_ge (tgt := 22) S0 (by omega) dX1_right_10 (by decide) (fun c10 => ?_) (fun c10 => ?_)
    · skip
      refine q_iconst S0 dX1_right_22 ?_
      exact qp_iret S0 hr hlocks (by first | rfl | (exfalso; omega)) dX1_right_23
    · skip
      refine lv_aload_n S0.1 S0.2.1 dX1_right_13 rfl (lv_at hl 0 rfl) ?_
      refine q_get (C := RX1) (T := TX1) (N := 7) S0 hK hP hinX1 0 rfl rfl 3 (by decide) (List.mem_of_getElem? (i := 1) rfl) rfl rfl dX1_right_14 ?_
      refine lv_iload_n S0.1 S0.2.1 dX1_right_17 rfl (lv_at hl 1 rfl) ?_
      refine q_iald S0 hK hP 1 rfl (by omega) dX1_right_18 ?_
      refine lv_goto (tgt := 23) S0.1 S0.2.1 dX1_right_19 (by decide) ?_
      exact qp_iret S0 hr hlocks (by first | rfl | (exfalso; omega)) dX1_right_23
