set_option maxHeartbeats 4000000 in
set_option maxRecDepth 100000 in
theorem c_X9_length (l : Launch) (g : GG) (t q : Nat) (n : Int) : qPure l yX9_length wsX9_length ({ frames := 0, cells := 0, slots := 0, locals := 0 }) g [.ref t] [(t, .inr (9, [.ref q, .int (iI n)]))] (fun _ => True) (some (.int (iI n))) := by
  refine q_ofP (cc := cX9_length) (maxL := 1) (ret := (some .int)) (by decide) rfl (Nat.le_of_ble_eq_true rfl) ?_
  intro p e s m args below meth c ls S0 hr hlocks hK hP hX hl
  have hP : va_P g.1 vwCl [(t, .inr (9, [.ref q, .int (iI n)]))] s.heap := hP
  have hl : lv_has ls 1 [(0, .ref t)] := hl
  have hinX9 : ∀ w ∈ wsX90, w ∈ wsX9_length := fun w h => List.mem_cons_of_mem _ (List.mem_append_right _ h)
  refine lv_aload_n S0.1 S0.2.1 dX9_length_0 rfl (lv_at hl 0 rfl) ?_
  refine q_get (C := RX9) (T := TX9) (N := 2) S0 hK hP hinX9 0 rfl rfl 1 (by decide) (List.mem_of_getElem? (i := 1) rfl) rfl rfl dX9_length_1 ?_
  exact qp_iret S0 hr hlocks (rfl) dX9_length_4
set_option maxHeartbeats 4000000 in
set_option maxRecDepth 100000 in
theorem c_X9_characterAt (l : Launch) (g : GG) (t q : Nat) (n : Int) (f : Nat → Int) (i : Int) (hi : -2147483648 ≤ i ∧ i < 2147483648) (hf : ∀ j, 0 ≤ f j ∧ f j < 65536) : qPure l yX9_characterAt wsX9_characterAt ({ frames := 0, cells := 0, slots := 0, locals := 0 }) g [.ref t, .int (iI i)] [(t, .inr (9, [.ref q, .int (iI n)])), (q, gC g 40 f)] (fun _ => True) (some (.int (iI (if 0 ≤ i ∧ i < 40 then f i.toNat else 0)))) := by
  refine q_ofP (cc := cX9_characterAt) (maxL := 2) (ret := (some .char)) (by decide) rfl (Nat.le_of_ble_eq_true rfl) ?_
  intro p e s m args below meth c ls S0 hr hlocks hK hP hX hl
  have hP : va_P g.1 vwCl [(t, .inr (9, [.ref q, .int (iI n)])), (q, gC g 40 f)] s.heap := hP
  have hl : lv_has ls 2 [(0, .ref t), (1, .int (iI i))] := hl
  have hinX9 : ∀ w ∈ wsX90, w ∈ wsX9_characterAt := fun w h => List.mem_cons_of_mem _ (List.mem_append_right _ h)
  refine lv_iload_n S0.1 S0.2.1 dX9_characterAt_0 rfl (lv_at hl 1 rfl) ?_
  refine q_if_lt (tgt := 22) S0 (by omega) dX9_characterAt_1 (by decide) (fun c1 => ?_) (fun c1 => ?_)
  · skip
    refine q_iconst S0 dX9_characterAt_22 ?_
    exact qp_cret S0 hr hlocks (by first | exact hf _ | omega) (by first | (rw [if_pos (by omega)]; done) | (rw [if_neg (by omega)]; done) | (exfalso; omega)) dX9_characterAt_23
  · skip
    refine lv_iload_n S0.1 S0.2.1 dX9_characterAt_4 rfl (lv_at hl 1 rfl) ?_
    refine lv_aload_n S0.1 S0.2.1 dX9_characterAt_5 rfl (lv_at hl 0 rfl) ?_
    refine q_get (C := RX9) (T := TX9) (N := 2) S0 hK hP hinX9 0 rfl rfl 0 (by decide) (List.mem_of_getElem? (i := 1) rfl) rfl rfl dX9_characterAt_6 ?_
    refine q_clen (z := 40) S0 hK hP 1 rfl rfl dX9_characterAt_9 ?_
    refine q_icmp_ge (tgt := 22) S0 (by omega) dX9_characterAt_10 (by decide) (fun c10 => ?_) (fun c10 => ?_)
    · skip
      refine q_iconst S0 dX9_characterAt_22 ?_
      exact qp_cret S0 hr hlocks (by first | exact hf _ | omega) (by first | (rw [if_pos (by omega)]; done) | (rw [if_neg (by omega)]; done) | (exfalso; omega)) dX9_characterAt_23
    · skip
      refine lv_aload_n S0.1 S0.2.1 dX9_characterAt_13 rfl (lv_at hl 0 rfl) ?_
      refine q_get (C := RX9) (T := TX9) (N := 2) S0 hK hP hinX9 0 rfl rfl 0 (by decide) (List.mem_of_getElem? (i := 1) rfl) rfl rfl dX9_characterAt_14 ?_
      refine lv_iload_n S0.1 S0.2.1 dX9_characterAt_17 rfl (lv_at hl 1 rfl) ?_
      refine q_cald S0 hK hP 1 rfl (by omega) dX9_characterAt_18 ?_
      refine lv_goto (tgt := 23) S0.1 S0.2.1 dX9_characterAt_19 (by decide) ?_
      exact qp_cret S0 hr hlocks (by first | exact hf _ | omega) (by first | (rw [if_pos (by omega)]; done) | (rw [if_neg (by omega)]; done) | (exfalso; omega)) dX9_characterAt_23
set_option maxHeartbeats 4000000 in
set_option maxRecDepth 100000 in
theorem c_X9_isFull (l : Launch) (g : GG) (t q : Nat) (n : Int) (f : Nat → Int) (hn : 0 ≤ n ∧ n ≤ 40) : qPure l yX9_isFull wsX9_isFull ({ frames := 0, cells := 0, slots := 0, locals := 0 }) g [.ref t] [(t, .inr (9, [.ref q, .int (iI n)])), (q, gC g 40 f)] (fun _ => True) (some (.int (iI (if 40 ≤ n then (1 : Int) else 0)))) := by
  refine q_ofP (cc := cX9_isFull) (maxL := 1) (ret := (some .boolean)) (by decide) rfl (Nat.le_of_ble_eq_true rfl) ?_
  intro p e s m args below meth c ls S0 hr hlocks hK hP hX hl
  have hP : va_P g.1 vwCl [(t, .inr (9, [.ref q, .int (iI n)])), (q, gC g 40 f)] s.heap := hP
  have hl : lv_has ls 1 [(0, .ref t)] := hl
  have hinX9 : ∀ w ∈ wsX90, w ∈ wsX9_isFull := fun w h => List.mem_cons_of_mem _ (List.mem_append_right _ h)
  refine lv_aload_n S0.1 S0.2.1 dX9_isFull_0 rfl (lv_at hl 0 rfl) ?_
  refine q_get (C := RX9) (T := TX9) (N := 2) S0 hK hP hinX9 0 rfl rfl 1 (by decide) (List.mem_of_getElem? (i := 1) rfl) rfl rfl dX9_isFull_1 ?_
  refine lv_aload_n S0.1 S0.2.1 dX9_isFull_4 rfl (lv_at hl 0 rfl) ?_
  refine q_get (C := RX9) (T := TX9) (N := 2) S0 hK hP hinX9 0 rfl rfl 0 (by decide) (List.mem_of_getElem? (i := 2) rfl) rfl rfl dX9_isFull_5 ?_
  refine q_clen (z := 40) S0 hK hP 1 rfl rfl dX9_isFull_8 ?_
  refine q_icmp_lt (tgt := 16) S0 (by omega) dX9_isFull_9 (by decide) (fun c9 => ?_) (fun c9 => ?_)
  · skip
    refine q_iconst S0 dX9_isFull_16 ?_
    exact qp_zret S0 hr hlocks (by first | exact Or.inl rfl | exact Or.inr rfl | omega) (by first | (rw [if_pos (by omega)]; done) | (rw [if_neg (by omega)]; done) | (exfalso; omega)) dX9_isFull_17
  · skip
    refine q_iconst S0 dX9_isFull_12 ?_
    refine lv_goto (tgt := 17) S0.1 S0.2.1 dX9_isFull_13 (by decide) ?_
    exact qp_zret S0 hr hlocks (by first | exact Or.inl rfl | exact Or.inr rfl | omega) (by first | (rw [if_pos (by omega)]; done) | (rw [if_neg (by omega)]; done) | (exfalso; omega)) dX9_isFull_17
set_option maxHeartbeats 4000000 in
set_option maxRecDepth 100000 in
theorem c_X9_append (l : Launch) (g : GG) (t q : Nat) (n : Int) (f : Nat → Int) (x : Int) (hn : 0 ≤ n ∧ n ≤ 40) (hx : 0 ≤ x ∧ x < 65536) : qMet l yX9_append wsX9_append ({ frames := 0, cells := 0, slots := 0, locals := 0 }) g [.ref t, .int (iI x)] [(t, .inr (9, [.ref q, .int (iI n)])), (q, gC g 40 f)] (fun _ => True) (fun _ => True) (S := Unit) (fun _ => some (.int (iI (if n < 40 then n + 1 else n)))) (fun _ => [(t, .inr (9, [.ref q, .int (iI (if n < 40 then n + 1 else n))])), (q, gC g 40 (if n < 40 then up f n.toNat x else f))]) (fun _ => True) 0 0 := by
  refine q_ofW (cc := cX9_append) (maxL := 2) (ret := (some .int)) (fun sz h => h.self) (by decide) rfl (Nat.le_of_ble_eq_true rfl) ?_
  intro p e s m args below meth c A ls S0 hr hlocks hnme hK hA hAe hW hD0 hX hl
  have hW : gW g A s.heap s.heap [] [(t, .inr (9, [.ref q, .int (iI n)])), (q, gC g 40 f)] := hW
  have hl : lv_has ls 2 [(0, .ref t), (1, .int (iI x))] := hl
  have hinX9 : ∀ w ∈ wsX90, w ∈ wsX9_append := fun w h => List.mem_cons_of_mem _ (List.mem_append_right _ h)
  refine lv_aload_n S0.1 S0.2.1 dX9_append_0 rfl (lv_at hl 0 rfl) ?_
  refine q_get (C := RX9) (T := TX9) (N := 2) S0 hK hW.1 hinX9 0 rfl rfl 1 (by decide) (List.mem_of_getElem? (i := 1) rfl) rfl rfl dX9_append_1 ?_
  refine q_if_lt (tgt := 39) S0 (by omega) dX9_append_4 (by decide) (fun c4 => ?_) (fun c4 => ?_)
  · skip
    exact absurd c4 (by omega)
  · skip
    refine lv_aload_n S0.1 S0.2.1 dX9_append_7 rfl (lv_at hl 0 rfl) ?_
    refine q_get (C := RX9) (T := TX9) (N := 2) S0 hK hW.1 hinX9 0 rfl rfl 1 (by decide) (List.mem_of_getElem? (i := 1) rfl) rfl rfl dX9_append_8 ?_
    refine lv_aload_n S0.1 S0.2.1 dX9_append_11 rfl (lv_at hl 0 rfl) ?_
    refine q_get (C := RX9) (T := TX9) (N := 2) S0 hK hW.1 hinX9 0 rfl rfl 0 (by decide) (List.mem_of_getElem? (i := 2) rfl) rfl rfl dX9_append_12 ?_
    refine q_clen (z := 40) S0 hK hW.1 1 rfl rfl dX9_append_15 ?_
    refine q_icmp_ge (tgt := 39) S0 (by omega) dX9_append_16 (by decide) (fun c16 => ?_) (fun c16 => ?_)
    · skip
      refine lv_aload_n S0.1 S0.2.1 dX9_append_39 rfl (lv_at hl 0 rfl) ?_
      refine q_get (C := RX9) (T := TX9) (N := 2) S0 hK hW.1 hinX9 0 rfl rfl 1 (by decide) (List.mem_of_getElem? (i := 1) rfl) rfl rfl dX9_append_40 ?_
      exact q_iret S0 hr hlocks () (trivial) (by first | (rw [if_pos (by omega)]; done) | (rw [if_neg (by omega)]; done) | (exfalso; omega)) (hW.sub [0, 1] rfl (by first | (rw [if_pos (by omega), if_pos (by omega)]; rfl) | (rw [if_neg (by omega), if_neg (by omega)]; rfl) | (exfalso; omega))) (Nat.le_of_ble_eq_true rfl) (Nat.le_of_ble_eq_true rfl) dX9_append_43
    · skip
      refine lv_aload_n S0.1 S0.2.1 dX9_append_19 rfl (lv_at hl 0 rfl) ?_
      refine q_get (C := RX9) (T := TX9) (N := 2) S0 hK hW.1 hinX9 0 rfl rfl 0 (by decide) (List.mem_of_getElem? (i := 2) rfl) rfl rfl dX9_append_20 ?_
      refine lv_aload_n S0.1 S0.2.1 dX9_append_23 rfl (lv_at hl 0 rfl) ?_
      refine q_get (C := RX9) (T := TX9) (N := 2) S0 hK hW.1 hinX9 0 rfl rfl 1 (by decide) (List.mem_of_getElem? (i := 1) rfl) rfl rfl dX9_append_24 ?_
      refine lv_iload_n S0.1 S0.2.1 dX9_append_27 rfl (lv_at hl 1 rfl) ?_
      refine q_cast S0 hK hW 1 rfl (by omega) (by omega) dX9_append_28 (fun H locs hW => ?_)
      have hW : gW g A s.heap H _ [(t, .inr (9, [.ref q, .int (iI n)])), (q, gC g 40 (up f ((n).toNat) x))] := hW
      refine lv_aload_n S0.1 S0.2.1 dX9_append_29 rfl (lv_at hl 0 rfl) ?_
      refine lv_dup S0.1 S0.2.1 dX9_append_30 rfl ?_
      refine q_get (C := RX9) (T := TX9) (N := 2) S0 hK hW.1 hinX9 0 rfl rfl 1 (by decide) (List.mem_of_getElem? (i := 1) rfl) rfl rfl dX9_append_31 ?_
      refine q_iconst S0 dX9_append_34 ?_
      refine q_iadd S0 dX9_append_35 ?_
      refine q_put (C := RX9) (T := TX9) (N := 2) S0 hK hW hinX9 tyX9_ok nmX9 0 rfl rfl 1 (by decide) (List.mem_of_getElem? (i := 1) rfl) rfl rfl rfl rfl (Nat.le_of_ble_eq_true rfl) dX9_append_36 (fun H locs hW => ?_)
      have hW : gW g A s.heap H _ [(t, .inr (9, [.ref q, .int (iI (n + 1))])), (q, gC g 40 (up f ((n).toNat) x))] := hW
      refine lv_aload_n S0.1 S0.2.1 dX9_append_39 rfl (lv_at hl 0 rfl) ?_
      refine q_get (C := RX9) (T := TX9) (N := 2) S0 hK hW.1 hinX9 0 rfl rfl 1 (by decide) (List.mem_of_getElem? (i := 1) rfl) rfl rfl dX9_append_40 ?_
      exact q_iret S0 hr hlocks () (trivial) (by first | (rw [if_pos (by omega)]; done) | (rw [if_neg (by omega)]; done) | (exfalso; omega)) (hW.sub [0, 1] rfl (by first | (rw [if_pos (by omega), if_pos (by omega)]; rfl) | (rw [if_neg (by omega), if_neg (by omega)]; rfl) | (exfalso; omega))) (Nat.le_of_ble_eq_true rfl) (Nat.le_of_ble_eq_true rfl) dX9_append_43
set_option maxHeartbeats 4000000 in
set_option maxRecDepth 100000 in
theorem c_X9_empty (l : Launch) (g : GG) (t q : Nat) (n : Int) : qMet l yX9_empty wsX9_empty ({ frames := 0, cells := 0, slots := 0, locals := 0 }) g [.ref t] [(t, .inr (9, [.ref q, .int (iI n)]))] (fun _ => True) (fun _ => True) (S := Unit) (fun _ => some (.int (iI n))) (fun _ => [(t, .inr (9, [.ref q, .int (iI 0)]))]) (fun _ => True) 0 0 := by
  refine q_ofW (cc := cX9_empty) (maxL := 2) (ret := (some .int)) (fun sz h => h.self) (by decide) rfl (Nat.le_of_ble_eq_true rfl) ?_
  intro p e s m args below meth c A ls S0 hr hlocks hnme hK hA hAe hW hD0 hX hl
  have hW : gW g A s.heap s.heap [] [(t, .inr (9, [.ref q, .int (iI n)]))] := hW
  have hl : lv_has ls 2 [(0, .ref t)] := hl
  have hinX9 : ∀ w ∈ wsX90, w ∈ wsX9_empty := fun w h => List.mem_cons_of_mem _ (List.mem_append_right _ h)
  refine lv_aload_n S0.1 S0.2.1 dX9_empty_0 rfl (lv_at hl 0 rfl) ?_
  refine q_get (C := RX9) (T := TX9) (N := 2) S0 hK hW.1 hinX9 0 rfl rfl 1 (by decide) (List.mem_of_getElem? (i := 1) rfl) rfl rfl dX9_empty_1 ?_
  refine lv_istore_n (lv' := [(1, .int (iI n)), (0, .ref t)]) S0.1 S0.2.1 dX9_empty_4 rfl hl (by decide) rfl (fun ls hl => ?_)
  refine lv_aload_n S0.1 S0.2.1 dX9_empty_5 rfl (lv_at hl 1 rfl) ?_
  refine q_iconst S0 dX9_empty_6 ?_
  refine q_put (C := RX9) (T := TX9) (N := 2) S0 hK hW hinX9 tyX9_ok nmX9 0 rfl rfl 1 (by decide) (List.mem_of_getElem? (i := 1) rfl) rfl rfl rfl rfl (Nat.le_of_ble_eq_true rfl) dX9_empty_7 (fun H locs hW => ?_)
  have hW : gW g A s.heap H _ [(t, .inr (9, [.ref q, .int (iI 0)]))] := hW
  refine lv_iload_n S0.1 S0.2.1 dX9_empty_10 rfl (lv_at hl 0 rfl) ?_
  exact q_iret S0 hr hlocks () (trivial) (rfl) (hW.sub [0] rfl (rfl)) (Nat.le_of_ble_eq_true rfl) (Nat.le_of_ble_eq_true rfl) dX9_empty_11
set_option maxHeartbeats 4000000 in
set_option maxRecDepth 100000 in
theorem c_X8_get (l : Launch) (g : GG) (t q n wn : Nat) (w : Int) (f : Nat → Int) (u k : Int) (hw : w = (wn : Int) ∧ wn < 1000 ∧ n = 4 * wn) (hu : 0 ≤ u ∧ u < 4) (hk : -2147483648 ≤ k ∧ k < 2147483648) : qPure l yX8_get wsX8_get ({ frames := 1, cells := 0, slots := 0, locals := 21 }) g [.ref t, .int (iI u), .int (iI k)] [(t, .inr (8, [.int (iI w), .ref q])), (q, gI g n f)] (fun _ => True) (some (.int (iI (if 0 ≤ k ∧ k < w then f (u * w + k).toNat else 0)))) := by
  refine q_ofP (cc := cX8_get) (maxL := 3) (ret := (some .int)) (by decide) rfl (Nat.le_of_ble_eq_true rfl) ?_
  intro p e s m args below meth c ls S0 hr hlocks hK hP hX hl
  have hP : va_P g.1 vwCl [(t, .inr (8, [.int (iI w), .ref q])), (q, gI g n f)] s.heap := hP
  have hl : lv_has ls 3 [(0, .ref t), (1, .int (iI u)), (2, .int (iI k))] := hl
  have hinX8 : ∀ w ∈ wsX80, w ∈ wsX8_get := fun w h => List.mem_cons_of_mem _ (List.mem_append_right _ h)
  refine lv_iload_n S0.1 S0.2.1 dX8_get_0 rfl (lv_at hl 2 rfl) ?_
  refine q_if_lt (tgt := 30) S0 (by omega) dX8_get_1 (by decide) (fun c1 => ?_) (fun c1 => ?_)
  · skip
    refine q_iconst S0 dX8_get_30 ?_
    exact qp_iret S0 hr hlocks (by first | (rw [if_pos (by omega)]; done) | (rw [if_neg (by omega)]; done) | (exfalso; omega)) dX8_get_31
  · skip
    refine lv_iload_n S0.1 S0.2.1 dX8_get_4 rfl (lv_at hl 2 rfl) ?_
    refine lv_aload_n S0.1 S0.2.1 dX8_get_5 rfl (lv_at hl 0 rfl) ?_
    refine q_get (C := RX8) (T := TX8) (N := 2) S0 hK hP hinX8 0 rfl rfl 0 (by decide) (List.mem_of_getElem? (i := 1) rfl) rfl rfl dX8_get_6 ?_
    refine q_icmp_ge (tgt := 30) S0 (by omega) dX8_get_9 (by decide) (fun c9 => ?_) (fun c9 => ?_)
    · skip
      refine q_iconst S0 dX8_get_30 ?_
      exact qp_iret S0 hr hlocks (by first | (rw [if_pos (by omega)]; done) | (rw [if_neg (by omega)]; done) | (exfalso; omega)) dX8_get_31
    · skip
      refine lv_aload_n S0.1 S0.2.1 dX8_get_12 rfl (lv_at hl 0 rfl) ?_
      refine q_get (C := RX8) (T := TX8) (N := 2) S0 hK hP hinX8 0 rfl rfl 1 (by decide) (List.mem_of_getElem? (i := 2) rfl) rfl rfl dX8_get_13 ?_
      have hm := mul_rng (a := u) (b := w) (n := 4) (k := 1000) (by omega) (by omega)
      refine lv_iload_n S0.1 S0.2.1 dX8_get_16 rfl (lv_at hl 1 rfl) ?_
      refine lv_aload_n S0.1 S0.2.1 dX8_get_17 rfl (lv_at hl 0 rfl) ?_
      refine q_get (C := RX8) (T := TX8) (N := 2) S0 hK hP hinX8 0 rfl rfl 0 (by decide) (List.mem_of_getElem? (i := 1) rfl) rfl rfl dX8_get_18 ?_
      refine q_imul S0 dX8_get_21 ?_
      refine lv_iload_n S0.1 S0.2.1 dX8_get_22 rfl (lv_at hl 2 rfl) ?_
      refine q_iadd S0 dX8_get_23 ?_
      refine q_pSN (n := 2) (rest := []) S0 hK (c_X10_at l g q n f ((u * w) + k) (by omega) (by omega)) (subP hP [1] rfl) (trivial) gX8_get_X10_at_n34 rfl rfl rfl 1 rfl (List.mem_of_getElem? (i := 4) rfl) (List.mem_of_getElem? (i := 3) rfl) (by decide +kernel) ⟨Nat.le_of_ble_eq_true rfl, Nat.le_of_ble_eq_true rfl⟩ rfl rfl hl.1 (Nat.le_of_ble_eq_true rfl) ⟨Nat.le_of_ble_eq_true rfl, Nat.le_of_ble_eq_true rfl⟩ dX8_get_24 ?_
      refine W.eq (g2 := F0 m 27 ls [.int (iI (at0 n f ((u * w) + k)))]) rfl ?_
      refine q_topI (b := f (u * w + k).toNat) (by
            have h3 : u * w ≤ 3 * w := Int.mul_le_mul_of_nonneg_right (by omega) (by omega)
            unfold at0; rw [if_pos (by omega)]) ?_
      refine lv_goto (tgt := 31) S0.1 S0.2.1 dX8_get_27 (by decide) ?_
      exact qp_iret S0 hr hlocks (by first | (rw [if_pos (by omega)]; done) | (rw [if_neg (by omega)]; done) | (exfalso; omega)) dX8_get_31
set_option maxHeartbeats 4000000 in
set_option maxRecDepth 100000 in
theorem c_X8_set (l : Launch) (g : GG) (t q n wn : Nat) (w : Int) (f : Nat → Int) (u k x : Int) (hw : w = (wn : Int) ∧ wn < 1000 ∧ n = 4 * wn) (hu : 0 ≤ u ∧ u < 4) (hk : -2147483648 ≤ k ∧ k < 2147483648) : qMet l yX8_set wsX8_set ({ frames := 1, cells := 0, slots := 0, locals := 22 }) g [.ref t, .int (iI u), .int (iI k), .int (iI x)] [(t, .inr (8, [.int (iI w), .ref q])), (q, gI g n f)] (fun _ => True) (fun _ => True) (S := Unit) (fun _ => none) (fun _ => [(t, .inr (8, [.int (iI w), .ref q])), (q, gI g n (if 0 ≤ k ∧ k < w then up f (u * w + k).toNat x else f))]) (fun _ => True) 0 0 := by
  refine q_ofW (cc := cX8_set) (maxL := 4) (ret := none) (fun sz h => h.self) (by decide) rfl (Nat.le_of_ble_eq_true rfl) ?_
  intro p e s m args below meth c A ls S0 hr hlocks hnme hK hA hAe hW hD0 hX hl
  have hW : gW g A s.heap s.heap [] [(t, .inr (8, [.int (iI w), .ref q])), (q, gI g n f)] := hW
  have hl : lv_has ls 4 [(0, .ref t), (1, .int (iI u)), (2, .int (iI k)), (3, .int (iI x))] := hl
  have hinX8 : ∀ w ∈ wsX80, w ∈ wsX8_set := fun w h => List.mem_cons_of_mem _ (List.mem_append_right _ h)
  refine lv_iload_n S0.1 S0.2.1 dX8_set_0 rfl (lv_at hl 2 rfl) ?_
  refine q_if_lt (tgt := 28) S0 (by omega) dX8_set_1 (by decide) (fun c1 => ?_) (fun c1 => ?_)
  · skip
    exact q_vret S0 hr hlocks () (trivial) rfl (hW.sub [0, 1] rfl (by first | (rw [if_neg (by omega)]; rfl) | (rw [if_pos (by omega)]; simp only [put0]; rw [if_pos (by omega)]; rfl))) (Nat.le_of_ble_eq_true rfl) (Nat.le_of_ble_eq_true rfl) dX8_set_28
  · skip
    refine lv_iload_n S0.1 S0.2.1 dX8_set_4 rfl (lv_at hl 2 rfl) ?_
    refine lv_aload_n S0.1 S0.2.1 dX8_set_5 rfl (lv_at hl 0 rfl) ?_
    refine q_get (C := RX8) (T := TX8) (N := 2) S0 hK hW.1 hinX8 0 rfl rfl 0 (by decide) (List.mem_of_getElem? (i := 1) rfl) rfl rfl dX8_set_6 ?_
    refine q_icmp_ge (tgt := 28) S0 (by omega) dX8_set_9 (by decide) (fun c9 => ?_) (fun c9 => ?_)
    · skip
      exact q_vret S0 hr hlocks () (trivial) rfl (hW.sub [0, 1] rfl (by first | (rw [if_neg (by omega)]; rfl) | (rw [if_pos (by omega)]; simp only [put0]; rw [if_pos (by omega)]; rfl))) (Nat.le_of_ble_eq_true rfl) (Nat.le_of_ble_eq_true rfl) dX8_set_28
    · skip
      refine lv_aload_n S0.1 S0.2.1 dX8_set_12 rfl (lv_at hl 0 rfl) ?_
      refine q_get (C := RX8) (T := TX8) (N := 2) S0 hK hW.1 hinX8 0 rfl rfl 1 (by decide) (List.mem_of_getElem? (i := 2) rfl) rfl rfl dX8_set_13 ?_
      have hm := mul_rng (a := u) (b := w) (n := 4) (k := 1000) (by omega) (by omega)
      have h3 : u * w ≤ 3 * w := Int.mul_le_mul_of_nonneg_right (by omega) (by omega)
      refine lv_iload_n S0.1 S0.2.1 dX8_set_16 rfl (lv_at hl 1 rfl) ?_
      refine lv_aload_n S0.1 S0.2.1 dX8_set_17 rfl (lv_at hl 0 rfl) ?_
      refine q_get (C := RX8) (T := TX8) (N := 2) S0 hK hW.1 hinX8 0 rfl rfl 0 (by decide) (List.mem_of_getElem? (i := 1) rfl) rfl rfl dX8_set_18 ?_
      refine q_imul S0 dX8_set_21 ?_
      refine lv_iload_n S0.1 S0.2.1 dX8_set_22 rfl (lv_at hl 2 rfl) ?_
      refine q_iadd S0 dX8_set_23 ?_
      refine lv_iload_n S0.1 S0.2.1 dX8_set_24 rfl (lv_at hl 3 rfl) ?_
      refine q_cSN (n := 3) (rest := []) (wr := [(t, .inr (8, [.int (iI w), .ref q]))]) S0 hK hA hW (c_X10_put l g q n f ((u * w) + k) x (by omega) (by omega)) gX8_set_X10_put_n38 rfl rfl rfl 0 rfl (List.mem_of_getElem? (i := 4) rfl) (List.mem_of_getElem? (i := 3) rfl) (by decide +kernel) ⟨Nat.le_of_ble_eq_true rfl, Nat.le_of_ble_eq_true rfl⟩ [1] [0] rfl rfl rfl rfl (by decide) (fun _ _ => trivial) (trivial) rfl rfl hl.1 (Nat.le_of_ble_eq_true rfl) ⟨Nat.le_of_ble_eq_true rfl, Nat.le_of_ble_eq_true rfl⟩ dX8_set_25 (fun _ H locs _ hW => ?_)
      have hW : gW g A s.heap H _ [(t, .inr (8, [.int (iI w), .ref q])), (q, gI g n (put0 n f ((u * w) + k) x))] := hW
      refine W.eq (g2 := F0 m 28 ls []) rfl ?_
      exact q_vret S0 hr hlocks () (trivial) rfl (hW.sub [0, 1] rfl (by first | (rw [if_neg (by omega)]; rfl) | (rw [if_pos (by omega)]; simp only [put0]; rw [if_pos (by omega)]; rfl))) (Nat.le_of_ble_eq_true rfl) (Nat.le_of_ble_eq_true rfl) dX8_set_28
set_option maxHeartbeats 4000000 in
set_option maxRecDepth 100000 in
theorem c_J7_fill (l : Launch) (g : GG) (a n : Nat) (f : Nat → Int) (x : Int) (hn : n < 100000) : qMet l yJ7_fill_53178 wsJ7_fill_53178 ({ frames := 0, cells := 0, slots := 0, locals := 0 }) g [.ref a, .int (iI x)] [(a, gI g n f)] (fun _ => True) (fun _ => True) (S := Unit) (fun _ => none) (fun _ => [(a, gI g n (fillf n x f))]) (fun _ => True) 0 0 := by
  refine q_ofW (cc := cJ7_fill_53178) (maxL := 4) (ret := none) (fun sz h => h.self) (by decide) rfl (Nat.le_of_ble_eq_true rfl) ?_
  intro p e s m args below meth c A ls S0 hr hlocks hnme hK hA hAe hW hD0 hX hl
  have hW : gW g A s.heap s.heap [] [(a, gI g n f)] := hW
  have hl : lv_has ls 4 [(0, .ref a), (1, .int (iI x))] := hl
  refine q_iconst S0 dJ7_fill_53178_0 ?_
  refine lv_istore_n (lv' := [(2, .int (iI 0)), (0, .ref a), (1, .int (iI x))]) S0.1 S0.2.1 dJ7_fill_53178_1 rfl hl (by decide) rfl (fun ls hl => ?_)
  refine lv_aload_n S0.1 S0.2.1 dJ7_fill_53178_2 rfl (lv_at hl 1 rfl) ?_
  refine q_alen (z := ((n : Nat) : Int)) S0 hK hW.1 0 rfl rfl dJ7_fill_53178_3 ?_
  refine lv_istore_n (lv' := [(3, .int (iI (((n : Nat) : Int)))), (2, .int (iI 0)), (0, .ref a), (1, .int (iI x))]) S0.1 S0.2.1 dJ7_fill_53178_4 rfl hl (by decide) rfl (fun ls hl => ?_)
  refine q_loop (α := Int × (Nat → Int)) (fun (z_ : Int × (Nat → Int)) => match z_ with | (i, h) => 0 ≤ i ∧ i ≤ n ∧ h = fillf i.toNat x f) (fun (z_ : Int × (Nat → Int)) => match z_ with | (i, h) => (n - i).toNat) (fun (z_ : Int × (Nat → Int)) => match z_ with | (i, h) => [(a, gI g n h)]) (fun (z_ : Int × (Nat → Int)) => match z_ with | (i, h) => [(3, .int (iI (((n : Nat) : Int)))), (2, .int (iI i)), (0, .ref a), (1, .int (iI x))]) ?_ (0, f) (by refine ⟨by omega, by omega, (fillf_0 x f).symm⟩) hW (lv_sub hl [0, 1, 2, 3] rfl)
  rintro ⟨i, h⟩ hinv IHl H locs ls hW hl
  try dsimp only at hinv
  have hW : gW g A s.heap H _ [(a, gI g n h)] := hW
  have hl : lv_has ls 4 [(3, .int (iI (((n : Nat) : Int)))), (2, .int (iI i)), (0, .ref a), (1, .int (iI x))] := hl
  refine lv_iload_n S0.1 S0.2.1 dJ7_fill_53178_5 rfl (lv_at hl 1 rfl) ?_
  refine lv_iload_n S0.1 S0.2.1 dJ7_fill_53178_6 rfl (lv_at hl 0 rfl) ?_
  refine q_icmp_ge (tgt := 20) S0 (by omega) dJ7_fill_53178_7 (by decide) (fun c7 => ?_) (fun c7 => ?_)
  · skip
    exact q_vret S0 hr hlocks () (trivial) rfl (hW.sub [0] rfl (by obtain ⟨h1, h2, h3⟩ := hinv; rw [h3, show i.toNat = n by omega]; rfl)) (Nat.le_of_ble_eq_true rfl) (Nat.le_of_ble_eq_true rfl) dJ7_fill_53178_20
  · skip
    refine lv_aload_n S0.1 S0.2.1 dJ7_fill_53178_10 rfl (lv_at hl 2 rfl) ?_
    refine lv_iload_n S0.1 S0.2.1 dJ7_fill_53178_11 rfl (lv_at hl 1 rfl) ?_
    refine lv_iload_n S0.1 S0.2.1 dJ7_fill_53178_12 rfl (lv_at hl 3 rfl) ?_
    refine q_iast S0 hK hW 0 rfl (by omega) dJ7_fill_53178_13 (fun H locs hW => ?_)
    have hW : gW g A s.heap H _ [(a, gI g n (up h ((i).toNat) x))] := hW
    refine q_iinc (lv' := [(2, .int (iI (i + 1))), (3, .int (iI (((n : Nat) : Int)))), (0, .ref a), (1, .int (iI x))]) S0 dJ7_fill_53178_14 hl (k := 1) rfl (by decide) rfl (fun ls hl => ?_)
    refine lv_goto (tgt := 5) S0.1 S0.2.1 dJ7_fill_53178_17 (by decide) ?_
    exact IHl (i + 1, up h i.toNat x) H locs ls (by obtain ⟨h1, h2, h3⟩ := hinv; refine ⟨by omega, by omega, ?_⟩; rw [h3, fillf_up, show (i + 1).toNat = i.toNat + 1 by omega]) (by (try dsimp only); omega) hW (lv_sub hl [1, 0, 2, 3] rfl)
set_option maxHeartbeats 4000000 in
set_option maxRecDepth 100000 in
theorem c_X8_fill (l : Launch) (g : GG) (t q n : Nat) (w : Int) (f : Nat → Int) (x : Int) (hn : n < 100000) : qMet l yX8_fill wsX8_fill ({ frames := 1, cells := 0, slots := 0, locals := 23 }) g [.ref t, .int (iI x)] [(t, .inr (8, [.int (iI w), .ref q])), (q, gI g n f)] (fun _ => True) (fun _ => True) (S := Unit) (fun _ => none) (fun _ => [(t, .inr (8, [.int (iI w), .ref q])), (q, gI g n (fillf n x f))]) (fun _ => True) 0 0 := by
  refine q_ofW (cc := cX8_fill) (maxL := 2) (ret := none) (fun sz h => h.self) (by decide) rfl (Nat.le_of_ble_eq_true rfl) ?_
  intro p e s m args below meth c A ls S0 hr hlocks hnme hK hA hAe hW hD0 hX hl
  have hW : gW g A s.heap s.heap [] [(t, .inr (8, [.int (iI w), .ref q])), (q, gI g n f)] := hW
  have hl : lv_has ls 2 [(0, .ref t), (1, .int (iI x))] := hl
  have hinX8 : ∀ w ∈ wsX80, w ∈ wsX8_fill := fun w h => List.mem_cons_of_mem _ (List.mem_append_right _ h)
  refine lv_aload_n S0.1 S0.2.1 dX8_fill_0 rfl (lv_at hl 0 rfl) ?_
  refine q_get (C := RX8) (T := TX8) (N := 2) S0 hK hW.1 hinX8 0 rfl rfl 1 (by decide) (List.mem_of_getElem? (i := 1) rfl) rfl rfl dX8_fill_1 ?_
  refine lv_iload_n S0.1 S0.2.1 dX8_fill_4 rfl (lv_at hl 1 rfl) ?_
  refine q_cS (n := 2) (rest := []) (wr := [(t, .inr (8, [.int (iI w), .ref q]))]) S0 hK hA hW (c_J7_fill l g q n f x (by omega)) gX8_fill_J7_fill_53178 rfl rfl rfl (by decide +kernel) ⟨Nat.le_of_ble_eq_true rfl, Nat.le_of_ble_eq_true rfl⟩ [1] [0] rfl rfl rfl rfl (by decide) (fun _ _ => trivial) (trivial) rfl rfl hl.1 (Nat.le_of_ble_eq_true rfl) ⟨Nat.le_of_ble_eq_true rfl, Nat.le_of_ble_eq_true rfl⟩ dX8_fill_5 (fun _ H locs _ hW => ?_)
  have hW : gW g A s.heap H _ [(t, .inr (8, [.int (iI w), .ref q])), (q, gI g n (fillf n x f))] := hW
  refine W.eq (g2 := F0 m 8 ls []) rfl ?_
  exact q_vret S0 hr hlocks () (trivial) rfl (hW.sub [0, 1] rfl (rfl)) (Nat.le_of_ble_eq_true rfl) (Nat.le_of_ble_eq_true rfl) dX8_fill_8
set_option maxHeartbeats 4000000 in
set_option maxRecDepth 100000 in
theorem c_X8_init (l : Launch) (g : GG) (t wn : Nat) (w : Int) (hw : w = (wn : Int) ∧ wn < 200) : qMet l yX8_init wsX8_init ({ frames := 1, cells := 1, slots := 4 * wn, locals := 40 }) g [.ref t, .int (iI w)] [(t, .inr (8, [.int (iI 0), .null]))] (fun _ => True) (fun _ => True) (S := Nat) (fun _ => none) (fun u_ => [(t, .inr (8, [.int (iI w), .ref u_])), (u_, gI g (4 * wn) (fun _ => 0))]) (fun _ => True) 1 (4 * wn) := by
  refine q_ofW (cc := cX8_init) (maxL := 2) (ret := none) (fun sz h => h.self) (by decide) rfl (Nat.le_of_ble_eq_true rfl) ?_
  intro p e s m args below meth c A ls S0 hr hlocks hnme hK hA hAe hW hD0 hX hl
  have hW : gW g A s.heap s.heap [] [(t, .inr (8, [.int (iI 0), .null]))] := hW
  have hl : lv_has ls 2 [(0, .ref t), (1, .int (iI w))] := hl
  have hinX8 : ∀ w ∈ wsX80, w ∈ wsX8_init := fun w h => List.mem_cons_of_mem _ (List.mem_append_right _ h)
  refine lv_aload_n S0.1 S0.2.1 dX8_init_0 rfl (lv_at hl 0 rfl) ?_
  refine q_obj S0 (List.mem_of_getElem? (i := 1) rfl) (List.mem_of_getElem? (i := 2) rfl) (List.mem_of_getElem? (i := 3) rfl) hl.1 dX8_init_1 (Nat.le_of_ble_eq_true rfl) (Nat.le_of_ble_eq_true rfl) ?_
  refine W.eq (g2 := F0 m 4 ls []) rfl ?_
  refine lv_aload_n S0.1 S0.2.1 dX8_init_4 rfl (lv_at hl 0 rfl) ?_
  refine q_iconst S0 dX8_init_5 ?_
  refine lv_iload_n S0.1 S0.2.1 dX8_init_6 rfl (lv_at hl 1 rfl) ?_
  refine q_mmax S0 (by omega) (List.mem_of_getElem? (i := 4) rfl) (List.mem_of_getElem? (i := 5) rfl) (List.mem_of_getElem? (i := 6) rfl) (List.mem_of_getElem? (i := 7) rfl) hl.1 (Nat.le_of_ble_eq_true rfl) (Nat.le_of_ble_eq_true rfl) (Nat.le_of_ble_eq_true rfl) (Nat.le_of_ble_eq_true rfl) dX8_init_7 ?_
  refine q_sipush S0 (by decide) dX8_init_10 ?_
  refine q_mmin S0 (by omega) (List.mem_of_getElem? (i := 8) rfl) (List.mem_of_getElem? (i := 9) rfl) (List.mem_of_getElem? (i := 6) rfl) (List.mem_of_getElem? (i := 10) rfl) hl.1 (Nat.le_of_ble_eq_true rfl) (Nat.le_of_ble_eq_true rfl) (Nat.le_of_ble_eq_true rfl) (Nat.le_of_ble_eq_true rfl) dX8_init_13 ?_
  refine q_topI (b := w) (by omega) ?_
  refine q_putF (C := RX8) (T := TX8) (N := 2) S0 hnme hK hW hinX8 tyX8_ok nmX8 0 rfl rfl 0 (by decide) (List.mem_of_getElem? (i := 11) rfl) rfl rfl rfl rfl rfl (Nat.le_of_ble_eq_true rfl) dX8_init_16 (fun H locs hW => ?_)
  have hW : gW g A s.heap H _ [(t, .inr (8, [.int (iI w), .null]))] := hW
  refine lv_aload_n S0.1 S0.2.1 dX8_init_19 rfl (lv_at hl 0 rfl) ?_
  refine q_iconst S0 dX8_init_20 ?_
  refine lv_aload_n S0.1 S0.2.1 dX8_init_21 rfl (lv_at hl 0 rfl) ?_
  refine q_get (C := RX8) (T := TX8) (N := 2) S0 hK hW.1 hinX8 0 rfl rfl 0 (by decide) (List.mem_of_getElem? (i := 11) rfl) rfl rfl dX8_init_22 ?_
  refine q_imul S0 dX8_init_25 ?_
  refine q_newI (N := 4 * wn) S0 hK hA hW (List.mem_of_getElem? (i := 12) rfl) (by omega) (Nat.le_of_ble_eq_true rfl) (by show 0 + 4 * wn ≤ 4 * wn; omega) dX8_init_26 (fun q1 H hW => ?_)
  have hW : gW g A s.heap H _ [(t, .inr (8, [.int (iI w), .null])), (q1, gI g (4 * wn) (fun _ => 0))] := hW
  refine q_putF (C := RX8) (T := TX8) (N := 2) S0 hnme hK hW hinX8 tyX8_ok nmX8 0 rfl rfl 1 (by decide) (List.mem_of_getElem? (i := 13) rfl) rfl rfl rfl rfl rfl (Nat.le_of_ble_eq_true rfl) dX8_init_28 (fun H locs hW => ?_)
  have hW : gW g A s.heap H _ [(t, .inr (8, [.int (iI w), .ref q1])), (q1, gI g (4 * wn) (fun _ => 0))] := hW
  exact q_vret S0 hr hlocks q1 (trivial) rfl (hW.sub [0, 1] rfl (rfl)) (Nat.le_of_ble_eq_true rfl) (by show 0 + 4 * wn ≤ 4 * wn; omega) dX8_init_31
set_option maxHeartbeats 4000000 in
set_option maxRecDepth 100000 in
theorem c_X6_init (l : Launch) (g : GG) (a : Nat) (o pr : Int) : qMet l yX6_init wsX6_init ({ frames := 1, cells := 0, slots := 0, locals := 18 }) g [.ref a, .int (iI pr)] [(a, .inr (6, [.int (iI o)]))] (fun _ => True) (fun _ => True) (S := Unit) (fun _ => none) (fun _ => [(a, .inr (6, [.int (iI pr)]))]) (fun _ => True) 0 0 := by
  refine q_ofW (cc := cX6_init) (maxL := 2) (ret := none) (fun sz h => h.self) (by decide) rfl (Nat.le_of_ble_eq_true rfl) ?_
  intro p e s m args below meth c A ls S0 hr hlocks hnme hK hA hAe hW hD0 hX hl
  have hW : gW g A s.heap s.heap [] [(a, .inr (6, [.int (iI o)]))] := hW
  have hl : lv_has ls 2 [(0, .ref a), (1, .int (iI pr))] := hl
  have hinX6 : ∀ w ∈ wsX60, w ∈ wsX6_init := fun w h => List.mem_cons_of_mem _ (List.mem_append_right _ h)
  refine lv_aload_n S0.1 S0.2.1 dX6_init_0 rfl (lv_at hl 0 rfl) ?_
  refine q_obj S0 (List.mem_of_getElem? (i := 1) rfl) (List.mem_of_getElem? (i := 2) rfl) (List.mem_of_getElem? (i := 3) rfl) hl.1 dX6_init_1 (Nat.le_of_ble_eq_true rfl) (Nat.le_of_ble_eq_true rfl) ?_
  refine W.eq (g2 := F0 m 4 ls []) rfl ?_
  refine lv_aload_n S0.1 S0.2.1 dX6_init_4 rfl (lv_at hl 0 rfl) ?_
  refine lv_iload_n S0.1 S0.2.1 dX6_init_5 rfl (lv_at hl 1 rfl) ?_
  refine q_putF (C := RX6) (T := TX6) (N := 1) S0 hnme hK hW hinX6 tyX6_ok nmX6 0 rfl rfl 0 (by decide) (List.mem_of_getElem? (i := 4) rfl) rfl rfl rfl rfl rfl (Nat.le_of_ble_eq_true rfl) dX6_init_6 (fun H locs hW => ?_)
  have hW : gW g A s.heap H _ [(a, .inr (6, [.int (iI pr)]))] := hW
  exact q_vret S0 hr hlocks () (trivial) rfl (hW.sub [0] rfl (rfl)) (Nat.le_of_ble_eq_true rfl) (Nat.le_of_ble_eq_true rfl) dX6_init_9
set_option maxHeartbeats 4000000 in
set_option maxRecDepth 100000 in
theorem c_X6_prime (l : Launch) (g : GG) (a : Nat) (pr : Int) : qPure l yX6_prime wsX6_prime ({ frames := 0, cells := 0, slots := 0, locals := 0 }) g [.ref a] [(a, .inr (6, [.int (iI pr)]))] (fun _ => True) (some (.int (iI pr))) := by
  refine q_ofP (cc := cX6_prime) (maxL := 1) (ret := (some .int)) (by decide) rfl (Nat.le_of_ble_eq_true rfl) ?_
  intro p e s m args below meth c ls S0 hr hlocks hK hP hX hl
  have hP : va_P g.1 vwCl [(a, .inr (6, [.int (iI pr)]))] s.heap := hP
  have hl : lv_has ls 1 [(0, .ref a)] := hl
  have hinX6 : ∀ w ∈ wsX60, w ∈ wsX6_prime := fun w h => List.mem_cons_of_mem _ (List.mem_append_right _ h)
  refine lv_aload_n S0.1 S0.2.1 dX6_prime_0 rfl (lv_at hl 0 rfl) ?_
  refine q_get (C := RX6) (T := TX6) (N := 1) S0 hK hP hinX6 0 rfl rfl 0 (by decide) (List.mem_of_getElem? (i := 1) rfl) rfl rfl dX6_prime_1 ?_
  exact qp_iret S0 hr hlocks (rfl) dX6_prime_4
set_option maxHeartbeats 4000000 in
set_option maxRecDepth 100000 in
theorem c_X6_of (l : Launch) (g : GG) (a : Nat) (pr z : Int) (hp : 2 ≤ pr ∧ pr ≤ 199) (hz : -2147483648 ≤ z ∧ z < 2147483648) : qPure l yX6_of wsX6_of ({ frames := 0, cells := 0, slots := 0, locals := 0 }) g [.ref a, .int (iI z)] [(a, .inr (6, [.int (iI pr)]))] (fun _ => True) (some (.int (iI (z % pr)))) := by
  refine q_ofP (cc := cX6_of) (maxL := 3) (ret := (some .int)) (by decide) rfl (Nat.le_of_ble_eq_true rfl) ?_
  intro p e s m args below meth c ls S0 hr hlocks hK hP hX hl
  have hP : va_P g.1 vwCl [(a, .inr (6, [.int (iI pr)]))] s.heap := hP
  have hl : lv_has ls 3 [(0, .ref a), (1, .int (iI z))] := hl
  have hinX6 : ∀ w ∈ wsX60, w ∈ wsX6_of := fun w h => List.mem_cons_of_mem _ (List.mem_append_right _ h)
  refine lv_aload_n S0.1 S0.2.1 dX6_of_0 rfl (lv_at hl 0 rfl) ?_
  refine q_get (C := RX6) (T := TX6) (N := 1) S0 hK hP hinX6 0 rfl rfl 0 (by decide) (List.mem_of_getElem? (i := 1) rfl) rfl rfl dX6_of_1 ?_
  refine q_if_gt (tgt := 9) S0 (by omega) dX6_of_4 (by decide) (fun c4 => ?_) (fun c4 => ?_)
  · skip
    refine lv_iload_n S0.1 S0.2.1 dX6_of_9 rfl (lv_at hl 1 rfl) ?_
    refine lv_aload_n S0.1 S0.2.1 dX6_of_10 rfl (lv_at hl 0 rfl) ?_
    refine q_get (C := RX6) (T := TX6) (N := 1) S0 hK hP hinX6 0 rfl rfl 0 (by decide) (List.mem_of_getElem? (i := 1) rfl) rfl rfl dX6_of_11 ?_
    refine q_irem S0 (by omega) (by omega) dX6_of_14 ?_
    have ht := tmod_rng (z := z) (p := pr) (by omega)
    refine lv_istore_n (lv' := [(2, .int (iI (Int.tmod z pr))), (0, .ref a), (1, .int (iI z))]) S0.1 S0.2.1 dX6_of_15 rfl hl (by decide) rfl (fun ls hl => ?_)
    refine lv_iload_n S0.1 S0.2.1 dX6_of_16 rfl (lv_at hl 0 rfl) ?_
    refine q_if_ge (tgt := 29) S0 (by omega) dX6_of_17 (by decide) (fun c17 => ?_) (fun c17 => ?_)
    · skip
      refine lv_iload_n S0.1 S0.2.1 dX6_of_29 rfl (lv_at hl 0 rfl) ?_
      exact qp_iret S0 hr hlocks (by first | rw [tmod_pos (by omega) (by omega)] | rw [tmod_neg (by omega) (by omega)]) dX6_of_30
    · skip
      refine lv_iload_n S0.1 S0.2.1 dX6_of_20 rfl (lv_at hl 0 rfl) ?_
      refine lv_aload_n S0.1 S0.2.1 dX6_of_21 rfl (lv_at hl 1 rfl) ?_
      refine q_get (C := RX6) (T := TX6) (N := 1) S0 hK hP hinX6 0 rfl rfl 0 (by decide) (List.mem_of_getElem? (i := 1) rfl) rfl rfl dX6_of_22 ?_
      refine q_iadd S0 dX6_of_25 ?_
      refine lv_goto (tgt := 30) S0.1 S0.2.1 dX6_of_26 (by decide) ?_
      exact qp_iret S0 hr hlocks (by first | rw [tmod_pos (by omega) (by omega)] | rw [tmod_neg (by omega) (by omega)]) dX6_of_30
  · skip
    exact absurd c4 (by omega)
set_option maxHeartbeats 4000000 in
set_option maxRecDepth 100000 in
theorem c_X6_add (l : Launch) (g : GG) (a : Nat) (pr x y : Int) (hp : 2 ≤ pr ∧ pr ≤ 199) (hz : -2147483648 ≤ x + y ∧ x + y < 2147483648) : qPure l yX6_add wsX6_add ({ frames := 1, cells := 0, slots := 0, locals := 22 }) g [.ref a, .int (iI x), .int (iI y)] [(a, .inr (6, [.int (iI pr)]))] (fun _ => True) (some (.int (iI ((x + y) % pr)))) := by
  refine q_ofP (cc := cX6_add) (maxL := 3) (ret := (some .int)) (by decide) rfl (Nat.le_of_ble_eq_true rfl) ?_
  intro p e s m args below meth c ls S0 hr hlocks hK hP hX hl
  have hP : va_P g.1 vwCl [(a, .inr (6, [.int (iI pr)]))] s.heap := hP
  have hl : lv_has ls 3 [(0, .ref a), (1, .int (iI x)), (2, .int (iI y))] := hl
  refine lv_aload_n S0.1 S0.2.1 dX6_add_0 rfl (lv_at hl 0 rfl) ?_
  refine lv_iload_n S0.1 S0.2.1 dX6_add_1 rfl (lv_at hl 1 rfl) ?_
  refine lv_iload_n S0.1 S0.2.1 dX6_add_2 rfl (lv_at hl 2 rfl) ?_
  refine q_iadd S0 dX6_add_3 ?_
  refine q_pV (n := 1) (rest := []) S0 hK (c_X6_of l g a pr (x + y) (by omega) (by omega)) (subP hP [0] rfl) (trivial) gX6_add_X6_of rfl rfl rfl (by decide +kernel) ⟨Nat.le_of_ble_eq_true rfl, Nat.le_of_ble_eq_true rfl⟩ (q_recv hK hP (ci := 6) (q0 := 0) rfl rfl) rfl rfl hl.1 (Nat.le_of_ble_eq_true rfl) ⟨Nat.le_of_ble_eq_true rfl, Nat.le_of_ble_eq_true rfl⟩ dX6_add_4 ?_
  refine W.eq (g2 := F0 m 7 ls [.int (iI ((x + y) % pr))]) rfl ?_
  exact qp_iret S0 hr hlocks (rfl) dX6_add_7
set_option maxHeartbeats 4000000 in
set_option maxRecDepth 100000 in
theorem c_X6_subtract (l : Launch) (g : GG) (a : Nat) (pr x y : Int) (hp : 2 ≤ pr ∧ pr ≤ 199) (hz : -2147483648 ≤ x - y ∧ x - y < 2147483648) : qPure l yX6_subtract wsX6_subtract ({ frames := 1, cells := 0, slots := 0, locals := 22 }) g [.ref a, .int (iI x), .int (iI y)] [(a, .inr (6, [.int (iI pr)]))] (fun _ => True) (some (.int (iI ((x - y) % pr)))) := by
  refine q_ofP (cc := cX6_subtract) (maxL := 3) (ret := (some .int)) (by decide) rfl (Nat.le_of_ble_eq_true rfl) ?_
  intro p e s m args below meth c ls S0 hr hlocks hK hP hX hl
  have hP : va_P g.1 vwCl [(a, .inr (6, [.int (iI pr)]))] s.heap := hP
  have hl : lv_has ls 3 [(0, .ref a), (1, .int (iI x)), (2, .int (iI y))] := hl
  refine lv_aload_n S0.1 S0.2.1 dX6_subtract_0 rfl (lv_at hl 0 rfl) ?_
  refine lv_iload_n S0.1 S0.2.1 dX6_subtract_1 rfl (lv_at hl 1 rfl) ?_
  refine lv_iload_n S0.1 S0.2.1 dX6_subtract_2 rfl (lv_at hl 2 rfl) ?_
  refine q_isub S0 dX6_subtract_3 ?_
  refine q_pV (n := 1) (rest := []) S0 hK (c_X6_of l g a pr (x - y) (by omega) (by omega)) (subP hP [0] rfl) (trivial) gX6_subtract_X6_of rfl rfl rfl (by decide +kernel) ⟨Nat.le_of_ble_eq_true rfl, Nat.le_of_ble_eq_true rfl⟩ (q_recv hK hP (ci := 6) (q0 := 0) rfl rfl) rfl rfl hl.1 (Nat.le_of_ble_eq_true rfl) ⟨Nat.le_of_ble_eq_true rfl, Nat.le_of_ble_eq_true rfl⟩ dX6_subtract_4 ?_
  refine W.eq (g2 := F0 m 7 ls [.int (iI ((x - y) % pr))]) rfl ?_
  exact qp_iret S0 hr hlocks (rfl) dX6_subtract_7
set_option maxHeartbeats 4000000 in
set_option maxRecDepth 100000 in
theorem c_X6_multiply (l : Launch) (g : GG) (a : Nat) (pr x y : Int) (hp : 2 ≤ pr ∧ pr ≤ 199) (hz : -2147483648 ≤ x * y ∧ x * y < 2147483648) : qPure l yX6_multiply wsX6_multiply ({ frames := 1, cells := 0, slots := 0, locals := 22 }) g [.ref a, .int (iI x), .int (iI y)] [(a, .inr (6, [.int (iI pr)]))] (fun _ => True) (some (.int (iI ((x * y) % pr)))) := by
  refine q_ofP (cc := cX6_multiply) (maxL := 3) (ret := (some .int)) (by decide) rfl (Nat.le_of_ble_eq_true rfl) ?_
  intro p e s m args below meth c ls S0 hr hlocks hK hP hX hl
  have hP : va_P g.1 vwCl [(a, .inr (6, [.int (iI pr)]))] s.heap := hP
  have hl : lv_has ls 3 [(0, .ref a), (1, .int (iI x)), (2, .int (iI y))] := hl
  refine lv_aload_n S0.1 S0.2.1 dX6_multiply_0 rfl (lv_at hl 0 rfl) ?_
  refine lv_iload_n S0.1 S0.2.1 dX6_multiply_1 rfl (lv_at hl 1 rfl) ?_
  refine lv_iload_n S0.1 S0.2.1 dX6_multiply_2 rfl (lv_at hl 2 rfl) ?_
  refine q_imul S0 dX6_multiply_3 ?_
  refine q_pV (n := 1) (rest := []) S0 hK (c_X6_of l g a pr (x * y) (by omega) (by omega)) (subP hP [0] rfl) (trivial) gX6_multiply_X6_of rfl rfl rfl (by decide +kernel) ⟨Nat.le_of_ble_eq_true rfl, Nat.le_of_ble_eq_true rfl⟩ (q_recv hK hP (ci := 6) (q0 := 0) rfl rfl) rfl rfl hl.1 (Nat.le_of_ble_eq_true rfl) ⟨Nat.le_of_ble_eq_true rfl, Nat.le_of_ble_eq_true rfl⟩ dX6_multiply_4 ?_
  refine W.eq (g2 := F0 m 7 ls [.int (iI ((x * y) % pr))]) rfl ?_
  exact qp_iret S0 hr hlocks (rfl) dX6_multiply_7
set_option maxHeartbeats 4000000 in
set_option maxRecDepth 100000 in
theorem c_X6_power (l : Launch) (g : GG) (a : Nat) (pr b ex : Int) (hp : 2 ≤ pr ∧ pr ≤ 199) (hb : 0 ≤ b ∧ b < 200) (he : -2147483648 ≤ ex ∧ ex < 2147483648) : qPure l yX6_power wsX6_power ({ frames := 0, cells := 0, slots := 0, locals := 0 }) g [.ref a, .int (iI b), .int (iI ex)] [(a, .inr (6, [.int (iI pr)]))] (fun _ => True) (some (.int (iI (b ^ ex.toNat % pr)))) := by
  refine q_ofP (cc := cX6_power) (maxL := 6) (ret := (some .int)) (by decide) rfl (Nat.le_of_ble_eq_true rfl) ?_
  intro p e s m args below meth c ls S0 hr hlocks hK hP hX hl
  have hP : va_P g.1 vwCl [(a, .inr (6, [.int (iI pr)]))] s.heap := hP
  have hl : lv_has ls 6 [(0, .ref a), (1, .int (iI b)), (2, .int (iI ex))] := hl
  have hinX6 : ∀ w ∈ wsX60, w ∈ wsX6_power := fun w h => List.mem_cons_of_mem _ (List.mem_append_right _ h)
  refine lv_aload_n S0.1 S0.2.1 dX6_power_0 rfl (lv_at hl 0 rfl) ?_
  refine q_get (C := RX6) (T := TX6) (N := 1) S0 hK hP hinX6 0 rfl rfl 0 (by decide) (List.mem_of_getElem? (i := 1) rfl) rfl rfl dX6_power_1 ?_
  refine q_if_gt (tgt := 9) S0 (by omega) dX6_power_4 (by decide) (fun c4 => ?_) (fun c4 => ?_)
  · skip
    refine q_iconst S0 dX6_power_9 ?_
    refine lv_istore_n (lv' := [(3, .int (iI 1)), (0, .ref a), (1, .int (iI b)), (2, .int (iI ex))]) S0.1 S0.2.1 dX6_power_10 rfl hl (by decide) rfl (fun ls hl => ?_)
    refine lv_iload_n S0.1 S0.2.1 dX6_power_11 rfl (lv_at hl 2 rfl) ?_
    refine lv_istore (lv' := [(4, .int (iI b)), (3, .int (iI 1)), (0, .ref a), (1, .int (iI b)), (2, .int (iI ex))]) S0.1 S0.2.1 dX6_power_12 hl (by decide) rfl (fun ls hl => ?_)
    refine lv_iload_n S0.1 S0.2.1 dX6_power_14 rfl (lv_at hl 4 rfl) ?_
    refine lv_istore (lv' := [(5, .int (iI ex)), (4, .int (iI b)), (3, .int (iI 1)), (0, .ref a), (1, .int (iI b)), (2, .int (iI ex))]) S0.1 S0.2.1 dX6_power_15 hl (by decide) rfl (fun ls hl => ?_)
    refine q_loopP (α := Int × Int × Int) (fun (z_ : Int × Int × Int) => match z_ with | (rs, sq, lf) => (0 ≤ rs ∧ rs < pr ∧ 0 ≤ sq ∧ sq < 200 ∧ lf ≤ ex) ∧ (0 ≤ lf ∨ lf = ex) ∧ rs * sq ^ lf.toNat % pr = b ^ ex.toNat % pr) (fun (z_ : Int × Int × Int) => match z_ with | (rs, sq, lf) => lf.toNat) (fun (z_ : Int × Int × Int) => match z_ with | (rs, sq, lf) => [(5, .int (iI lf)), (4, .int (iI sq)), (3, .int (iI rs)), (0, .ref a), (1, .int (iI b)), (2, .int (iI ex))]) ?_ (1, b, ex) (by refine ⟨by omega, by omega, by rw [Int.one_mul]⟩) (lv_sub hl [0, 1, 2, 3, 4, 5] rfl)
    rintro ⟨rs, sq, lf⟩ hinv IHl ls hl
    try dsimp only at hinv
    have hl : lv_has ls 6 [(5, .int (iI lf)), (4, .int (iI sq)), (3, .int (iI rs)), (0, .ref a), (1, .int (iI b)), (2, .int (iI ex))] := hl
    obtain ⟨hr1, hr2, hr3⟩ := hinv
    refine lv_iload S0.1 S0.2.1 dX6_power_17 (lv_at hl 0 rfl) ?_
    refine q_if_le (tgt := 61) S0 (by omega) dX6_power_19 (by decide) (fun c19 => ?_) (fun c19 => ?_)
    · skip
      refine lv_iload_n S0.1 S0.2.1 dX6_power_61 rfl (lv_at hl 2 rfl) ?_
      exact qp_iret S0 hr hlocks (by rw [show lf.toNat = 0 by omega, Int.pow_zero, Int.mul_one, Int.emod_eq_of_lt hr1.1 hr1.2.1] at hr3; rw [hr3]) dX6_power_62
    · skip
      refine lv_iload S0.1 S0.2.1 dX6_power_22 (lv_at hl 0 rfl) ?_
      refine q_iconst S0 dX6_power_24 ?_
      refine lv_iand S0.1 S0.2.1 dX6_power_25 ?_
      refine q_top (w := .int (iI (lf % 2))) (by rw [iI_and1 (by omega)]) ?_
      refine q_iconst S0 dX6_power_26 ?_
      refine q_icmp_ne (tgt := 40) S0 (by omega) dX6_power_27 (by decide) (fun c27 => ?_) (fun c27 => ?_)
      · skip
        refine lv_iload S0.1 S0.2.1 dX6_power_40 (lv_at hl 1 rfl) ?_
        refine lv_iload S0.1 S0.2.1 dX6_power_42 (lv_at hl 1 rfl) ?_
        refine q_imul S0 dX6_power_44 ?_
        refine lv_aload_n S0.1 S0.2.1 dX6_power_45 rfl (lv_at hl 3 rfl) ?_
        refine q_get (C := RX6) (T := TX6) (N := 1) S0 hK hP hinX6 0 rfl rfl 0 (by decide) (List.mem_of_getElem? (i := 1) rfl) rfl rfl dX6_power_46 ?_
        have hm9 := mul_rng (a := sq) (b := sq) (n := 200) (k := 200) (by omega) (by omega)
        refine q_irem S0 (by omega) (by omega) dX6_power_49 ?_
        refine q_topI (b := sq * sq % pr) (Int.tmod_eq_emod_of_nonneg hm9.1) ?_
        refine lv_istore (lv' := [(4, .int (iI (sq * sq % pr))), (5, .int (iI lf)), (3, .int (iI rs)), (0, .ref a), (1, .int (iI b)), (2, .int (iI ex))]) S0.1 S0.2.1 dX6_power_50 hl (by decide) rfl (fun ls hl => ?_)
        refine lv_iload S0.1 S0.2.1 dX6_power_52 (lv_at hl 1 rfl) ?_
        refine q_iconst S0 dX6_power_54 ?_
        refine q_idiv S0 (by omega) (by omega) dX6_power_55 ?_
        refine q_topI (b := lf / 2) (Int.tdiv_eq_ediv_of_nonneg (by omega)) ?_
        refine lv_istore (lv' := [(5, .int (iI (lf / 2))), (4, .int (iI (sq * sq % pr))), (3, .int (iI rs)), (0, .ref a), (1, .int (iI b)), (2, .int (iI ex))]) S0.1 S0.2.1 dX6_power_56 hl (by decide) rfl (fun ls hl => ?_)
        refine lv_goto (tgt := 17) S0.1 S0.2.1 dX6_power_58 (by decide) ?_
        exact IHl (rs, sq * sq % pr, lf / 2) ls (by
              have hm1 := emod_rng (sq * sq) (p := pr) (by omega)
              have hm2 := emod_rng (rs * sq) (p := pr) (by omega)
              refine ⟨by omega, by omega, ?_⟩
              first | (rw [pw_odd (by omega) (by omega)]; exact hr3) | (rw [pw_even (by omega) (by omega)]; exact hr3)) (by show (lf / 2).toNat < lf.toNat; omega) (lv_sub hl [0, 1, 2, 3, 4, 5] rfl)
      · skip
        refine lv_iload_n S0.1 S0.2.1 dX6_power_30 rfl (lv_at hl 2 rfl) ?_
        refine lv_iload S0.1 S0.2.1 dX6_power_31 (lv_at hl 1 rfl) ?_
        refine q_imul S0 dX6_power_33 ?_
        refine lv_aload_n S0.1 S0.2.1 dX6_power_34 rfl (lv_at hl 3 rfl) ?_
        refine q_get (C := RX6) (T := TX6) (N := 1) S0 hK hP hinX6 0 rfl rfl 0 (by decide) (List.mem_of_getElem? (i := 1) rfl) rfl rfl dX6_power_35 ?_
        have hm := mul_rng (a := rs) (b := sq) (n := 200) (k := 200) (by omega) (by omega)
        refine q_irem S0 (by omega) (by omega) dX6_power_38 ?_
        refine q_topI (b := rs * sq % pr) (Int.tmod_eq_emod_of_nonneg hm.1) ?_
        refine lv_istore_n (lv' := [(3, .int (iI (rs * sq % pr))), (5, .int (iI lf)), (4, .int (iI sq)), (0, .ref a), (1, .int (iI b)), (2, .int (iI ex))]) S0.1 S0.2.1 dX6_power_39 rfl hl (by decide) rfl (fun ls hl => ?_)
        refine lv_iload S0.1 S0.2.1 dX6_power_40 (lv_at hl 2 rfl) ?_
        refine lv_iload S0.1 S0.2.1 dX6_power_42 (lv_at hl 2 rfl) ?_
        refine q_imul S0 dX6_power_44 ?_
        refine lv_aload_n S0.1 S0.2.1 dX6_power_45 rfl (lv_at hl 3 rfl) ?_
        refine q_get (C := RX6) (T := TX6) (N := 1) S0 hK hP hinX6 0 rfl rfl 0 (by decide) (List.mem_of_getElem? (i := 1) rfl) rfl rfl dX6_power_46 ?_
        have hm9 := mul_rng (a := sq) (b := sq) (n := 200) (k := 200) (by omega) (by omega)
        refine q_irem S0 (by omega) (by omega) dX6_power_49 ?_
        refine q_topI (b := sq * sq % pr) (Int.tmod_eq_emod_of_nonneg hm9.1) ?_
        refine lv_istore (lv' := [(4, .int (iI (sq * sq % pr))), (3, .int (iI (rs * sq % pr))), (5, .int (iI lf)), (0, .ref a), (1, .int (iI b)), (2, .int (iI ex))]) S0.1 S0.2.1 dX6_power_50 hl (by decide) rfl (fun ls hl => ?_)
        refine lv_iload S0.1 S0.2.1 dX6_power_52 (lv_at hl 2 rfl) ?_
        refine q_iconst S0 dX6_power_54 ?_
        refine q_idiv S0 (by omega) (by omega) dX6_power_55 ?_
        refine q_topI (b := lf / 2) (Int.tdiv_eq_ediv_of_nonneg (by omega)) ?_
        refine lv_istore (lv' := [(5, .int (iI (lf / 2))), (4, .int (iI (sq * sq % pr))), (3, .int (iI (rs * sq % pr))), (0, .ref a), (1, .int (iI b)), (2, .int (iI ex))]) S0.1 S0.2.1 dX6_power_56 hl (by decide) rfl (fun ls hl => ?_)
        refine lv_goto (tgt := 17) S0.1 S0.2.1 dX6_power_58 (by decide) ?_
        exact IHl (rs * sq % pr, sq * sq % pr, lf / 2) ls (by
              have hm1 := emod_rng (sq * sq) (p := pr) (by omega)
              have hm2 := emod_rng (rs * sq) (p := pr) (by omega)
              refine ⟨by omega, by omega, ?_⟩
              first | (rw [pw_odd (by omega) (by omega)]; exact hr3) | (rw [pw_even (by omega) (by omega)]; exact hr3)) (by show (lf / 2).toNat < lf.toNat; omega) (lv_sub hl [0, 1, 2, 3, 4, 5] rfl)
  · skip
    exact absurd c4 (by omega)
set_option maxHeartbeats 4000000 in
set_option maxRecDepth 100000 in
theorem c_X6_divide (l : Launch) (g : GG) (a : Nat) (pr x y : Int) (hp : 2 ≤ pr ∧ pr ≤ 199) (hx : 0 ≤ x ∧ x < 200) (hy : 0 ≤ y ∧ y < 200) : qPure l yX6_divide wsX6_divide ({ frames := 1, cells := 0, slots := 0, locals := 25 }) g [.ref a, .int (iI x), .int (iI y)] [(a, .inr (6, [.int (iI pr)]))] (fun _ => True) (some (.int (iI (x * (y ^ (pr - 2).toNat % pr) % pr)))) := by
  refine q_ofP (cc := cX6_divide) (maxL := 3) (ret := (some .int)) (by decide) rfl (Nat.le_of_ble_eq_true rfl) ?_
  intro p e s m args below meth c ls S0 hr hlocks hK hP hX hl
  have hP : va_P g.1 vwCl [(a, .inr (6, [.int (iI pr)]))] s.heap := hP
  have hl : lv_has ls 3 [(0, .ref a), (1, .int (iI x)), (2, .int (iI y))] := hl
  have hinX6 : ∀ w ∈ wsX60, w ∈ wsX6_divide := fun w h => List.mem_cons_of_mem _ (List.mem_append_right _ h)
  refine lv_aload_n S0.1 S0.2.1 dX6_divide_0 rfl (lv_at hl 0 rfl) ?_
  refine lv_iload_n S0.1 S0.2.1 dX6_divide_1 rfl (lv_at hl 1 rfl) ?_
  refine lv_aload_n S0.1 S0.2.1 dX6_divide_2 rfl (lv_at hl 0 rfl) ?_
  refine lv_iload_n S0.1 S0.2.1 dX6_divide_3 rfl (lv_at hl 2 rfl) ?_
  refine lv_aload_n S0.1 S0.2.1 dX6_divide_4 rfl (lv_at hl 0 rfl) ?_
  refine q_get (C := RX6) (T := TX6) (N := 1) S0 hK hP hinX6 0 rfl rfl 0 (by decide) (List.mem_of_getElem? (i := 1) rfl) rfl rfl dX6_divide_5 ?_
  refine q_iconst S0 dX6_divide_8 ?_
  refine q_isub S0 dX6_divide_9 ?_
  refine q_pV (n := 2) (rest := [.int (iI x), .ref a]) S0 hK (c_X6_power l g a pr y (pr - 2) (by omega) (by omega) (by omega)) (subP hP [0] rfl) (trivial) gX6_divide_X6_power rfl rfl rfl (by decide +kernel) ⟨Nat.le_of_ble_eq_true rfl, Nat.le_of_ble_eq_true rfl⟩ (q_recv hK hP (ci := 6) (q0 := 0) rfl rfl) rfl rfl hl.1 (Nat.le_of_ble_eq_true rfl) ⟨Nat.le_of_ble_eq_true rfl, Nat.le_of_ble_eq_true rfl⟩ dX6_divide_10 ?_
  refine W.eq (g2 := F0 m 13 ls [.int (iI (y ^ (pr - 2).toNat % pr)), .int (iI x), .ref a]) rfl ?_
  refine q_imul S0 dX6_divide_13 ?_
  have hm0 := emod_rng (y ^ (pr - 2).toNat) (p := pr) (by omega)
  have hm := mul_rng (a := x) (b := y ^ (pr - 2).toNat % pr) (n := 200) (k := 200) (by omega) (by omega)
  refine q_pV (n := 1) (rest := []) S0 hK (c_X6_of l g a pr (x * (y ^ (pr - 2).toNat % pr)) (by omega) (by omega)) (subP hP [0] rfl) (trivial) gX6_divide_X6_of rfl rfl rfl (by decide +kernel) ⟨Nat.le_of_ble_eq_true rfl, Nat.le_of_ble_eq_true rfl⟩ (q_recv hK hP (ci := 6) (q0 := 0) rfl rfl) rfl rfl hl.1 (Nat.le_of_ble_eq_true rfl) ⟨Nat.le_of_ble_eq_true rfl, Nat.le_of_ble_eq_true rfl⟩ dX6_divide_14 ?_
  refine W.eq (g2 := F0 m 17 ls [.int (iI ((x * (y ^ (pr - 2).toNat % pr)) % pr))]) rfl ?_
  exact qp_iret S0 hr hlocks (rfl) dX6_divide_17
set_option maxHeartbeats 4000000 in
set_option maxRecDepth 100000 in
theorem c_X6_powerSlope (l : Launch) (g : GG) (a : Nat) (pr u ex : Int) (hp : 2 ≤ pr ∧ pr ≤ 199) (hx : 0 ≤ u ∧ u < 200) (hy : 0 ≤ ex ∧ ex < 1000) : qPure l yX6_powerSlope wsX6_powerSlope ({ frames := 1, cells := 0, slots := 0, locals := 25 }) g [.ref a, .int (iI u), .int (iI ex)] [(a, .inr (6, [.int (iI pr)]))] (fun _ => True) (some (.int (iI (ex * (u ^ (ex - 1).toNat % pr) % pr)))) := by
  refine q_ofP (cc := cX6_powerSlope) (maxL := 3) (ret := (some .int)) (by decide) rfl (Nat.le_of_ble_eq_true rfl) ?_
  intro p e s m args below meth c ls S0 hr hlocks hK hP hX hl
  have hP : va_P g.1 vwCl [(a, .inr (6, [.int (iI pr)]))] s.heap := hP
  have hl : lv_has ls 3 [(0, .ref a), (1, .int (iI u)), (2, .int (iI ex))] := hl
  refine lv_aload_n S0.1 S0.2.1 dX6_powerSlope_0 rfl (lv_at hl 0 rfl) ?_
  refine lv_iload_n S0.1 S0.2.1 dX6_powerSlope_1 rfl (lv_at hl 2 rfl) ?_
  refine lv_aload_n S0.1 S0.2.1 dX6_powerSlope_2 rfl (lv_at hl 0 rfl) ?_
  refine lv_iload_n S0.1 S0.2.1 dX6_powerSlope_3 rfl (lv_at hl 1 rfl) ?_
  refine lv_iload_n S0.1 S0.2.1 dX6_powerSlope_4 rfl (lv_at hl 2 rfl) ?_
  refine q_iconst S0 dX6_powerSlope_5 ?_
  refine q_isub S0 dX6_powerSlope_6 ?_
  refine q_pV (n := 2) (rest := [.int (iI ex), .ref a]) S0 hK (c_X6_power l g a pr u (ex - 1) (by omega) (by omega) (by omega)) (subP hP [0] rfl) (trivial) gX6_powerSlope_X6_power rfl rfl rfl (by decide +kernel) ⟨Nat.le_of_ble_eq_true rfl, Nat.le_of_ble_eq_true rfl⟩ (q_recv hK hP (ci := 6) (q0 := 0) rfl rfl) rfl rfl hl.1 (Nat.le_of_ble_eq_true rfl) ⟨Nat.le_of_ble_eq_true rfl, Nat.le_of_ble_eq_true rfl⟩ dX6_powerSlope_7 ?_
  refine W.eq (g2 := F0 m 10 ls [.int (iI (u ^ (ex - 1).toNat % pr)), .int (iI ex), .ref a]) rfl ?_
  refine q_imul S0 dX6_powerSlope_10 ?_
  have hm0 := emod_rng (u ^ (ex - 1).toNat) (p := pr) (by omega)
  have hm := mul_rng (a := ex) (b := u ^ (ex - 1).toNat % pr) (n := 1000) (k := 200) (by omega) (by omega)
  refine q_pV (n := 1) (rest := []) S0 hK (c_X6_of l g a pr (ex * (u ^ (ex - 1).toNat % pr)) (by omega) (by omega)) (subP hP [0] rfl) (trivial) gX6_powerSlope_X6_of rfl rfl rfl (by decide +kernel) ⟨Nat.le_of_ble_eq_true rfl, Nat.le_of_ble_eq_true rfl⟩ (q_recv hK hP (ci := 6) (q0 := 0) rfl rfl) rfl rfl hl.1 (Nat.le_of_ble_eq_true rfl) ⟨Nat.le_of_ble_eq_true rfl, Nat.le_of_ble_eq_true rfl⟩ dX6_powerSlope_11 ?_
  refine W.eq (g2 := F0 m 14 ls [.int (iI ((ex * (u ^ (ex - 1).toNat % pr)) % pr))]) rfl ?_
  exact qp_iret S0 hr hlocks (rfl) dX6_powerSlope_14
set_option maxHeartbeats 4000000 in
set_option maxRecDepth 100000 in
theorem c_X1_size (l : Launch) (g : GG) (x k1 k2 k3 k4 : Nat) (dp un le : Int) (n : Nat) (K : Nat → Int) (hn : n < 100000) : qPure l yX1_size wsX1_size ({ frames := 0, cells := 0, slots := 0, locals := 0 }) g [.ref x] [(x, .inr (1, [.ref k1, .ref k2, .ref k3, .ref k4, .int (iI dp), .int (iI un), .int (iI le)])), (k1, gI g n K)] (fun _ => True) (some (.int (iI ((n : Int))))) := by
  refine q_ofP (cc := cX1_size) (maxL := 1) (ret := (some .int)) (by decide) rfl (Nat.le_of_ble_eq_true rfl) ?_
  intro p e s m args below meth c ls S0 hr hlocks hK hP hX hl
  have hP : va_P g.1 vwCl [(x, .inr (1, [.ref k1, .ref k2, .ref k3, .ref k4, .int (iI dp), .int (iI un), .int (iI le)])), (k1, gI g n K)] s.heap := hP
  have hl : lv_has ls 1 [(0, .ref x)] := hl
  have hinX1 : ∀ w ∈ wsX10, w ∈ wsX1_size := fun w h => List.mem_cons_of_mem _ (List.mem_append_right _ h)
  refine lv_aload_n S0.1 S0.2.1 dX1_size_0 rfl (lv_at hl 0 rfl) ?_
  refine q_get (C := RX1) (T := TX1) (N := 7) S0 hK hP hinX1 0 rfl rfl 0 (by decide) (List.mem_of_getElem? (i := 1) rfl) rfl rfl dX1_size_1 ?_
  refine q_alen (z := ((n : Nat) : Int)) S0 hK hP 1 rfl rfl dX1_size_4 ?_
  exact qp_iret S0 hr hlocks (rfl) dX1_size_5
set_option maxHeartbeats 4000000 in
set_option maxRecDepth 100000 in
theorem c_X1_unlike (l : Launch) (g : GG) (x k1 k2 k3 k4 : Nat) (dp un le : Int) : qPure l yX1_unlike wsX1_unlike ({ frames := 0, cells := 0, slots := 0, locals := 0 }) g [.ref x] [(x, .inr (1, [.ref k1, .ref k2, .ref k3, .ref k4, .int (iI dp), .int (iI un), .int (iI le)]))] (fun _ => True) (some (.int (iI un))) := by
  refine q_ofP (cc := cX1_unlike) (maxL := 1) (ret := (some .int)) (by decide) rfl (Nat.le_of_ble_eq_true rfl) ?_
  intro p e s m args below meth c ls S0 hr hlocks hK hP hX hl
  have hP : va_P g.1 vwCl [(x, .inr (1, [.ref k1, .ref k2, .ref k3, .ref k4, .int (iI dp), .int (iI un), .int (iI le)]))] s.heap := hP
  have hl : lv_has ls 1 [(0, .ref x)] := hl
  have hinX1 : ∀ w ∈ wsX10, w ∈ wsX1_unlike := fun w h => List.mem_cons_of_mem _ (List.mem_append_right _ h)
  refine lv_aload_n S0.1 S0.2.1 dX1_unlike_0 rfl (lv_at hl 0 rfl) ?_
  refine q_get (C := RX1) (T := TX1) (N := 7) S0 hK hP hinX1 0 rfl rfl 5 (by decide) (List.mem_of_getElem? (i := 1) rfl) rfl rfl dX1_unlike_1 ?_
  exact qp_iret S0 hr hlocks (rfl) dX1_unlike_4
set_option maxHeartbeats 4000000 in
set_option maxRecDepth 100000 in
theorem c_X1_kind (l : Launch) (g : GG) (x k1 k2 k3 k4 : Nat) (dp un le : Int) (n : Nat) (K : Nat → Int) (i : Int) (hn : n < 100000) (hi : -2147483648 ≤ i ∧ i < 2147483648) : qPure l yX1_kind wsX1_kind ({ frames := 1, cells := 0, slots := 0, locals := 21 }) g [.ref x, .int (iI i)] [(x, .inr (1, [.ref k1, .ref k2, .ref k3, .ref k4, .int (iI dp), .int (iI un), .int (iI le)])), (k1, gI g n K)] (fun _ => True) (some (.int (iI (at0 n K i)))) := by
  refine q_ofP (cc := cX1_kind) (maxL := 2) (ret := (some .int)) (by decide) rfl (Nat.le_of_ble_eq_true rfl) ?_
  intro p e s m args below meth c ls S0 hr hlocks hK hP hX hl
  have hP : va_P g.1 vwCl [(x, .inr (1, [.ref k1, .ref k2, .ref k3, .ref k4, .int (iI dp), .int (iI un), .int (iI le)])), (k1, gI g n K)] s.heap := hP
  have hl : lv_has ls 2 [(0, .ref x), (1, .int (iI i))] := hl
  have hinX1 : ∀ w ∈ wsX10, w ∈ wsX1_kind := fun w h => List.mem_cons_of_mem _ (List.mem_append_right _ h)
  refine lv_aload_n S0.1 S0.2.1 dX1_kind_0 rfl (lv_at hl 0 rfl) ?_
  refine q_get (C := RX1) (T := TX1) (N := 7) S0 hK hP hinX1 0 rfl rfl 0 (by decide) (List.mem_of_getElem? (i := 1) rfl) rfl rfl dX1_kind_1 ?_
  refine lv_iload_n S0.1 S0.2.1 dX1_kind_4 rfl (lv_at hl 1 rfl) ?_
  refine q_pSN (n := 2) (rest := []) S0 hK (c_X10_at l g k1 n K i (by omega) (by omega)) (subP hP [1] rfl) (trivial) gX1_kind_X10_at_n37 rfl rfl rfl 4 rfl (List.mem_of_getElem? (i := 3) rfl) (List.mem_of_getElem? (i := 2) rfl) (by decide +kernel) ⟨Nat.le_of_ble_eq_true rfl, Nat.le_of_ble_eq_true rfl⟩ rfl rfl hl.1 (Nat.le_of_ble_eq_true rfl) ⟨Nat.le_of_ble_eq_true rfl, Nat.le_of_ble_eq_true rfl⟩ dX1_kind_5 ?_
  refine W.eq (g2 := F0 m 8 ls [.int (iI (at0 n K i))]) rfl ?_
  exact qp_iret S0 hr hlocks (rfl) dX1_kind_8
set_option maxHeartbeats 4000000 in
set_option maxRecDepth 100000 in
theorem c_X1_number (l : Launch) (g : GG) (x k1 k2 k3 k4 : Nat) (dp un le : Int) (n : Nat) (U : Nat → Int) (i : Int) (hn : n < 100000) (hi : -2147483648 ≤ i ∧ i < 2147483648) : qPure l yX1_number wsX1_number ({ frames := 1, cells := 0, slots := 0, locals := 21 }) g [.ref x, .int (iI i)] [(x, .inr (1, [.ref k1, .ref k2, .ref k3, .ref k4, .int (iI dp), .int (iI un), .int (iI le)])), (k2, gI g n U)] (fun _ => True) (some (.int (iI (at0 n U i)))) := by
  refine q_ofP (cc := cX1_number) (maxL := 2) (ret := (some .int)) (by decide) rfl (Nat.le_of_ble_eq_true rfl) ?_
  intro p e s m args below meth c ls S0 hr hlocks hK hP hX hl
  have hP : va_P g.1 vwCl [(x, .inr (1, [.ref k1, .ref k2, .ref k3, .ref k4, .int (iI dp), .int (iI un), .int (iI le)])), (k2, gI g n U)] s.heap := hP
  have hl : lv_has ls 2 [(0, .ref x), (1, .int (iI i))] := hl
  have hinX1 : ∀ w ∈ wsX10, w ∈ wsX1_number := fun w h => List.mem_cons_of_mem _ (List.mem_append_right _ h)
  refine lv_aload_n S0.1 S0.2.1 dX1_number_0 rfl (lv_at hl 0 rfl) ?_
  refine q_get (C := RX1) (T := TX1) (N := 7) S0 hK hP hinX1 0 rfl rfl 1 (by decide) (List.mem_of_getElem? (i := 1) rfl) rfl rfl dX1_number_1 ?_
  refine lv_iload_n S0.1 S0.2.1 dX1_number_4 rfl (lv_at hl 1 rfl) ?_
  refine q_pSN (n := 2) (rest := []) S0 hK (c_X10_at l g k2 n U i (by omega) (by omega)) (subP hP [1] rfl) (trivial) gX1_number_X10_at_n37 rfl rfl rfl 4 rfl (List.mem_of_getElem? (i := 3) rfl) (List.mem_of_getElem? (i := 2) rfl) (by decide +kernel) ⟨Nat.le_of_ble_eq_true rfl, Nat.le_of_ble_eq_true rfl⟩ rfl rfl hl.1 (Nat.le_of_ble_eq_true rfl) ⟨Nat.le_of_ble_eq_true rfl, Nat.le_of_ble_eq_true rfl⟩ dX1_number_5 ?_
  refine W.eq (g2 := F0 m 8 ls [.int (iI (at0 n U i))]) rfl ?_
  exact qp_iret S0 hr hlocks (rfl) dX1_number_8
set_option maxHeartbeats 4000000 in
set_option maxRecDepth 100000 in
theorem c_X1_left (l : Launch) (g : GG) (x k1 k2 k3 k4 : Nat) (dp un le : Int) (n : Nat) (L : Nat → Int) (i : Int) (hn : n < 100000) (hi : -2147483648 ≤ i ∧ i < 2147483648) : qPure l yX1_left wsX1_left ({ frames := 0, cells := 0, slots := 0, locals := 0 }) g [.ref x, .int (iI i)] [(x, .inr (1, [.ref k1, .ref k2, .ref k3, .ref k4, .int (iI dp), .int (iI un), .int (iI le)])), (k3, gI g n L)] (fun _ => True) (some (.int (iI (if 0 ≤ i ∧ i < n then L i.toNat else -1)))) := by
  refine q_ofP (cc := cX1_left) (maxL := 2) (ret := (some .int)) (by decide) rfl (Nat.le_of_ble_eq_true rfl) ?_
  intro p e s m args below meth c ls S0 hr hlocks hK hP hX hl
  have hP : va_P g.1 vwCl [(x, .inr (1, [.ref k1, .ref k2, .ref k3, .ref k4, .int (iI dp), .int (iI un), .int (iI le)])), (k3, gI g n L)] s.heap := hP
  have hl : lv_has ls 2 [(0, .ref x), (1, .int (iI i))] := hl
  have hinX1 : ∀ w ∈ wsX10, w ∈ wsX1_left := fun w h => List.mem_cons_of_mem _ (List.mem_append_right _ h)
  refine lv_iload_n S0.1 S0.2.1 dX1_left_0 rfl (lv_at hl 1 rfl) ?_
  refine q_if_lt (tgt := 22) S0 (by omega) dX1_left_1 (by decide) (fun c1 => ?_) (fun c1 => ?_)
  · skip
    refine q_iconst S0 dX1_left_22 ?_
    exact qp_iret S0 hr hlocks (by first | (rw [if_pos (by omega)]; done) | (rw [if_neg (by omega)]; done) | (exfalso; omega)) dX1_left_23
  · skip
    refine lv_iload_n S0.1 S0.2.1 dX1_left_4 rfl (lv_at hl 1 rfl) ?_
    refine lv_aload_n S0.1 S0.2.1 dX1_left_5 rfl (lv_at hl 0 rfl) ?_
    refine q_get (C := RX1) (T := TX1) (N := 7) S0 hK hP hinX1 0 rfl rfl 2 (by decide) (List.mem_of_getElem? (i := 1) rfl) rfl rfl dX1_left_6 ?_
    refine q_alen (z := ((n : Nat) : Int)) S0 hK hP 1 rfl rfl dX1_left_9 ?_
    refine q_icmp_ge (tgt := 22) S0 (by omega) dX1_left_10 (by decide) (fun c10 => ?_) (fun c10 => ?_)
    · skip
      refine q_iconst S0 dX1_left_22 ?_
      exact qp_iret S0 hr hlocks (by first | (rw [if_pos (by omega)]; done) | (rw [if_neg (by omega)]; done) | (exfalso; omega)) dX1_left_23
    · skip
      refine lv_aload_n S0.1 S0.2.1 dX1_left_13 rfl (lv_at hl 0 rfl) ?_
      refine q_get (C := RX1) (T := TX1) (N := 7) S0 hK hP hinX1 0 rfl rfl 2 (by decide) (List.mem_of_getElem? (i := 1) rfl) rfl rfl dX1_left_14 ?_
      refine lv_iload_n S0.1 S0.2.1 dX1_left_17 rfl (lv_at hl 1 rfl) ?_
      refine q_iald S0 hK hP 1 rfl (by omega) dX1_left_18 ?_
      refine lv_goto (tgt := 23) S0.1 S0.2.1 dX1_left_19 (by decide) ?_
      exact qp_iret S0 hr hlocks (by first | (rw [if_pos (by omega)]; done) | (rw [if_neg (by omega)]; done) | (exfalso; omega)) dX1_left_23
set_option maxHeartbeats 4000000 in
set_option maxRecDepth 100000 in
theorem c_X1_right (l : Launch) (g : GG) (x k1 k2 k3 k4 : Nat) (dp un le : Int) (n : Nat) (V : Nat → Int) (i : Int) (hn : n < 100000) (hi : -2147483648 ≤ i ∧ i < 2147483648) : qPure l yX1_right wsX1_right ({ frames := 0, cells := 0, slots := 0, locals := 0 }) g [.ref x, .int (iI i)] [(x, .inr (1, [.ref k1, .ref k2, .ref k3, .ref k4, .int (iI dp), .int (iI un), .int (iI le)])), (k4, gI g n V)] (fun _ => True) (some (.int (iI (if 0 ≤ i ∧ i < n then V i.toNat else -1)))) := by
  refine q_ofP (cc := cX1_right) (maxL := 2) (ret := (some .int)) (by decide) rfl (Nat.le_of_ble_eq_true rfl) ?_
  intro p e s m args below meth c ls S0 hr hlocks hK hP hX hl
  have hP : va_P g.1 vwCl [(x, .inr (1, [.ref k1, .ref k2, .ref k3, .ref k4, .int (iI dp), .int (iI un), .int (iI le)])), (k4, gI g n V)] s.heap := hP
  have hl : lv_has ls 2 [(0, .ref x), (1, .int (iI i))] := hl
  have hinX1 : ∀ w ∈ wsX10, w ∈ wsX1_right := fun w h => List.mem_cons_of_mem _ (List.mem_append_right _ h)
  refine lv_iload_n S0.1 S0.2.1 dX1_right_0 rfl (lv_at hl 1 rfl) ?_
  refine q_if_lt (tgt := 22) S0 (by omega) dX1_right_1 (by decide) (fun c1 => ?_) (fun c1 => ?_)
  · skip
    refine q_iconst S0 dX1_right_22 ?_
    exact qp_iret S0 hr hlocks (by first | (rw [if_pos (by omega)]; done) | (rw [if_neg (by omega)]; done) | (exfalso; omega)) dX1_right_23
  · skip
    refine lv_iload_n S0.1 S0.2.1 dX1_right_4 rfl (lv_at hl 1 rfl) ?_
    refine lv_aload_n S0.1 S0.2.1 dX1_right_5 rfl (lv_at hl 0 rfl) ?_
    refine q_get (C := RX1) (T := TX1) (N := 7) S0 hK hP hinX1 0 rfl rfl 3 (by decide) (List.mem_of_getElem? (i := 1) rfl) rfl rfl dX1_right_6 ?_
    refine q_alen (z := ((n : Nat) : Int)) S0 hK hP 1 rfl rfl dX1_right_9 ?_
    refine q_icmp_ge (tgt := 22) S0 (by omega) dX1_right_10 (by decide) (fun c10 => ?_) (fun c10 => ?_)
    · skip
      refine q_iconst S0 dX1_right_22 ?_
      exact qp_iret S0 hr hlocks (by first | (rw [if_pos (by omega)]; done) | (rw [if_neg (by omega)]; done) | (exfalso; omega)) dX1_right_23
    · skip
      refine lv_aload_n S0.1 S0.2.1 dX1_right_13 rfl (lv_at hl 0 rfl) ?_
      refine q_get (C := RX1) (T := TX1) (N := 7) S0 hK hP hinX1 0 rfl rfl 3 (by decide) (List.mem_of_getElem? (i := 1) rfl) rfl rfl dX1_right_14 ?_
      refine lv_iload_n S0.1 S0.2.1 dX1_right_17 rfl (lv_at hl 1 rfl) ?_
      refine q_iald S0 hK hP 1 rfl (by omega) dX1_right_18 ?_
      refine lv_goto (tgt := 23) S0.1 S0.2.1 dX1_right_19 (by decide) ?_
      exact qp_iret S0 hr hlocks (by first | (rw [if_pos (by omega)]; done) | (rw [if_neg (by omega)]; done) | (exfalso; omega)) dX1_right_23
set_option maxHeartbeats 4000000 in
set_option maxRecDepth 100000 in
theorem c_X1_init (l : Launch) (g : GG) (x k1 k2 k3 k4 : Nat) (dp un le : Int) : qMet l yX1_init wsX1_init ({ frames := 1, cells := 0, slots := 0, locals := 18 }) g [.ref x, .ref k1, .ref k2, .ref k3, .ref k4, .int (iI dp), .int (iI un), .int (iI le)] [(x, .inr (1, [.null, .null, .null, .null, .int (iI 0), .int (iI 0), .int (iI 0)]))] (fun _ => True) (fun _ => True) (S := Unit) (fun _ => none) (fun _ => [(x, .inr (1, [.ref k1, .ref k2, .ref k3, .ref k4, .int (iI dp), .int (iI un), .int (iI le)]))]) (fun _ => True) 0 0 := by
  refine q_ofW (cc := cX1_init) (maxL := 8) (ret := none) (fun sz h => h.self) (by decide) rfl (Nat.le_of_ble_eq_true rfl) ?_
  intro p e s m args below meth c A ls S0 hr hlocks hnme hK hA hAe hW hD0 hX hl
  have hW : gW g A s.heap s.heap [] [(x, .inr (1, [.null, .null, .null, .null, .int (iI 0), .int (iI 0), .int (iI 0)]))] := hW
  have hl : lv_has ls 8 [(0, .ref x), (1, .ref k1), (2, .ref k2), (3, .ref k3), (4, .ref k4), (5, .int (iI dp)), (6, .int (iI un)), (7, .int (iI le))] := hl
  have hinX1 : ∀ w ∈ wsX10, w ∈ wsX1_init := fun w h => List.mem_cons_of_mem _ (List.mem_append_right _ h)
  refine lv_aload_n S0.1 S0.2.1 dX1_init_0 rfl (lv_at hl 0 rfl) ?_
  refine q_obj S0 (List.mem_of_getElem? (i := 1) rfl) (List.mem_of_getElem? (i := 2) rfl) (List.mem_of_getElem? (i := 3) rfl) hl.1 dX1_init_1 (Nat.le_of_ble_eq_true rfl) (Nat.le_of_ble_eq_true rfl) ?_
  refine W.eq (g2 := F0 m 4 ls []) rfl ?_
  refine lv_aload_n S0.1 S0.2.1 dX1_init_4 rfl (lv_at hl 0 rfl) ?_
  refine lv_aload_n S0.1 S0.2.1 dX1_init_5 rfl (lv_at hl 1 rfl) ?_
  refine q_putF (C := RX1) (T := TX1) (N := 7) S0 hnme hK hW hinX1 tyX1_ok nmX1 0 rfl rfl 0 (by decide) (List.mem_of_getElem? (i := 4) rfl) rfl rfl rfl rfl rfl (Nat.le_of_ble_eq_true rfl) dX1_init_6 (fun H locs hW => ?_)
  have hW : gW g A s.heap H _ [(x, .inr (1, [.ref k1, .null, .null, .null, .int (iI 0), .int (iI 0), .int (iI 0)]))] := hW
  refine lv_aload_n S0.1 S0.2.1 dX1_init_9 rfl (lv_at hl 0 rfl) ?_
  refine lv_aload_n S0.1 S0.2.1 dX1_init_10 rfl (lv_at hl 2 rfl) ?_
  refine q_putF (C := RX1) (T := TX1) (N := 7) S0 hnme hK hW hinX1 tyX1_ok nmX1 0 rfl rfl 1 (by decide) (List.mem_of_getElem? (i := 5) rfl) rfl rfl rfl rfl rfl (Nat.le_of_ble_eq_true rfl) dX1_init_11 (fun H locs hW => ?_)
  have hW : gW g A s.heap H _ [(x, .inr (1, [.ref k1, .ref k2, .null, .null, .int (iI 0), .int (iI 0), .int (iI 0)]))] := hW
  refine lv_aload_n S0.1 S0.2.1 dX1_init_14 rfl (lv_at hl 0 rfl) ?_
  refine lv_aload_n S0.1 S0.2.1 dX1_init_15 rfl (lv_at hl 3 rfl) ?_
  refine q_putF (C := RX1) (T := TX1) (N := 7) S0 hnme hK hW hinX1 tyX1_ok nmX1 0 rfl rfl 2 (by decide) (List.mem_of_getElem? (i := 6) rfl) rfl rfl rfl rfl rfl (Nat.le_of_ble_eq_true rfl) dX1_init_16 (fun H locs hW => ?_)
  have hW : gW g A s.heap H _ [(x, .inr (1, [.ref k1, .ref k2, .ref k3, .null, .int (iI 0), .int (iI 0), .int (iI 0)]))] := hW
  refine lv_aload_n S0.1 S0.2.1 dX1_init_19 rfl (lv_at hl 0 rfl) ?_
  refine lv_aload S0.1 S0.2.1 dX1_init_20 (lv_at hl 4 rfl) ?_
  refine q_putF (C := RX1) (T := TX1) (N := 7) S0 hnme hK hW hinX1 tyX1_ok nmX1 0 rfl rfl 3 (by decide) (List.mem_of_getElem? (i := 7) rfl) rfl rfl rfl rfl rfl (Nat.le_of_ble_eq_true rfl) dX1_init_22 (fun H locs hW => ?_)
  have hW : gW g A s.heap H _ [(x, .inr (1, [.ref k1, .ref k2, .ref k3, .ref k4, .int (iI 0), .int (iI 0), .int (iI 0)]))] := hW
  refine lv_aload_n S0.1 S0.2.1 dX1_init_25 rfl (lv_at hl 0 rfl) ?_
  refine lv_iload S0.1 S0.2.1 dX1_init_26 (lv_at hl 5 rfl) ?_
  refine q_putF (C := RX1) (T := TX1) (N := 7) S0 hnme hK hW hinX1 tyX1_ok nmX1 0 rfl rfl 4 (by decide) (List.mem_of_getElem? (i := 8) rfl) rfl rfl rfl rfl rfl (Nat.le_of_ble_eq_true rfl) dX1_init_28 (fun H locs hW => ?_)
  have hW : gW g A s.heap H _ [(x, .inr (1, [.ref k1, .ref k2, .ref k3, .ref k4, .int (iI dp), .int (iI 0), .int (iI 0)]))] := hW
  refine lv_aload_n S0.1 S0.2.1 dX1_init_31 rfl (lv_at hl 0 rfl) ?_
  refine lv_iload S0.1 S0.2.1 dX1_init_32 (lv_at hl 6 rfl) ?_
  refine q_putF (C := RX1) (T := TX1) (N := 7) S0 hnme hK hW hinX1 tyX1_ok nmX1 0 rfl rfl 5 (by decide) (List.mem_of_getElem? (i := 9) rfl) rfl rfl rfl rfl rfl (Nat.le_of_ble_eq_true rfl) dX1_init_34 (fun H locs hW => ?_)
  have hW : gW g A s.heap H _ [(x, .inr (1, [.ref k1, .ref k2, .ref k3, .ref k4, .int (iI dp), .int (iI un), .int (iI 0)]))] := hW
  refine lv_aload_n S0.1 S0.2.1 dX1_init_37 rfl (lv_at hl 0 rfl) ?_
  refine lv_iload S0.1 S0.2.1 dX1_init_38 (lv_at hl 7 rfl) ?_
  refine q_putF (C := RX1) (T := TX1) (N := 7) S0 hnme hK hW hinX1 tyX1_ok nmX1 0 rfl rfl 6 (by decide) (List.mem_of_getElem? (i := 10) rfl) rfl rfl rfl rfl rfl (Nat.le_of_ble_eq_true rfl) dX1_init_40 (fun H locs hW => ?_)
  have hW : gW g A s.heap H _ [(x, .inr (1, [.ref k1, .ref k2, .ref k3, .ref k4, .int (iI dp), .int (iI un), .int (iI le)]))] := hW
  exact q_vret S0 hr hlocks () (trivial) rfl (hW.sub [0] rfl (rfl)) (Nat.le_of_ble_eq_true rfl) (Nat.le_of_ble_eq_true rfl) dX1_init_43
set_option maxHeartbeats 4000000 in
set_option maxRecDepth 100000 in
theorem c_X7_init (l : Launch) (g : GG) (st rm f0 f1 f2 f3 : Nat) : qMet l yX7_init wsX7_init ({ frames := 1, cells := 0, slots := 0, locals := 18 }) g [.ref st, .ref rm, .ref f0, .ref f1, .ref f2, .ref f3] [(st, .inr (7, [.null, .null, .null, .null, .null]))] (fun _ => True) (fun _ => True) (S := Unit) (fun _ => none) (fun _ => [(st, .inr (7, [.ref rm, .ref f0, .ref f1, .ref f2, .ref f3]))]) (fun _ => True) 0 0 := by
  refine q_ofW (cc := cX7_init) (maxL := 6) (ret := none) (fun sz h => h.self) (by decide) rfl (Nat.le_of_ble_eq_true rfl) ?_
  intro p e s m args below meth c A ls S0 hr hlocks hnme hK hA hAe hW hD0 hX hl
  have hW : gW g A s.heap s.heap [] [(st, .inr (7, [.null, .null, .null, .null, .null]))] := hW
  have hl : lv_has ls 6 [(0, .ref st), (1, .ref rm), (2, .ref f0), (3, .ref f1), (4, .ref f2), (5, .ref f3)] := hl
  have hinX7 : ∀ w ∈ wsX70, w ∈ wsX7_init := fun w h => List.mem_cons_of_mem _ (List.mem_append_right _ h)
  refine lv_aload_n S0.1 S0.2.1 dX7_init_0 rfl (lv_at hl 0 rfl) ?_
  refine q_obj S0 (List.mem_of_getElem? (i := 1) rfl) (List.mem_of_getElem? (i := 2) rfl) (List.mem_of_getElem? (i := 3) rfl) hl.1 dX7_init_1 (Nat.le_of_ble_eq_true rfl) (Nat.le_of_ble_eq_true rfl) ?_
  refine W.eq (g2 := F0 m 4 ls []) rfl ?_
  refine lv_aload_n S0.1 S0.2.1 dX7_init_4 rfl (lv_at hl 0 rfl) ?_
  refine lv_aload_n S0.1 S0.2.1 dX7_init_5 rfl (lv_at hl 1 rfl) ?_
  refine q_putF (C := RX7) (T := TX7) (N := 5) S0 hnme hK hW hinX7 tyX7_ok nmX7 0 rfl rfl 0 (by decide) (List.mem_of_getElem? (i := 4) rfl) rfl rfl rfl rfl rfl (Nat.le_of_ble_eq_true rfl) dX7_init_6 (fun H locs hW => ?_)
  have hW : gW g A s.heap H _ [(st, .inr (7, [.ref rm, .null, .null, .null, .null]))] := hW
  refine lv_aload_n S0.1 S0.2.1 dX7_init_9 rfl (lv_at hl 0 rfl) ?_
  refine lv_aload_n S0.1 S0.2.1 dX7_init_10 rfl (lv_at hl 2 rfl) ?_
  refine q_putF (C := RX7) (T := TX7) (N := 5) S0 hnme hK hW hinX7 tyX7_ok nmX7 0 rfl rfl 1 (by decide) (List.mem_of_getElem? (i := 5) rfl) rfl rfl rfl rfl rfl (Nat.le_of_ble_eq_true rfl) dX7_init_11 (fun H locs hW => ?_)
  have hW : gW g A s.heap H _ [(st, .inr (7, [.ref rm, .ref f0, .null, .null, .null]))] := hW
  refine lv_aload_n S0.1 S0.2.1 dX7_init_14 rfl (lv_at hl 0 rfl) ?_
  refine lv_aload_n S0.1 S0.2.1 dX7_init_15 rfl (lv_at hl 3 rfl) ?_
  refine q_putF (C := RX7) (T := TX7) (N := 5) S0 hnme hK hW hinX7 tyX7_ok nmX7 0 rfl rfl 2 (by decide) (List.mem_of_getElem? (i := 6) rfl) rfl rfl rfl rfl rfl (Nat.le_of_ble_eq_true rfl) dX7_init_16 (fun H locs hW => ?_)
  have hW : gW g A s.heap H _ [(st, .inr (7, [.ref rm, .ref f0, .ref f1, .null, .null]))] := hW
  refine lv_aload_n S0.1 S0.2.1 dX7_init_19 rfl (lv_at hl 0 rfl) ?_
  refine lv_aload S0.1 S0.2.1 dX7_init_20 (lv_at hl 4 rfl) ?_
  refine q_putF (C := RX7) (T := TX7) (N := 5) S0 hnme hK hW hinX7 tyX7_ok nmX7 0 rfl rfl 3 (by decide) (List.mem_of_getElem? (i := 7) rfl) rfl rfl rfl rfl rfl (Nat.le_of_ble_eq_true rfl) dX7_init_22 (fun H locs hW => ?_)
  have hW : gW g A s.heap H _ [(st, .inr (7, [.ref rm, .ref f0, .ref f1, .ref f2, .null]))] := hW
  refine lv_aload_n S0.1 S0.2.1 dX7_init_25 rfl (lv_at hl 0 rfl) ?_
  refine lv_aload S0.1 S0.2.1 dX7_init_26 (lv_at hl 5 rfl) ?_
  refine q_putF (C := RX7) (T := TX7) (N := 5) S0 hnme hK hW hinX7 tyX7_ok nmX7 0 rfl rfl 4 (by decide) (List.mem_of_getElem? (i := 8) rfl) rfl rfl rfl rfl rfl (Nat.le_of_ble_eq_true rfl) dX7_init_28 (fun H locs hW => ?_)
  have hW : gW g A s.heap H _ [(st, .inr (7, [.ref rm, .ref f0, .ref f1, .ref f2, .ref f3]))] := hW
  exact q_vret S0 hr hlocks () (trivial) rfl (hW.sub [0] rfl (rfl)) (Nat.le_of_ble_eq_true rfl) (Nat.le_of_ble_eq_true rfl) dX7_init_31
set_option maxHeartbeats 4000000 in
set_option maxRecDepth 100000 in
theorem c_X7_numbers (l : Launch) (g : GG) (st rm f0 f1 f2 f3 : Nat) : qPure l yX7_numbers wsX7_numbers ({ frames := 0, cells := 0, slots := 0, locals := 0 }) g [.ref st] [(st, .inr (7, [.ref rm, .ref f0, .ref f1, .ref f2, .ref f3]))] (fun _ => True) (some (.ref rm)) := by
  refine q_ofP (cc := cX7_numbers) (maxL := 1) (ret := (some (.object "HingeNumbers$Remainders"))) (by decide) rfl (Nat.le_of_ble_eq_true rfl) ?_
  intro p e s m args below meth c ls S0 hr hlocks hK hP hX hl
  have hP : va_P g.1 vwCl [(st, .inr (7, [.ref rm, .ref f0, .ref f1, .ref f2, .ref f3]))] s.heap := hP
  have hl : lv_has ls 1 [(0, .ref st)] := hl
  have hinX7 : ∀ w ∈ wsX70, w ∈ wsX7_numbers := fun w h => List.mem_cons_of_mem _ (List.mem_append_right _ h)
  refine lv_aload_n S0.1 S0.2.1 dX7_numbers_0 rfl (lv_at hl 0 rfl) ?_
  refine q_get (C := RX7) (T := TX7) (N := 5) S0 hK hP hinX7 0 rfl rfl 0 (by decide) (List.mem_of_getElem? (i := 1) rfl) rfl rfl dX7_numbers_1 ?_
  exact qp_aret S0 hr (Or.inl ⟨_, rfl⟩) hlocks (Or.inr ⟨_, rfl⟩) (rfl) dX7_numbers_4
set_option maxHeartbeats 4000000 in
set_option maxRecDepth 100000 in
theorem c_X7_expressionOf (l : Launch) (g : GG) (st rm f0 f1 f2 f3 : Nat) (u : Int) (hu : -2147483648 ≤ u ∧ u < 2147483648) : qPure l yX7_expressionOf wsX7_expressionOf ({ frames := 0, cells := 0, slots := 0, locals := 0 }) g [.ref st, .int (iI u)] [(st, .inr (7, [.ref rm, .ref f0, .ref f1, .ref f2, .ref f3]))] (fun _ => True) (some (.ref (sel4 u f0 f1 f2 f3))) := by
  refine q_ofP (cc := cX7_expressionOf) (maxL := 2) (ret := (some (.object "HingeNumbers$Expression"))) (by decide) rfl (Nat.le_of_ble_eq_true rfl) ?_
  intro p e s m args below meth c ls S0 hr hlocks hK hP hX hl
  have hP : va_P g.1 vwCl [(st, .inr (7, [.ref rm, .ref f0, .ref f1, .ref f2, .ref f3]))] s.heap := hP
  have hl : lv_has ls 2 [(0, .ref st), (1, .int (iI u))] := hl
  have hinX7 : ∀ w ∈ wsX70, w ∈ wsX7_expressionOf := fun w h => List.mem_cons_of_mem _ (List.mem_append_right _ h)
  refine lv_iload_n S0.1 S0.2.1 dX7_expressionOf_0 rfl (lv_at hl 1 rfl) ?_
  by_cases k1_0 : u = 0
  · refine q_topI k1_0 ?_
    refine lv_tableIn (off := 27) (tgt := 28) S0.1 S0.2.1 dX7_expressionOf_1 (by decide) (by decide) (by decide) (by decide) ?_
    refine lv_aload_n S0.1 S0.2.1 dX7_expressionOf_28 rfl (lv_at hl 0 rfl) ?_
    refine q_get (C := RX7) (T := TX7) (N := 5) S0 hK hP hinX7 0 rfl rfl 1 (by decide) (List.mem_of_getElem? (i := 1) rfl) rfl rfl dX7_expressionOf_29 ?_
    exact qp_aret S0 hr (Or.inl ⟨_, rfl⟩) hlocks (Or.inr ⟨_, rfl⟩) (by first | (simp [sel4, k1_0]; done) | (simp [sel4, k1_0, k1_1]; done) | (simp [sel4, k1_0, k1_1, k1_2]; done) | (simp [sel4, k1_1]; done) | (simp [sel4, k1_2]; done)) dX7_expressionOf_32
  by_cases k1_1 : u = 1
  · refine q_topI k1_1 ?_
    refine lv_tableIn (off := 32) (tgt := 33) S0.1 S0.2.1 dX7_expressionOf_1 (by decide) (by decide) (by decide) (by decide) ?_
    refine lv_aload_n S0.1 S0.2.1 dX7_expressionOf_33 rfl (lv_at hl 0 rfl) ?_
    refine q_get (C := RX7) (T := TX7) (N := 5) S0 hK hP hinX7 0 rfl rfl 2 (by decide) (List.mem_of_getElem? (i := 2) rfl) rfl rfl dX7_expressionOf_34 ?_
    exact qp_aret S0 hr (Or.inl ⟨_, rfl⟩) hlocks (Or.inr ⟨_, rfl⟩) (by first | (simp [sel4, k1_0]; done) | (simp [sel4, k1_0, k1_1]; done) | (simp [sel4, k1_0, k1_1, k1_2]; done) | (simp [sel4, k1_1]; done) | (simp [sel4, k1_2]; done)) dX7_expressionOf_37
  by_cases k1_2 : u = 2
  · refine q_topI k1_2 ?_
    refine lv_tableIn (off := 37) (tgt := 38) S0.1 S0.2.1 dX7_expressionOf_1 (by decide) (by decide) (by decide) (by decide) ?_
    refine lv_aload_n S0.1 S0.2.1 dX7_expressionOf_38 rfl (lv_at hl 0 rfl) ?_
    refine q_get (C := RX7) (T := TX7) (N := 5) S0 hK hP hinX7 0 rfl rfl 3 (by decide) (List.mem_of_getElem? (i := 3) rfl) rfl rfl dX7_expressionOf_39 ?_
    exact qp_aret S0 hr (Or.inl ⟨_, rfl⟩) hlocks (Or.inr ⟨_, rfl⟩) (by first | (simp [sel4, k1_0]; done) | (simp [sel4, k1_0, k1_1]; done) | (simp [sel4, k1_0, k1_1, k1_2]; done) | (simp [sel4, k1_1]; done) | (simp [sel4, k1_2]; done)) dX7_expressionOf_42
  refine lv_tableOut (tgt := 43) S0.1 S0.2.1 dX7_expressionOf_1 (by rw [iI_t (by omega) (by omega)]; omega) (by decide) ?_
  refine lv_aload_n S0.1 S0.2.1 dX7_expressionOf_43 rfl (lv_at hl 0 rfl) ?_
  refine q_get (C := RX7) (T := TX7) (N := 5) S0 hK hP hinX7 0 rfl rfl 4 (by decide) (List.mem_of_getElem? (i := 4) rfl) rfl rfl dX7_expressionOf_44 ?_
  exact qp_aret S0 hr (Or.inl ⟨_, rfl⟩) hlocks (Or.inr ⟨_, rfl⟩) (by first | (simp [sel4, k1_0]; done) | (simp [sel4, k1_0, k1_1]; done) | (simp [sel4, k1_0, k1_1, k1_2]; done) | (simp [sel4, k1_1]; done) | (simp [sel4, k1_2]; done)) dX7_expressionOf_47
