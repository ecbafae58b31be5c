def B0 : BT := mkB (fun _ => 0) (fun _ => 0) (fun _ => 0) (fun _ => 0) (fun _ => 0) (fun _ => 0) 0 0 0 (fun _ => 0) 0 (fun _ => 0)
def P0 : PT := mkP B0 0 0 (-1)
def E0 : EX := mkE 1 (up (fun _ => 0) 0 120) (up (fun _ => 0) 0 0) (up (fun _ => 0) 0 (-1)) (up (fun _ => 0) 0 (-1))
set_option maxHeartbeats 4000000 in
set_option maxRecDepth 100000 in
theorem c_X3_init (l : Launch) (g : GG) (a : Nat) : qMet l yX3_init wsX3_init ({ frames := 1, cells := 1, slots := 40, locals := 18 }) g [.ref a] [(a, .inr (3, [.null, .int (iI 0)]))] (fun _ => True) (fun _ => True) (S := Nat) (fun _ => none) (fun u_ => [(a, .inr (3, [.ref u_, .int (iI 0)])), (u_, gI g 40 (fun _ => 0))]) (fun _ => True) 1 40 := by
  refine q_ofW (cc := cX3_init) (maxL := 1) (ret := none) (fun sz h => h.self) (by decide) rfl (Nat.le_of_ble_eq_true rfl) ?_
  intro p e s m args below meth c A ls S0 hr hlocks hnme hK hA hAe hW hD0 hX hl
  have hW : gW g A s.heap s.heap [] [(a, .inr (3, [.null, .int (iI 0)]))] := hW
  have hl : lv_has ls 1 [(0, .ref a)] := hl
  have hinX3 : ∀ w ∈ wsX30, w ∈ wsX3_init := fun w h => List.mem_cons_of_mem _ (List.mem_append_right _ h)
  refine lv_aload_n S0.1 S0.2.1 dX3_init_0 rfl (lv_at hl 0 rfl) ?_
  refine q_obj S0 (List.mem_of_getElem? (i := 1) rfl) (List.mem_of_getElem? (i := 2) rfl) (List.mem_of_getElem? (i := 3) rfl) hl.1 dX3_init_1 (Nat.le_of_ble_eq_true rfl) (Nat.le_of_ble_eq_true rfl) ?_
  refine W.eq (g2 := F0 m 4 ls []) rfl ?_
  refine lv_aload_n S0.1 S0.2.1 dX3_init_4 rfl (lv_at hl 0 rfl) ?_
  refine q_bipush S0 (by decide) dX3_init_5 ?_
  refine q_newI (N := 40) S0 hK hA hW (List.mem_of_getElem? (i := 4) rfl) (by omega) (Nat.le_of_ble_eq_true rfl) (Nat.le_of_ble_eq_true rfl) dX3_init_7 (fun q1 H hW => ?_)
  have hW : gW g A s.heap H _ [(a, .inr (3, [.null, .int (iI 0)])), (q1, gI g 40 (fun _ => 0))] := hW
  refine q_putF (C := RX3) (T := TX3) (N := 2) S0 hnme hK hW hinX3 tyX3_ok nmX3 0 rfl rfl 0 (by decide) (List.mem_of_getElem? (i := 5) rfl) rfl rfl rfl rfl rfl (Nat.le_of_ble_eq_true rfl) dX3_init_9 (fun H locs hW => ?_)
  have hW : gW g A s.heap H _ [(a, .inr (3, [.ref q1, .int (iI 0)])), (q1, gI g 40 (fun _ => 0))] := hW
  refine lv_aload_n S0.1 S0.2.1 dX3_init_12 rfl (lv_at hl 0 rfl) ?_
  refine q_iconst S0 dX3_init_13 ?_
  refine q_put (C := RX3) (T := TX3) (N := 2) S0 hK hW hinX3 tyX3_ok nmX3 0 rfl rfl 1 (by decide) (List.mem_of_getElem? (i := 6) rfl) rfl rfl rfl rfl (Nat.le_of_ble_eq_true rfl) dX3_init_14 (fun H locs hW => ?_)
  have hW : gW g A s.heap H _ [(a, .inr (3, [.ref q1, .int (iI 0)])), (q1, gI g 40 (fun _ => 0))] := hW
  exact q_vret S0 hr hlocks q1 (trivial) rfl (hW.sub [0, 1] rfl (rfl)) (Nat.le_of_ble_eq_true rfl) (Nat.le_of_ble_eq_true rfl) dX3_init_17
set_option maxHeartbeats 4000000 in
set_option maxRecDepth 100000 in
theorem c_X9_init (l : Launch) (g : GG) (t : Nat) : qMet l yX9_init wsX9_init ({ frames := 1, cells := 1, slots := 40, locals := 18 }) g [.ref t] [(t, .inr (9, [.null, .int (iI 0)]))] (fun _ => True) (fun _ => True) (S := Nat) (fun _ => none) (fun u_ => [(t, .inr (9, [.ref u_, .int (iI 0)])), (u_, gC g 40 (fun _ => 0))]) (fun _ => True) 1 40 := by
  refine q_ofW (cc := cX9_init) (maxL := 1) (ret := none) (fun sz h => h.self) (by decide) rfl (Nat.le_of_ble_eq_true rfl) ?_
  intro p e s m args below meth c A ls S0 hr hlocks hnme hK hA hAe hW hD0 hX hl
  have hW : gW g A s.heap s.heap [] [(t, .inr (9, [.null, .int (iI 0)]))] := hW
  have hl : lv_has ls 1 [(0, .ref t)] := hl
  have hinX9 : ∀ w ∈ wsX90, w ∈ wsX9_init := fun w h => List.mem_cons_of_mem _ (List.mem_append_right _ h)
  refine lv_aload_n S0.1 S0.2.1 dX9_init_0 rfl (lv_at hl 0 rfl) ?_
  refine q_obj S0 (List.mem_of_getElem? (i := 1) rfl) (List.mem_of_getElem? (i := 2) rfl) (List.mem_of_getElem? (i := 3) rfl) hl.1 dX9_init_1 (Nat.le_of_ble_eq_true rfl) (Nat.le_of_ble_eq_true rfl) ?_
  refine W.eq (g2 := F0 m 4 ls []) rfl ?_
  refine lv_aload_n S0.1 S0.2.1 dX9_init_4 rfl (lv_at hl 0 rfl) ?_
  refine q_bipush S0 (by decide) dX9_init_5 ?_
  refine q_newC (N := 40) S0 hK hA hW (List.mem_of_getElem? (i := 4) rfl) (by omega) (Nat.le_of_ble_eq_true rfl) (Nat.le_of_ble_eq_true rfl) dX9_init_7 (fun q1 H hW => ?_)
  have hW : gW g A s.heap H _ [(t, .inr (9, [.null, .int (iI 0)])), (q1, gC g 40 (fun _ => 0))] := hW
  refine q_putF (C := RX9) (T := TX9) (N := 2) S0 hnme hK hW hinX9 tyX9_ok nmX9 0 rfl rfl 0 (by decide) (List.mem_of_getElem? (i := 5) rfl) rfl rfl rfl rfl rfl (Nat.le_of_ble_eq_true rfl) dX9_init_9 (fun H locs hW => ?_)
  have hW : gW g A s.heap H _ [(t, .inr (9, [.ref q1, .int (iI 0)])), (q1, gC g 40 (fun _ => 0))] := hW
  refine lv_aload_n S0.1 S0.2.1 dX9_init_12 rfl (lv_at hl 0 rfl) ?_
  refine q_iconst S0 dX9_init_13 ?_
  refine q_put (C := RX9) (T := TX9) (N := 2) S0 hK hW hinX9 tyX9_ok nmX9 0 rfl rfl 1 (by decide) (List.mem_of_getElem? (i := 6) rfl) rfl rfl rfl rfl (Nat.le_of_ble_eq_true rfl) dX9_init_14 (fun H locs hW => ?_)
  have hW : gW g A s.heap H _ [(t, .inr (9, [.ref q1, .int (iI 0)])), (q1, gC g 40 (fun _ => 0))] := hW
  exact q_vret S0 hr hlocks q1 (trivial) rfl (hW.sub [0, 1] rfl (rfl)) (Nat.le_of_ble_eq_true rfl) (Nat.le_of_ble_eq_true rfl) dX9_init_17
set_option maxHeartbeats 4000000 in
set_option maxRecDepth 100000 in
theorem c_X0_init (l : Launch) (g : GG) (b : Nat) : qMet l yX0_init wsX0_init ({ frames := 2, cells := 10, slots := 324, locals := 38 }) g [.ref b] [(b, .inr (0, [.null, .null, .null, .null, .null, .null, .int (iI 0), .int (iI 0), .null, .null]))] (fun _ => True) (fun _ => True) (S := Nat × Nat × Nat × Nat × Nat × Nat × Nat × Nat × Nat × Nat) (fun _ => none) (fun u_ => [(b, .inr (0, [.ref u_.1, .ref u_.2.1, .ref u_.2.2.1, .ref u_.2.2.2.1, .ref u_.2.2.2.2.1, .ref u_.2.2.2.2.2.1, .int (iI (bN B0)), .int (iI (bZ B0)), .ref u_.2.2.2.2.2.2.1, .ref u_.2.2.2.2.2.2.2.2.1])), (u_.1, gI g 40 (bK B0)), (u_.2.1, gI g 40 (bU B0)), (u_.2.2.1, gI g 40 (bL B0)), (u_.2.2.2.1, gI g 40 (bV B0)), (u_.2.2.2.2.1, gI g 40 (bD B0)), (u_.2.2.2.2.2.1, gI g 40 (bE B0)), (u_.2.2.2.2.2.2.1, .inr (3, [.ref u_.2.2.2.2.2.2.2.1, .int (iI (lP B0))])), (u_.2.2.2.2.2.2.2.1, gI g 40 (lQ B0)), (u_.2.2.2.2.2.2.2.2.1, .inr (3, [.ref u_.2.2.2.2.2.2.2.2.2, .int (iI (wP B0))])), (u_.2.2.2.2.2.2.2.2.2, gI g 40 (wQ B0))]) (fun _ => True) 10 324 := by
  refine q_ofW (cc := cX0_init) (maxL := 1) (ret := none) (fun sz h => h.self) (by decide) rfl (Nat.le_of_ble_eq_true rfl) ?_
  intro p e s m args below meth c A ls S0 hr hlocks hnme hK hA hAe hW hD0 hX hl
  have hW : gW g A s.heap s.heap [] [(b, .inr (0, [.null, .null, .null, .null, .null, .null, .int (iI 0), .int (iI 0), .null, .null]))] := hW
  have hl : lv_has ls 1 [(0, .ref b)] := hl
  have hinX0 : ∀ w ∈ wsX00, w ∈ wsX0_init := fun w h => List.mem_cons_of_mem _ (List.mem_append_left _ (List.mem_append_right _ h))
  have hinX3 : ∀ w ∈ wsX30, w ∈ wsX0_init := fun w h => List.mem_cons_of_mem _ (List.mem_append_right _ h)
  refine lv_aload_n S0.1 S0.2.1 dX0_init_0 rfl (lv_at hl 0 rfl) ?_
  refine q_obj S0 (List.mem_of_getElem? (i := 1) rfl) (List.mem_of_getElem? (i := 2) rfl) (List.mem_of_getElem? (i := 3) rfl) hl.1 dX0_init_1 (Nat.le_of_ble_eq_true rfl) (Nat.le_of_ble_eq_true rfl) ?_
  refine W.eq (g2 := F0 m 4 ls []) rfl ?_
  refine lv_aload_n S0.1 S0.2.1 dX0_init_4 rfl (lv_at hl 0 rfl) ?_
  refine q_bipush S0 (by decide) dX0_init_5 ?_
  refine q_newI (N := 40) S0 hK hA hW (List.mem_of_getElem? (i := 4) rfl) (by omega) (Nat.le_of_ble_eq_true rfl) (Nat.le_of_ble_eq_true rfl) dX0_init_7 (fun q1 H hW => ?_)
  have hW : gW g A s.heap H _ [(b, .inr (0, [.null, .null, .null, .null, .null, .null, .int (iI 0), .int (iI 0), .null, .null])), (q1, gI g 40 (fun _ => 0))] := hW
  refine q_putF (C := RX0) (T := TX0) (N := 10) S0 hnme hK hW hinX0 tyX0_ok nmX0 0 rfl rfl 0 (by decide) (List.mem_of_getElem? (i := 5) rfl) rfl rfl rfl rfl rfl (Nat.le_of_ble_eq_true rfl) dX0_init_9 (fun H locs hW => ?_)
  have hW : gW g A s.heap H _ [(b, .inr (0, [.ref q1, .null, .null, .null, .null, .null, .int (iI 0), .int (iI 0), .null, .null])), (q1, gI g 40 (fun _ => 0))] := hW
  refine lv_aload_n S0.1 S0.2.1 dX0_init_12 rfl (lv_at hl 0 rfl) ?_
  refine q_bipush S0 (by decide) dX0_init_13 ?_
  refine q_newI (N := 40) S0 hK hA hW (List.mem_of_getElem? (i := 4) rfl) (by omega) (Nat.le_of_ble_eq_true rfl) (Nat.le_of_ble_eq_true rfl) dX0_init_15 (fun q2 H hW => ?_)
  have hW : gW g A s.heap H _ [(b, .inr (0, [.ref q1, .null, .null, .null, .null, .null, .int (iI 0), .int (iI 0), .null, .null])), (q1, gI g 40 (fun _ => 0)), (q2, gI g 40 (fun _ => 0))] := hW
  refine q_putF (C := RX0) (T := TX0) (N := 10) S0 hnme hK hW hinX0 tyX0_ok nmX0 0 rfl rfl 1 (by decide) (List.mem_of_getElem? (i := 6) rfl) rfl rfl rfl rfl rfl (Nat.le_of_ble_eq_true rfl) dX0_init_17 (fun H locs hW => ?_)
  have hW : gW g A s.heap H _ [(b, .inr (0, [.ref q1, .ref q2, .null, .null, .null, .null, .int (iI 0), .int (iI 0), .null, .null])), (q1, gI g 40 (fun _ => 0)), (q2, gI g 40 (fun _ => 0))] := hW
  refine lv_aload_n S0.1 S0.2.1 dX0_init_20 rfl (lv_at hl 0 rfl) ?_
  refine q_bipush S0 (by decide) dX0_init_21 ?_
  refine q_newI (N := 40) S0 hK hA hW (List.mem_of_getElem? (i := 4) rfl) (by omega) (Nat.le_of_ble_eq_true rfl) (Nat.le_of_ble_eq_true rfl) dX0_init_23 (fun q3 H hW => ?_)
  have hW : gW g A s.heap H _ [(b, .inr (0, [.ref q1, .ref q2, .null, .null, .null, .null, .int (iI 0), .int (iI 0), .null, .null])), (q1, gI g 40 (fun _ => 0)), (q2, gI g 40 (fun _ => 0)), (q3, gI g 40 (fun _ => 0))] := hW
  refine q_putF (C := RX0) (T := TX0) (N := 10) S0 hnme hK hW hinX0 tyX0_ok nmX0 0 rfl rfl 2 (by decide) (List.mem_of_getElem? (i := 7) rfl) rfl rfl rfl rfl rfl (Nat.le_of_ble_eq_true rfl) dX0_init_25 (fun H locs hW => ?_)
  have hW : gW g A s.heap H _ [(b, .inr (0, [.ref q1, .ref q2, .ref q3, .null, .null, .null, .int (iI 0), .int (iI 0), .null, .null])), (q1, gI g 40 (fun _ => 0)), (q2, gI g 40 (fun _ => 0)), (q3, gI g 40 (fun _ => 0))] := hW
  refine lv_aload_n S0.1 S0.2.1 dX0_init_28 rfl (lv_at hl 0 rfl) ?_
  refine q_bipush S0 (by decide) dX0_init_29 ?_
  refine q_newI (N := 40) S0 hK hA hW (List.mem_of_getElem? (i := 4) rfl) (by omega) (Nat.le_of_ble_eq_true rfl) (Nat.le_of_ble_eq_true rfl) dX0_init_31 (fun q4 H hW => ?_)
  have hW : gW g A s.heap H _ [(b, .inr (0, [.ref q1, .ref q2, .ref q3, .null, .null, .null, .int (iI 0), .int (iI 0), .null, .null])), (q1, gI g 40 (fun _ => 0)), (q2, gI g 40 (fun _ => 0)), (q3, gI g 40 (fun _ => 0)), (q4, gI g 40 (fun _ => 0))] := hW
  refine q_putF (C := RX0) (T := TX0) (N := 10) S0 hnme hK hW hinX0 tyX0_ok nmX0 0 rfl rfl 3 (by decide) (List.mem_of_getElem? (i := 8) rfl) rfl rfl rfl rfl rfl (Nat.le_of_ble_eq_true rfl) dX0_init_33 (fun H locs hW => ?_)
  have hW : gW g A s.heap H _ [(b, .inr (0, [.ref q1, .ref q2, .ref q3, .ref q4, .null, .null, .int (iI 0), .int (iI 0), .null, .null])), (q1, gI g 40 (fun _ => 0)), (q2, gI g 40 (fun _ => 0)), (q3, gI g 40 (fun _ => 0)), (q4, gI g 40 (fun _ => 0))] := hW
  refine lv_aload_n S0.1 S0.2.1 dX0_init_36 rfl (lv_at hl 0 rfl) ?_
  refine q_bipush S0 (by decide) dX0_init_37 ?_
  refine q_newI (N := 40) S0 hK hA hW (List.mem_of_getElem? (i := 4) rfl) (by omega) (Nat.le_of_ble_eq_true rfl) (Nat.le_of_ble_eq_true rfl) dX0_init_39 (fun q5 H hW => ?_)
  have hW : gW g A s.heap H _ [(b, .inr (0, [.ref q1, .ref q2, .ref q3, .ref q4, .null, .null, .int (iI 0), .int (iI 0), .null, .null])), (q1, gI g 40 (fun _ => 0)), (q2, gI g 40 (fun _ => 0)), (q3, gI g 40 (fun _ => 0)), (q4, gI g 40 (fun _ => 0)), (q5, gI g 40 (fun _ => 0))] := hW
  refine q_putF (C := RX0) (T := TX0) (N := 10) S0 hnme hK hW hinX0 tyX0_ok nmX0 0 rfl rfl 4 (by decide) (List.mem_of_getElem? (i := 9) rfl) rfl rfl rfl rfl rfl (Nat.le_of_ble_eq_true rfl) dX0_init_41 (fun H locs hW => ?_)
  have hW : gW g A s.heap H _ [(b, .inr (0, [.ref q1, .ref q2, .ref q3, .ref q4, .ref q5, .null, .int (iI 0), .int (iI 0), .null, .null])), (q1, gI g 40 (fun _ => 0)), (q2, gI g 40 (fun _ => 0)), (q3, gI g 40 (fun _ => 0)), (q4, gI g 40 (fun _ => 0)), (q5, gI g 40 (fun _ => 0))] := hW
  refine lv_aload_n S0.1 S0.2.1 dX0_init_44 rfl (lv_at hl 0 rfl) ?_
  refine q_bipush S0 (by decide) dX0_init_45 ?_
  refine q_newI (N := 40) S0 hK hA hW (List.mem_of_getElem? (i := 4) rfl) (by omega) (Nat.le_of_ble_eq_true rfl) (Nat.le_of_ble_eq_true rfl) dX0_init_47 (fun q6 H hW => ?_)
  have hW : gW g A s.heap H _ [(b, .inr (0, [.ref q1, .ref q2, .ref q3, .ref q4, .ref q5, .null, .int (iI 0), .int (iI 0), .null, .null])), (q1, gI g 40 (fun _ => 0)), (q2, gI g 40 (fun _ => 0)), (q3, gI g 40 (fun _ => 0)), (q4, gI g 40 (fun _ => 0)), (q5, gI g 40 (fun _ => 0)), (q6, gI g 40 (fun _ => 0))] := hW
  refine q_putF (C := RX0) (T := TX0) (N := 10) S0 hnme hK hW hinX0 tyX0_ok nmX0 0 rfl rfl 5 (by decide) (List.mem_of_getElem? (i := 10) rfl) rfl rfl rfl rfl rfl (Nat.le_of_ble_eq_true rfl) dX0_init_49 (fun H locs hW => ?_)
  have hW : gW g A s.heap H _ [(b, .inr (0, [.ref q1, .ref q2, .ref q3, .ref q4, .ref q5, .ref q6, .int (iI 0), .int (iI 0), .null, .null])), (q1, gI g 40 (fun _ => 0)), (q2, gI g 40 (fun _ => 0)), (q3, gI g 40 (fun _ => 0)), (q4, gI g 40 (fun _ => 0)), (q5, gI g 40 (fun _ => 0)), (q6, gI g 40 (fun _ => 0))] := hW
  refine lv_aload_n S0.1 S0.2.1 dX0_init_52 rfl (lv_at hl 0 rfl) ?_
  refine q_iconst S0 dX0_init_53 ?_
  refine q_put (C := RX0) (T := TX0) (N := 10) S0 hK hW hinX0 tyX0_ok nmX0 0 rfl rfl 6 (by decide) (List.mem_of_getElem? (i := 11) rfl) rfl rfl rfl rfl (Nat.le_of_ble_eq_true rfl) dX0_init_54 (fun H locs hW => ?_)
  have hW : gW g A s.heap H _ [(b, .inr (0, [.ref q1, .ref q2, .ref q3, .ref q4, .ref q5, .ref q6, .int (iI 0), .int (iI 0), .null, .null])), (q1, gI g 40 (fun _ => 0)), (q2, gI g 40 (fun _ => 0)), (q3, gI g 40 (fun _ => 0)), (q4, gI g 40 (fun _ => 0)), (q5, gI g 40 (fun _ => 0)), (q6, gI g 40 (fun _ => 0))] := hW
  refine lv_aload_n S0.1 S0.2.1 dX0_init_57 rfl (lv_at hl 0 rfl) ?_
  refine q_iconst S0 dX0_init_58 ?_
  refine q_put (C := RX0) (T := TX0) (N := 10) S0 hK hW hinX0 tyX0_ok nmX0 0 rfl rfl 7 (by decide) (List.mem_of_getElem? (i := 12) rfl) rfl rfl rfl rfl (Nat.le_of_ble_eq_true rfl) dX0_init_59 (fun H locs hW => ?_)
  have hW : gW g A s.heap H _ [(b, .inr (0, [.ref q1, .ref q2, .ref q3, .ref q4, .ref q5, .ref q6, .int (iI 0), .int (iI 0), .null, .null])), (q1, gI g 40 (fun _ => 0)), (q2, gI g 40 (fun _ => 0)), (q3, gI g 40 (fun _ => 0)), (q4, gI g 40 (fun _ => 0)), (q5, gI g 40 (fun _ => 0)), (q6, gI g 40 (fun _ => 0))] := hW
  refine lv_aload_n S0.1 S0.2.1 dX0_init_62 rfl (lv_at hl 0 rfl) ?_
  refine q_new (C := RX3) (T := TX3) (N := 2) (ci := 3) (fs := [.null, .int (iI 0)]) S0 hK hA hW hinX3 tyX3_ok (List.mem_of_getElem? (i := 13) rfl) (List.mem_of_getElem? (i := 14) rfl) (List.mem_of_getElem? (i := 15) rfl) rfl (fun j hj => by match j, hj with | 0, _ => rfl | 1, _ => rfl | j + 2, hj => exact absurd hj (by omega)) (Nat.le_of_ble_eq_true rfl) (Nat.le_of_ble_eq_true rfl) dX0_init_63 (fun q7 H hW => ?_)
  have hW : gW g A s.heap H _ [(b, .inr (0, [.ref q1, .ref q2, .ref q3, .ref q4, .ref q5, .ref q6, .int (iI 0), .int (iI 0), .null, .null])), (q1, gI g 40 (fun _ => 0)), (q2, gI g 40 (fun _ => 0)), (q3, gI g 40 (fun _ => 0)), (q4, gI g 40 (fun _ => 0)), (q5, gI g 40 (fun _ => 0)), (q6, gI g 40 (fun _ => 0)), (q7, .inr (3, [.null, .int (iI 0)]))] := hW
  refine lv_dup S0.1 S0.2.1 dX0_init_66 rfl ?_
  refine q_cIN (n := 0) (rest := [.ref q7, .ref b]) (wr := [(b, .inr (0, [.ref q1, .ref q2, .ref q3, .ref q4, .ref q5, .ref q6, .int (iI 0), .int (iI 0), .null, .null])), (q1, gI g 40 (fun _ => 0)), (q2, gI g 40 (fun _ => 0)), (q3, gI g 40 (fun _ => 0)), (q4, gI g 40 (fun _ => 0)), (q5, gI g 40 (fun _ => 0)), (q6, gI g 40 (fun _ => 0))]) S0 hK hA hW (c_X3_init l g q7) gX0_init_X3_init_n39 rfl rfl rfl 8 rfl (List.mem_of_getElem? (i := 15) rfl) (List.mem_of_getElem? (i := 18) rfl) rfl (by decide +kernel) ⟨Nat.le_of_ble_eq_true rfl, Nat.le_of_ble_eq_true rfl⟩ [7] [0, 1, 2, 3, 4, 5, 6] rfl rfl rfl rfl (by decide) (fun _ _ => trivial) (trivial) rfl rfl hl.1 (Nat.le_of_ble_eq_true rfl) ⟨Nat.le_of_ble_eq_true rfl, Nat.le_of_ble_eq_true rfl⟩ dX0_init_67 ?_
  rintro i1_ H locs _ hW
  have hW : gW g A s.heap H _ [(b, .inr (0, [.ref q1, .ref q2, .ref q3, .ref q4, .ref q5, .ref q6, .int (iI 0), .int (iI 0), .null, .null])), (q1, gI g 40 (fun _ => 0)), (q2, gI g 40 (fun _ => 0)), (q3, gI g 40 (fun _ => 0)), (q4, gI g 40 (fun _ => 0)), (q5, gI g 40 (fun _ => 0)), (q6, gI g 40 (fun _ => 0)), (q7, .inr (3, [.ref i1_, .int (iI 0)])), (i1_, gI g 40 (fun _ => 0))] := hW
  refine W.eq (g2 := F0 m 70 ls [.ref q7, .ref b]) rfl ?_
  refine q_putF (C := RX0) (T := TX0) (N := 10) S0 hnme hK hW hinX0 tyX0_ok nmX0 0 rfl rfl 8 (by decide) (List.mem_of_getElem? (i := 16) rfl) rfl rfl rfl rfl rfl (Nat.le_of_ble_eq_true rfl) dX0_init_70 (fun H locs hW => ?_)
  have hW : gW g A s.heap H _ [(b, .inr (0, [.ref q1, .ref q2, .ref q3, .ref q4, .ref q5, .ref q6, .int (iI 0), .int (iI 0), .ref q7, .null])), (q1, gI g 40 (fun _ => 0)), (q2, gI g 40 (fun _ => 0)), (q3, gI g 40 (fun _ => 0)), (q4, gI g 40 (fun _ => 0)), (q5, gI g 40 (fun _ => 0)), (q6, gI g 40 (fun _ => 0)), (q7, .inr (3, [.ref i1_, .int (iI 0)])), (i1_, gI g 40 (fun _ => 0))] := hW
  refine lv_aload_n S0.1 S0.2.1 dX0_init_73 rfl (lv_at hl 0 rfl) ?_
  refine q_new (C := RX3) (T := TX3) (N := 2) (ci := 3) (fs := [.null, .int (iI 0)]) S0 hK hA hW hinX3 tyX3_ok (List.mem_of_getElem? (i := 13) rfl) (List.mem_of_getElem? (i := 14) rfl) (List.mem_of_getElem? (i := 15) rfl) rfl (fun j hj => by match j, hj with | 0, _ => rfl | 1, _ => rfl | j + 2, hj => exact absurd hj (by omega)) (Nat.le_of_ble_eq_true rfl) (Nat.le_of_ble_eq_true rfl) dX0_init_74 (fun q8 H hW => ?_)
  have hW : gW g A s.heap H _ [(b, .inr (0, [.ref q1, .ref q2, .ref q3, .ref q4, .ref q5, .ref q6, .int (iI 0), .int (iI 0), .ref q7, .null])), (q1, gI g 40 (fun _ => 0)), (q2, gI g 40 (fun _ => 0)), (q3, gI g 40 (fun _ => 0)), (q4, gI g 40 (fun _ => 0)), (q5, gI g 40 (fun _ => 0)), (q6, gI g 40 (fun _ => 0)), (q7, .inr (3, [.ref i1_, .int (iI 0)])), (i1_, gI g 40 (fun _ => 0)), (q8, .inr (3, [.null, .int (iI 0)]))] := hW
  refine lv_dup S0.1 S0.2.1 dX0_init_77 rfl ?_
  refine q_cIN (n := 0) (rest := [.ref q8, .ref b]) (wr := [(b, .inr (0, [.ref q1, .ref q2, .ref q3, .ref q4, .ref q5, .ref q6, .int (iI 0), .int (iI 0), .ref q7, .null])), (q1, gI g 40 (fun _ => 0)), (q2, gI g 40 (fun _ => 0)), (q3, gI g 40 (fun _ => 0)), (q4, gI g 40 (fun _ => 0)), (q5, gI g 40 (fun _ => 0)), (q6, gI g 40 (fun _ => 0)), (q7, .inr (3, [.ref i1_, .int (iI 0)])), (i1_, gI g 40 (fun _ => 0))]) S0 hK hA hW (c_X3_init l g q8) gX0_init_X3_init_n39 rfl rfl rfl 8 rfl (List.mem_of_getElem? (i := 15) rfl) (List.mem_of_getElem? (i := 18) rfl) rfl (by decide +kernel) ⟨Nat.le_of_ble_eq_true rfl, Nat.le_of_ble_eq_true rfl⟩ [9] [0, 1, 2, 3, 4, 5, 6, 7, 8] rfl rfl rfl rfl (by decide) (fun _ _ => trivial) (trivial) rfl rfl hl.1 (Nat.le_of_ble_eq_true rfl) ⟨Nat.le_of_ble_eq_true rfl, Nat.le_of_ble_eq_true rfl⟩ dX0_init_78 ?_
  rintro i2_ H locs _ hW
  have hW : gW g A s.heap H _ [(b, .inr (0, [.ref q1, .ref q2, .ref q3, .ref q4, .ref q5, .ref q6, .int (iI 0), .int (iI 0), .ref q7, .null])), (q1, gI g 40 (fun _ => 0)), (q2, gI g 40 (fun _ => 0)), (q3, gI g 40 (fun _ => 0)), (q4, gI g 40 (fun _ => 0)), (q5, gI g 40 (fun _ => 0)), (q6, gI g 40 (fun _ => 0)), (q7, .inr (3, [.ref i1_, .int (iI 0)])), (i1_, gI g 40 (fun _ => 0)), (q8, .inr (3, [.ref i2_, .int (iI 0)])), (i2_, gI g 40 (fun _ => 0))] := hW
  refine W.eq (g2 := F0 m 81 ls [.ref q8, .ref b]) rfl ?_
  refine q_putF (C := RX0) (T := TX0) (N := 10) S0 hnme hK hW hinX0 tyX0_ok nmX0 0 rfl rfl 9 (by decide) (List.mem_of_getElem? (i := 17) rfl) rfl rfl rfl rfl rfl (Nat.le_of_ble_eq_true rfl) dX0_init_81 (fun H locs hW => ?_)
  have hW : gW g A s.heap H _ [(b, .inr (0, [.ref q1, .ref q2, .ref q3, .ref q4, .ref q5, .ref q6, .int (iI 0), .int (iI 0), .ref q7, .ref q8])), (q1, gI g 40 (fun _ => 0)), (q2, gI g 40 (fun _ => 0)), (q3, gI g 40 (fun _ => 0)), (q4, gI g 40 (fun _ => 0)), (q5, gI g 40 (fun _ => 0)), (q6, gI g 40 (fun _ => 0)), (q7, .inr (3, [.ref i1_, .int (iI 0)])), (i1_, gI g 40 (fun _ => 0)), (q8, .inr (3, [.ref i2_, .int (iI 0)])), (i2_, gI g 40 (fun _ => 0))] := hW
  exact q_vret S0 hr hlocks (q1, q2, q3, q4, q5, q6, q7, i1_, q8, i2_) (trivial) rfl (hW.sub [0, 1, 2, 3, 4, 5, 6, 7, 8, 9, 10] rfl (rfl)) (Nat.le_of_ble_eq_true rfl) (Nat.le_of_ble_eq_true rfl) dX0_init_84
set_option maxHeartbeats 4000000 in
set_option maxRecDepth 100000 in
theorem c_X4_init (l : Launch) (g : GG) (ps : Nat) : qMet l yX4_init wsX4_init ({ frames := 3, cells := 11, slots := 334, locals := 58 }) g [.ref ps] [(ps, .inr (4, [.null, .int (iI 0), .int (iI 0), .int (iI 0)]))] (fun _ => True) (fun _ => True) (S := Nat × Nat × Nat × Nat × Nat × Nat × Nat × Nat × Nat × Nat × Nat) (fun _ => none) (fun u_ => [(ps, .inr (4, [.ref u_.1, .int (iI (pA P0)), .int (iI (pO P0)), .int (iI (pM P0))])), (u_.1, .inr (0, [.ref u_.2.1, .ref u_.2.2.1, .ref u_.2.2.2.1, .ref u_.2.2.2.2.1, .ref u_.2.2.2.2.2.1, .ref u_.2.2.2.2.2.2.1, .int (iI (bN (pB P0))), .int (iI (bZ (pB P0))), .ref u_.2.2.2.2.2.2.2.1, .ref u_.2.2.2.2.2.2.2.2.2.1])), (u_.2.1, gI g 40 (bK (pB P0))), (u_.2.2.1, gI g 40 (bU (pB P0))), (u_.2.2.2.1, gI g 40 (bL (pB P0))), (u_.2.2.2.2.1, gI g 40 (bV (pB P0))), (u_.2.2.2.2.2.1, gI g 40 (bD (pB P0))), (u_.2.2.2.2.2.2.1, gI g 40 (bE (pB P0))), (u_.2.2.2.2.2.2.2.1, .inr (3, [.ref u_.2.2.2.2.2.2.2.2.1, .int (iI (lP (pB P0)))])), (u_.2.2.2.2.2.2.2.2.1, gI g 40 (lQ (pB P0))), (u_.2.2.2.2.2.2.2.2.2.1, .inr (3, [.ref u_.2.2.2.2.2.2.2.2.2.2, .int (iI (wP (pB P0)))])), (u_.2.2.2.2.2.2.2.2.2.2, gI g 40 (wQ (pB P0)))]) (fun _ => True) 11 334 := by
  refine q_ofW (cc := cX4_init) (maxL := 1) (ret := none) (fun sz h => h.self) (by decide) rfl (Nat.le_of_ble_eq_true rfl) ?_
  intro p e s m args below meth c A ls S0 hr hlocks hnme hK hA hAe hW hD0 hX hl
  have hW : gW g A s.heap s.heap [] [(ps, .inr (4, [.null, .int (iI 0), .int (iI 0), .int (iI 0)]))] := hW
  have hl : lv_has ls 1 [(0, .ref ps)] := hl
  have hinX0 : ∀ w ∈ wsX00, w ∈ wsX4_init := fun w h => List.mem_cons_of_mem _ (List.mem_append_left _ (List.mem_append_left _ (List.mem_append_right _ h)))
  have hinX4 : ∀ w ∈ wsX40, w ∈ wsX4_init := fun w h => List.mem_cons_of_mem _ (List.mem_append_left _ (List.mem_append_right _ h))
  refine lv_aload_n S0.1 S0.2.1 dX4_init_0 rfl (lv_at hl 0 rfl) ?_
  refine q_obj S0 (List.mem_of_getElem? (i := 1) rfl) (List.mem_of_getElem? (i := 2) rfl) (List.mem_of_getElem? (i := 3) rfl) hl.1 dX4_init_1 (Nat.le_of_ble_eq_true rfl) (Nat.le_of_ble_eq_true rfl) ?_
  refine W.eq (g2 := F0 m 4 ls []) rfl ?_
  refine lv_aload_n S0.1 S0.2.1 dX4_init_4 rfl (lv_at hl 0 rfl) ?_
  refine q_new (C := RX0) (T := TX0) (N := 10) (ci := 0) (fs := [.null, .null, .null, .null, .null, .null, .int (iI 0), .int (iI 0), .null, .null]) S0 hK hA hW hinX0 tyX0_ok (List.mem_of_getElem? (i := 4) rfl) (List.mem_of_getElem? (i := 5) rfl) (List.mem_of_getElem? (i := 6) rfl) rfl (fun j hj => by match j, hj with | 0, _ => rfl | 1, _ => rfl | 2, _ => rfl | 3, _ => rfl | 4, _ => rfl | 5, _ => rfl | 6, _ => rfl | 7, _ => rfl | 8, _ => rfl | 9, _ => rfl | j + 10, hj => exact absurd hj (by omega)) (Nat.le_of_ble_eq_true rfl) (Nat.le_of_ble_eq_true rfl) dX4_init_5 (fun q1 H hW => ?_)
  have hW : gW g A s.heap H _ [(ps, .inr (4, [.null, .int (iI 0), .int (iI 0), .int (iI 0)])), (q1, .inr (0, [.null, .null, .null, .null, .null, .null, .int (iI 0), .int (iI 0), .null, .null]))] := hW
  refine lv_dup S0.1 S0.2.1 dX4_init_8 rfl ?_
  refine q_cIN (n := 0) (rest := [.ref q1, .ref ps]) (wr := [(ps, .inr (4, [.null, .int (iI 0), .int (iI 0), .int (iI 0)]))]) S0 hK hA hW (c_X0_init l g q1) gX4_init_X0_init_n11 rfl rfl rfl 3 rfl (List.mem_of_getElem? (i := 6) rfl) (List.mem_of_getElem? (i := 11) rfl) rfl (by decide +kernel) ⟨Nat.le_of_ble_eq_true rfl, Nat.le_of_ble_eq_true rfl⟩ [1] [0] rfl rfl rfl rfl (by decide) (fun _ _ => trivial) (trivial) rfl rfl hl.1 (Nat.le_of_ble_eq_true rfl) ⟨Nat.le_of_ble_eq_true rfl, Nat.le_of_ble_eq_true rfl⟩ dX4_init_9 ?_
  rintro ⟨z0, z1, z2, z3, z4, z5, z6, z7, z8, z9⟩ H locs _ hW
  have hW : gW g A s.heap H _ [(ps, .inr (4, [.null, .int (iI 0), .int (iI 0), .int (iI 0)])), (q1, .inr (0, [.ref z0, .ref z1, .ref z2, .ref z3, .ref z4, .ref z5, .int (iI (bN B0)), .int (iI (bZ B0)), .ref z6, .ref z8])), (z0, gI g 40 (bK B0)), (z1, gI g 40 (bU B0)), (z2, gI g 40 (bL B0)), (z3, gI g 40 (bV B0)), (z4, gI g 40 (bD B0)), (z5, gI g 40 (bE B0)), (z6, .inr (3, [.ref z7, .int (iI (lP B0))])), (z7, gI g 40 (lQ B0)), (z8, .inr (3, [.ref z9, .int (iI (wP B0))])), (z9, gI g 40 (wQ B0))] := hW
  refine W.eq (g2 := F0 m 12 ls [.ref q1, .ref ps]) rfl ?_
  refine q_putF (C := RX4) (T := TX4) (N := 4) S0 hnme hK hW hinX4 tyX4_ok nmX4 0 rfl rfl 0 (by decide) (List.mem_of_getElem? (i := 7) rfl) rfl rfl rfl rfl rfl (Nat.le_of_ble_eq_true rfl) dX4_init_12 (fun H locs hW => ?_)
  have hW : gW g A s.heap H _ [(ps, .inr (4, [.ref q1, .int (iI 0), .int (iI 0), .int (iI 0)])), (q1, .inr (0, [.ref z0, .ref z1, .ref z2, .ref z3, .ref z4, .ref z5, .int (iI (bN B0)), .int (iI (bZ B0)), .ref z6, .ref z8])), (z0, gI g 40 (bK B0)), (z1, gI g 40 (bU B0)), (z2, gI g 40 (bL B0)), (z3, gI g 40 (bV B0)), (z4, gI g 40 (bD B0)), (z5, gI g 40 (bE B0)), (z6, .inr (3, [.ref z7, .int (iI (lP B0))])), (z7, gI g 40 (lQ B0)), (z8, .inr (3, [.ref z9, .int (iI (wP B0))])), (z9, gI g 40 (wQ B0))] := hW
  refine lv_aload_n S0.1 S0.2.1 dX4_init_15 rfl (lv_at hl 0 rfl) ?_
  refine q_iconst S0 dX4_init_16 ?_
  refine q_put (C := RX4) (T := TX4) (N := 4) S0 hK hW hinX4 tyX4_ok nmX4 0 rfl rfl 1 (by decide) (List.mem_of_getElem? (i := 8) rfl) rfl rfl rfl rfl (Nat.le_of_ble_eq_true rfl) dX4_init_17 (fun H locs hW => ?_)
  have hW : gW g A s.heap H _ [(ps, .inr (4, [.ref q1, .int (iI 0), .int (iI 0), .int (iI 0)])), (q1, .inr (0, [.ref z0, .ref z1, .ref z2, .ref z3, .ref z4, .ref z5, .int (iI (bN B0)), .int (iI (bZ B0)), .ref z6, .ref z8])), (z0, gI g 40 (bK B0)), (z1, gI g 40 (bU B0)), (z2, gI g 40 (bL B0)), (z3, gI g 40 (bV B0)), (z4, gI g 40 (bD B0)), (z5, gI g 40 (bE B0)), (z6, .inr (3, [.ref z7, .int (iI (lP B0))])), (z7, gI g 40 (lQ B0)), (z8, .inr (3, [.ref z9, .int (iI (wP B0))])), (z9, gI g 40 (wQ B0))] := hW
  refine lv_aload_n S0.1 S0.2.1 dX4_init_20 rfl (lv_at hl 0 rfl) ?_
  refine q_iconst S0 dX4_init_21 ?_
  refine q_put (C := RX4) (T := TX4) (N := 4) S0 hK hW hinX4 tyX4_ok nmX4 0 rfl rfl 2 (by decide) (List.mem_of_getElem? (i := 9) rfl) rfl rfl rfl rfl (Nat.le_of_ble_eq_true rfl) dX4_init_22 (fun H locs hW => ?_)
  have hW : gW g A s.heap H _ [(ps, .inr (4, [.ref q1, .int (iI 0), .int (iI 0), .int (iI 0)])), (q1, .inr (0, [.ref z0, .ref z1, .ref z2, .ref z3, .ref z4, .ref z5, .int (iI (bN B0)), .int (iI (bZ B0)), .ref z6, .ref z8])), (z0, gI g 40 (bK B0)), (z1, gI g 40 (bU B0)), (z2, gI g 40 (bL B0)), (z3, gI g 40 (bV B0)), (z4, gI g 40 (bD B0)), (z5, gI g 40 (bE B0)), (z6, .inr (3, [.ref z7, .int (iI (lP B0))])), (z7, gI g 40 (lQ B0)), (z8, .inr (3, [.ref z9, .int (iI (wP B0))])), (z9, gI g 40 (wQ B0))] := hW
  refine lv_aload_n S0.1 S0.2.1 dX4_init_25 rfl (lv_at hl 0 rfl) ?_
  refine q_iconst S0 dX4_init_26 ?_
  refine q_put (C := RX4) (T := TX4) (N := 4) S0 hK hW hinX4 tyX4_ok nmX4 0 rfl rfl 3 (by decide) (List.mem_of_getElem? (i := 10) rfl) rfl rfl rfl rfl (Nat.le_of_ble_eq_true rfl) dX4_init_27 (fun H locs hW => ?_)
  have hW : gW g A s.heap H _ [(ps, .inr (4, [.ref q1, .int (iI 0), .int (iI 0), .int (iI ((-1)))])), (q1, .inr (0, [.ref z0, .ref z1, .ref z2, .ref z3, .ref z4, .ref z5, .int (iI (bN B0)), .int (iI (bZ B0)), .ref z6, .ref z8])), (z0, gI g 40 (bK B0)), (z1, gI g 40 (bU B0)), (z2, gI g 40 (bL B0)), (z3, gI g 40 (bV B0)), (z4, gI g 40 (bD B0)), (z5, gI g 40 (bE B0)), (z6, .inr (3, [.ref z7, .int (iI (lP B0))])), (z7, gI g 40 (lQ B0)), (z8, .inr (3, [.ref z9, .int (iI (wP B0))])), (z9, gI g 40 (wQ B0))] := hW
  exact q_vret S0 hr hlocks (q1, z0, z1, z2, z3, z4, z5, z6, z7, z8, z9) (trivial) rfl (hW.sub [0, 1, 2, 3, 4, 5, 6, 7, 8, 9, 10, 11] rfl (rfl)) (Nat.le_of_ble_eq_true rfl) (Nat.le_of_ble_eq_true rfl) dX4_init_30
set_option maxHeartbeats 4000000 in
set_option maxRecDepth 100000 in
theorem c_X2_init (l : Launch) (g : GG) (h : Nat) : qMet l yX2_init wsX2_init ({ frames := 1, cells := 1, slots := 4, locals := 18 }) g [.ref h] [(h, .inr (2, [.null, .int (iI 0)]))] (fun _ => True) (fun _ => True) (S := Nat) (fun _ => none) (fun u_ => [(h, .inr (2, [.ref u_, .int (iI 0)])), (u_, gR g 4 (fun _ => none))]) (fun _ => True) 1 4 := by
  refine q_ofW (cc := cX2_init) (maxL := 1) (ret := none) (fun sz h => h.self) (by decide) rfl (Nat.le_of_ble_eq_true rfl) ?_
  intro p e s m args below meth c A ls S0 hr hlocks hnme hK hA hAe hW hD0 hX hl
  have hW : gW g A s.heap s.heap [] [(h, .inr (2, [.null, .int (iI 0)]))] := hW
  have hl : lv_has ls 1 [(0, .ref h)] := hl
  have hinX2 : ∀ w ∈ wsX20, w ∈ wsX2_init := fun w h => List.mem_cons_of_mem _ (List.mem_append_right _ h)
  refine lv_aload_n S0.1 S0.2.1 dX2_init_0 rfl (lv_at hl 0 rfl) ?_
  refine q_obj S0 (List.mem_of_getElem? (i := 1) rfl) (List.mem_of_getElem? (i := 2) rfl) (List.mem_of_getElem? (i := 3) rfl) hl.1 dX2_init_1 (Nat.le_of_ble_eq_true rfl) (Nat.le_of_ble_eq_true rfl) ?_
  refine W.eq (g2 := F0 m 4 ls []) rfl ?_
  refine lv_aload_n S0.1 S0.2.1 dX2_init_4 rfl (lv_at hl 0 rfl) ?_
  refine q_iconst S0 dX2_init_5 ?_
  refine q_newR (N := 4) S0 hK hA hW (List.mem_of_getElem? (i := 4) rfl) (by omega) (Nat.le_of_ble_eq_true rfl) (Nat.le_of_ble_eq_true rfl) dX2_init_6 (fun q1 H hW => ?_)
  have hW : gW g A s.heap H _ [(h, .inr (2, [.null, .int (iI 0)])), (q1, gR g 4 (fun _ => none))] := hW
  refine q_putF (C := RX2) (T := TX2) (N := 2) S0 hnme hK hW hinX2 tyX2_ok nmX2 0 rfl rfl 0 (by decide) (List.mem_of_getElem? (i := 5) rfl) rfl rfl rfl rfl rfl (Nat.le_of_ble_eq_true rfl) dX2_init_9 (fun H locs hW => ?_)
  have hW : gW g A s.heap H _ [(h, .inr (2, [.ref q1, .int (iI 0)])), (q1, gR g 4 (fun _ => none))] := hW
  refine lv_aload_n S0.1 S0.2.1 dX2_init_12 rfl (lv_at hl 0 rfl) ?_
  refine q_iconst S0 dX2_init_13 ?_
  refine q_put (C := RX2) (T := TX2) (N := 2) S0 hK hW hinX2 tyX2_ok nmX2 0 rfl rfl 1 (by decide) (List.mem_of_getElem? (i := 6) rfl) rfl rfl rfl rfl (Nat.le_of_ble_eq_true rfl) dX2_init_14 (fun H locs hW => ?_)
  have hW : gW g A s.heap H _ [(h, .inr (2, [.ref q1, .int (iI 0)])), (q1, gR g 4 (fun _ => none))] := hW
  exact q_vret S0 hr hlocks q1 (trivial) rfl (hW.sub [0, 1] rfl (rfl)) (Nat.le_of_ble_eq_true rfl) (Nat.le_of_ble_eq_true rfl) dX2_init_17
set_option maxHeartbeats 4000000 in
set_option maxRecDepth 100000 in
theorem c_X1_ofX (l : Launch) (g : GG)  : qMet l yX1_ofX wsX1_ofX ({ frames := 2, cells := 5, slots := 11, locals := 45 }) g [] [] (fun _ => True) (fun _ => True) (S := Nat × Nat × Nat × Nat × Nat) (fun u_ => some (.ref u_.1)) (fun u_ => [(u_.1, .inr (1, [.ref u_.2.1, .ref u_.2.2.1, .ref u_.2.2.2.1, .ref u_.2.2.2.2, .int (iI 1), .int (iI 1), .int (iI 0)])), (u_.2.1, gI g 1 (eK E0)), (u_.2.2.1, gI g 1 (eU E0)), (u_.2.2.2.1, gI g 1 (eL E0)), (u_.2.2.2.2, gI g 1 (eV E0))]) (fun _ => True) 5 11 := by
  refine q_ofW (cc := cX1_ofX) (maxL := 0) (ret := (some (.object "HingeNumbers$Expression"))) (fun sz h => h.self) (by decide) rfl (Nat.le_of_ble_eq_true rfl) ?_
  intro p e s m args below meth c A ls S0 hr hlocks hnme hK hA hAe hW hD0 hX hl
  have hW : gW g A s.heap s.heap [] [] := hW
  have hl : lv_has ls 0 [] := hl
  have hinX1 : ∀ w ∈ wsX10, w ∈ wsX1_ofX := fun w h => List.mem_cons_of_mem _ (List.mem_append_right _ h)
  refine q_new (C := RX1) (T := TX1) (N := 7) (ci := 1) (fs := [.null, .null, .null, .null, .int (iI 0), .int (iI 0), .int (iI 0)]) S0 hK hA hW hinX1 tyX1_ok (List.mem_of_getElem? (i := 1) rfl) (List.mem_of_getElem? (i := 2) rfl) (List.mem_of_getElem? (i := 3) rfl) rfl (fun j hj => by match j, hj with | 0, _ => rfl | 1, _ => rfl | 2, _ => rfl | 3, _ => rfl | 4, _ => rfl | 5, _ => rfl | 6, _ => rfl | j + 7, hj => exact absurd hj (by omega)) (Nat.le_of_ble_eq_true rfl) (Nat.le_of_ble_eq_true rfl) dX1_ofX_0 (fun q1 H hW => ?_)
  have hW : gW g A s.heap H _ [(q1, .inr (1, [.null, .null, .null, .null, .int (iI 0), .int (iI 0), .int (iI 0)]))] := hW
  refine lv_dup S0.1 S0.2.1 dX1_ofX_3 rfl ?_
  refine q_iconst S0 dX1_ofX_4 ?_
  refine q_newI (N := 1) S0 hK hA hW (List.mem_of_getElem? (i := 4) rfl) (by omega) (Nat.le_of_ble_eq_true rfl) (Nat.le_of_ble_eq_true rfl) dX1_ofX_5 (fun q2 H hW => ?_)
  have hW : gW g A s.heap H _ [(q1, .inr (1, [.null, .null, .null, .null, .int (iI 0), .int (iI 0), .int (iI 0)])), (q2, gI g 1 (fun _ => 0))] := hW
  refine lv_dup S0.1 S0.2.1 dX1_ofX_7 rfl ?_
  refine q_iconst S0 dX1_ofX_8 ?_
  refine q_bipush S0 (by decide) dX1_ofX_9 ?_
  refine q_iast S0 hK hW 1 rfl (by omega) dX1_ofX_11 (fun H locs hW => ?_)
  have hW : gW g A s.heap H _ [(q1, .inr (1, [.null, .null, .null, .null, .int (iI 0), .int (iI 0), .int (iI 0)])), (q2, gI g 1 (up (fun _ => 0) 0 120))] := hW
  refine q_iconst S0 dX1_ofX_12 ?_
  refine q_newI (N := 1) S0 hK hA hW (List.mem_of_getElem? (i := 4) rfl) (by omega) (Nat.le_of_ble_eq_true rfl) (Nat.le_of_ble_eq_true rfl) dX1_ofX_13 (fun q3 H hW => ?_)
  have hW : gW g A s.heap H _ [(q1, .inr (1, [.null, .null, .null, .null, .int (iI 0), .int (iI 0), .int (iI 0)])), (q2, gI g 1 (up (fun _ => 0) 0 120)), (q3, gI g 1 (fun _ => 0))] := hW
  refine lv_dup S0.1 S0.2.1 dX1_ofX_15 rfl ?_
  refine q_iconst S0 dX1_ofX_16 ?_
  refine q_iconst S0 dX1_ofX_17 ?_
  refine q_iast S0 hK hW 2 rfl (by omega) dX1_ofX_18 (fun H locs hW => ?_)
  have hW : gW g A s.heap H _ [(q1, .inr (1, [.null, .null, .null, .null, .int (iI 0), .int (iI 0), .int (iI 0)])), (q2, gI g 1 (up (fun _ => 0) 0 120)), (q3, gI g 1 (up (fun _ => 0) 0 0))] := hW
  refine q_iconst S0 dX1_ofX_19 ?_
  refine q_newI (N := 1) S0 hK hA hW (List.mem_of_getElem? (i := 4) rfl) (by omega) (Nat.le_of_ble_eq_true rfl) (Nat.le_of_ble_eq_true rfl) dX1_ofX_20 (fun q4 H hW => ?_)
  have hW : gW g A s.heap H _ [(q1, .inr (1, [.null, .null, .null, .null, .int (iI 0), .int (iI 0), .int (iI 0)])), (q2, gI g 1 (up (fun _ => 0) 0 120)), (q3, gI g 1 (up (fun _ => 0) 0 0)), (q4, gI g 1 (fun _ => 0))] := hW
  refine lv_dup S0.1 S0.2.1 dX1_ofX_22 rfl ?_
  refine q_iconst S0 dX1_ofX_23 ?_
  refine q_iconst S0 dX1_ofX_24 ?_
  refine q_iast S0 hK hW 3 rfl (by omega) dX1_ofX_25 (fun H locs hW => ?_)
  have hW : gW g A s.heap H _ [(q1, .inr (1, [.null, .null, .null, .null, .int (iI 0), .int (iI 0), .int (iI 0)])), (q2, gI g 1 (up (fun _ => 0) 0 120)), (q3, gI g 1 (up (fun _ => 0) 0 0)), (q4, gI g 1 (up (fun _ => 0) 0 ((-1))))] := hW
  refine q_iconst S0 dX1_ofX_26 ?_
  refine q_newI (N := 1) S0 hK hA hW (List.mem_of_getElem? (i := 4) rfl) (by omega) (Nat.le_of_ble_eq_true rfl) (Nat.le_of_ble_eq_true rfl) dX1_ofX_27 (fun q5 H hW => ?_)
  have hW : gW g A s.heap H _ [(q1, .inr (1, [.null, .null, .null, .null, .int (iI 0), .int (iI 0), .int (iI 0)])), (q2, gI g 1 (up (fun _ => 0) 0 120)), (q3, gI g 1 (up (fun _ => 0) 0 0)), (q4, gI g 1 (up (fun _ => 0) 0 ((-1)))), (q5, gI g 1 (fun _ => 0))] := hW
  refine lv_dup S0.1 S0.2.1 dX1_ofX_29 rfl ?_
  refine q_iconst S0 dX1_ofX_30 ?_
  refine q_iconst S0 dX1_ofX_31 ?_
  refine q_iast S0 hK hW 4 rfl (by omega) dX1_ofX_32 (fun H locs hW => ?_)
  have hW : gW g A s.heap H _ [(q1, .inr (1, [.null, .null, .null, .null, .int (iI 0), .int (iI 0), .int (iI 0)])), (q2, gI g 1 (up (fun _ => 0) 0 120)), (q3, gI g 1 (up (fun _ => 0) 0 0)), (q4, gI g 1 (up (fun _ => 0) 0 ((-1)))), (q5, gI g 1 (up (fun _ => 0) 0 ((-1))))] := hW
  refine q_iconst S0 dX1_ofX_33 ?_
  refine q_iconst S0 dX1_ofX_34 ?_
  refine q_iconst S0 dX1_ofX_35 ?_
  refine q_cI (n := 7) (rest := [.ref q1]) (wr := [(q2, gI g 1 (up (fun _ => 0) 0 120)), (q3, gI g 1 (up (fun _ => 0) 0 0)), (q4, gI g 1 (up (fun _ => 0) 0 ((-1)))), (q5, gI g 1 (up (fun _ => 0) 0 ((-1))))]) S0 hK hA hW (c_X1_init l g q1 q2 q3 q4 q5 1 1 0) gX1_ofX_X1_init rfl rfl rfl (List.mem_of_getElem? (i := 5) rfl) (List.mem_of_getElem? (i := 3) rfl) (List.mem_of_getElem? (i := 6) rfl) rfl (by decide +kernel) ⟨Nat.le_of_ble_eq_true rfl, Nat.le_of_ble_eq_true rfl⟩ [0] [1, 2, 3, 4] rfl rfl rfl rfl (by decide) (fun _ _ => trivial) (trivial) rfl rfl hl.1 (Nat.le_of_ble_eq_true rfl) ⟨Nat.le_of_ble_eq_true rfl, Nat.le_of_ble_eq_true rfl⟩ dX1_ofX_36 (fun _ H locs _ hW => ?_)
  have hW : gW g A s.heap H _ [(q2, gI g 1 (up (fun _ => 0) 0 120)), (q3, gI g 1 (up (fun _ => 0) 0 0)), (q4, gI g 1 (up (fun _ => 0) 0 ((-1)))), (q5, gI g 1 (up (fun _ => 0) 0 ((-1)))), (q1, .inr (1, [.ref q2, .ref q3, .ref q4, .ref q5, .int (iI 1), .int (iI 1), .int (iI 0)]))] := hW
  refine W.eq (g2 := F0 m 39 ls [.ref q1]) rfl ?_
  exact q_aret S0 hr (Or.inl ⟨_, rfl⟩) hlocks (q1, q2, q3, q4, q5) (trivial) (Or.inr ⟨_, rfl⟩) (rfl) (hW.sub [4, 0, 1, 2, 3] rfl (rfl)) (Nat.le_of_ble_eq_true rfl) (Nat.le_of_ble_eq_true rfl) dX1_ofX_39
set_option maxHeartbeats 4000000 in
set_option maxRecDepth 100000 in
theorem c_X7_first (l : Launch) (g : GG)  : qMet l yX7_first wsX7_first ({ frames := 3, cells := 7, slots := 17, locals := 64 }) g [] [] (fun _ => True) (fun _ => True) (S := Nat × Nat × Nat × Nat × Nat × Nat × Nat) (fun u_ => some (.ref u_.1)) (fun u_ => [(u_.1, .inr (7, [.ref u_.2.1, .ref u_.2.2.1, .ref u_.2.2.1, .ref u_.2.2.1, .ref u_.2.2.1])), (u_.2.1, .inr (6, [.int (iI 97)])), (u_.2.2.1, .inr (1, [.ref u_.2.2.2.1, .ref u_.2.2.2.2.1, .ref u_.2.2.2.2.2.1, .ref u_.2.2.2.2.2.2, .int (iI 1), .int (iI 1), .int (iI 0)])), (u_.2.2.2.1, gI g 1 (eK E0)), (u_.2.2.2.2.1, gI g 1 (eU E0)), (u_.2.2.2.2.2.1, gI g 1 (eL E0)), (u_.2.2.2.2.2.2, gI g 1 (eV E0))]) (fun _ => True) 7 17 := by
  refine q_ofW (cc := cX7_first) (maxL := 1) (ret := (some (.object "HingeNumbers$State"))) (fun sz h => h.self) (by decide) rfl (Nat.le_of_ble_eq_true rfl) ?_
  intro p e s m args below meth c A ls S0 hr hlocks hnme hK hA hAe hW hD0 hX hl
  have hW : gW g A s.heap s.heap [] [] := hW
  have hl : lv_has ls 1 [] := hl
  have hinX7 : ∀ w ∈ wsX70, w ∈ wsX7_first := fun w h => List.mem_cons_of_mem _ (List.mem_append_left _ (List.mem_append_left _ (List.mem_append_right _ h)))
  have hinX6 : ∀ w ∈ wsX60, w ∈ wsX7_first := fun w h => List.mem_cons_of_mem _ (List.mem_append_left _ (List.mem_append_right _ h))
  refine q_cS (n := 0) (rest := []) (wr := []) S0 hK hA hW (c_X1_ofX l g ) gX7_first_X1_ofX rfl rfl rfl (by decide +kernel) ⟨Nat.le_of_ble_eq_true rfl, Nat.le_of_ble_eq_true rfl⟩ [] [] rfl rfl rfl rfl (by decide) (fun _ _ => trivial) (trivial) rfl rfl hl.1 (Nat.le_of_ble_eq_true rfl) ⟨Nat.le_of_ble_eq_true rfl, Nat.le_of_ble_eq_true rfl⟩ dX7_first_0 ?_
  rintro ⟨x1, y1, y2, y3, y4⟩ H locs _ hW
  have hW : gW g A s.heap H _ [(x1, .inr (1, [.ref y1, .ref y2, .ref y3, .ref y4, .int (iI 1), .int (iI 1), .int (iI 0)])), (y1, gI g 1 (eK E0)), (y2, gI g 1 (eU E0)), (y3, gI g 1 (eL E0)), (y4, gI g 1 (eV E0))] := hW
  refine W.eq (g2 := F0 m 3 ls [.ref x1]) rfl ?_
  refine lv_astore_n (lv' := [(0, .ref x1)]) S0.1 S0.2.1 dX7_first_3 rfl hl (by decide) rfl (fun ls hl => ?_)
  refine q_new (C := RX7) (T := TX7) (N := 5) (ci := 7) (fs := [.null, .null, .null, .null, .null]) S0 hK hA hW hinX7 tyX7_ok (List.mem_of_getElem? (i := 1) rfl) (List.mem_of_getElem? (i := 2) rfl) (List.mem_of_getElem? (i := 3) rfl) rfl (fun j hj => by match j, hj with | 0, _ => rfl | 1, _ => rfl | 2, _ => rfl | 3, _ => rfl | 4, _ => rfl | j + 5, hj => exact absurd hj (by omega)) (Nat.le_of_ble_eq_true rfl) (Nat.le_of_ble_eq_true rfl) dX7_first_4 (fun q1 H hW => ?_)
  have hW : gW g A s.heap H _ [(x1, .inr (1, [.ref y1, .ref y2, .ref y3, .ref y4, .int (iI 1), .int (iI 1), .int (iI 0)])), (y1, gI g 1 (eK E0)), (y2, gI g 1 (eU E0)), (y3, gI g 1 (eL E0)), (y4, gI g 1 (eV E0)), (q1, .inr (7, [.null, .null, .null, .null, .null]))] := hW
  refine lv_dup S0.1 S0.2.1 dX7_first_7 rfl ?_
  refine q_new (C := RX6) (T := TX6) (N := 1) (ci := 6) (fs := [.int (iI 0)]) S0 hK hA hW hinX6 tyX6_ok (List.mem_of_getElem? (i := 4) rfl) (List.mem_of_getElem? (i := 5) rfl) (List.mem_of_getElem? (i := 6) rfl) rfl (fun j hj => by match j, hj with | 0, _ => rfl | j + 1, hj => exact absurd hj (by omega)) (Nat.le_of_ble_eq_true rfl) (Nat.le_of_ble_eq_true rfl) dX7_first_8 (fun q2 H hW => ?_)
  have hW : gW g A s.heap H _ [(x1, .inr (1, [.ref y1, .ref y2, .ref y3, .ref y4, .int (iI 1), .int (iI 1), .int (iI 0)])), (y1, gI g 1 (eK E0)), (y2, gI g 1 (eU E0)), (y3, gI g 1 (eL E0)), (y4, gI g 1 (eV E0)), (q1, .inr (7, [.null, .null, .null, .null, .null])), (q2, .inr (6, [.int (iI 0)]))] := hW
  refine lv_dup S0.1 S0.2.1 dX7_first_11 rfl ?_
  refine q_bipush S0 (by decide) dX7_first_12 ?_
  refine q_cI (n := 1) (rest := [.ref q2, .ref q1, .ref q1]) (wr := [(x1, .inr (1, [.ref y1, .ref y2, .ref y3, .ref y4, .int (iI 1), .int (iI 1), .int (iI 0)])), (y1, gI g 1 (eK E0)), (y2, gI g 1 (eU E0)), (y3, gI g 1 (eL E0)), (y4, gI g 1 (eV E0)), (q1, .inr (7, [.null, .null, .null, .null, .null]))]) S0 hK hA hW (c_X6_init l g q2 0 97) gX7_first_X6_init rfl rfl rfl (List.mem_of_getElem? (i := 27) rfl) (List.mem_of_getElem? (i := 6) rfl) (List.mem_of_getElem? (i := 28) rfl) rfl (by decide +kernel) ⟨Nat.le_of_ble_eq_true rfl, Nat.le_of_ble_eq_true rfl⟩ [6] [0, 1, 2, 3, 4, 5] rfl rfl rfl rfl (by decide) (fun _ _ => trivial) (trivial) rfl rfl hl.1 (Nat.le_of_ble_eq_true rfl) ⟨Nat.le_of_ble_eq_true rfl, Nat.le_of_ble_eq_true rfl⟩ dX7_first_14 (fun _ H locs _ hW => ?_)
  have hW : gW g A s.heap H _ [(x1, .inr (1, [.ref y1, .ref y2, .ref y3, .ref y4, .int (iI 1), .int (iI 1), .int (iI 0)])), (y1, gI g 1 (eK E0)), (y2, gI g 1 (eU E0)), (y3, gI g 1 (eL E0)), (y4, gI g 1 (eV E0)), (q1, .inr (7, [.null, .null, .null, .null, .null])), (q2, .inr (6, [.int (iI 97)]))] := hW
  refine W.eq (g2 := F0 m 17 ls [.ref q2, .ref q1, .ref q1]) rfl ?_
  refine lv_aload_n S0.1 S0.2.1 dX7_first_17 rfl (lv_at hl 0 rfl) ?_
  refine lv_aload_n S0.1 S0.2.1 dX7_first_18 rfl (lv_at hl 0 rfl) ?_
  refine lv_aload_n S0.1 S0.2.1 dX7_first_19 rfl (lv_at hl 0 rfl) ?_
  refine lv_aload_n S0.1 S0.2.1 dX7_first_20 rfl (lv_at hl 0 rfl) ?_
  refine q_cI (n := 5) (rest := [.ref q1]) (wr := [(x1, .inr (1, [.ref y1, .ref y2, .ref y3, .ref y4, .int (iI 1), .int (iI 1), .int (iI 0)])), (y1, gI g 1 (eK E0)), (y2, gI g 1 (eU E0)), (y3, gI g 1 (eL E0)), (y4, gI g 1 (eV E0)), (q2, .inr (6, [.int (iI 97)]))]) S0 hK hA hW (c_X7_init l g q1 q2 x1 x1 x1 x1) gX7_first_X7_init rfl rfl rfl (List.mem_of_getElem? (i := 32) rfl) (List.mem_of_getElem? (i := 3) rfl) (List.mem_of_getElem? (i := 33) rfl) rfl (by decide +kernel) ⟨Nat.le_of_ble_eq_true rfl, Nat.le_of_ble_eq_true rfl⟩ [5] [0, 1, 2, 3, 4, 6] rfl rfl rfl rfl (by decide) (fun _ _ => trivial) (trivial) rfl rfl hl.1 (Nat.le_of_ble_eq_true rfl) ⟨Nat.le_of_ble_eq_true rfl, Nat.le_of_ble_eq_true rfl⟩ dX7_first_21 (fun _ H locs _ hW => ?_)
  have hW : gW g A s.heap H _ [(x1, .inr (1, [.ref y1, .ref y2, .ref y3, .ref y4, .int (iI 1), .int (iI 1), .int (iI 0)])), (y1, gI g 1 (eK E0)), (y2, gI g 1 (eU E0)), (y3, gI g 1 (eL E0)), (y4, gI g 1 (eV E0)), (q2, .inr (6, [.int (iI 97)])), (q1, .inr (7, [.ref q2, .ref x1, .ref x1, .ref x1, .ref x1]))] := hW
  refine W.eq (g2 := F0 m 24 ls [.ref q1]) rfl ?_
  exact q_aret S0 hr (Or.inl ⟨_, rfl⟩) hlocks (q1, q2, x1, y1, y2, y3, y4) (trivial) (Or.inr ⟨_, rfl⟩) (rfl) (hW.sub [6, 5, 0, 1, 2, 3, 4] rfl (rfl)) (Nat.le_of_ble_eq_true rfl) (Nat.le_of_ble_eq_true rfl) dX7_first_24
set_option maxHeartbeats 4000000 in
set_option maxRecDepth 100000 in
theorem c_X5_forget (l : Launch) (g : GG) (rk t0 q0 t1 q1 t2 q2 t3 q3 t4 q4 t5 q5 sa : Nat) (r : RT) : qMet l yX5_forget wsX5_forget ({ frames := 2, cells := 0, slots := 0, locals := 44 }) g [.ref rk] [(rk, .inr (5, [.ref t0, .ref t1, .ref t2, .ref t3, .ref t4, .ref t5, .ref sa])), (t0, .inr (8, [.int (iI 199), .ref q0])), (q0, gI g 796 (rV r)), (t1, .inr (8, [.int (iI 199), .ref q1])), (q1, gI g 796 (rH r)), (t2, .inr (8, [.int (iI 199), .ref q2])), (q2, gI g 796 (rR r)), (t3, .inr (8, [.int (iI 40), .ref q3])), (q3, gI g 160 (nV r)), (t4, .inr (8, [.int (iI 40), .ref q4])), (q4, gI g 160 (nS r)), (t5, .inr (8, [.int (iI 40), .ref q5])), (q5, gI g 160 (nW r))] (fun _ => True) (fun _ => True) (S := Unit) (fun _ => none) (fun _ => [(rk, .inr (5, [.ref t0, .ref t1, .ref t2, .ref t3, .ref t4, .ref t5, .ref sa])), (t0, .inr (8, [.int (iI 199), .ref q0])), (q0, gI g 796 (rV ((mkR (fillf 796 (-2) (rV r)) (fillf 796 (-2) (rH r)) (fillf 796 (-2) (rR r)) (nV r) (nS r) (nW r))))), (t1, .inr (8, [.int (iI 199), .ref q1])), (q1, gI g 796 (rH ((mkR (fillf 796 (-2) (rV r)) (fillf 796 (-2) (rH r)) (fillf 796 (-2) (rR r)) (nV r) (nS r) (nW r))))), (t2, .inr (8, [.int (iI 199), .ref q2])), (q2, gI g 796 (rR ((mkR (fillf 796 (-2) (rV r)) (fillf 796 (-2) (rH r)) (fillf 796 (-2) (rR r)) (nV r) (nS r) (nW r))))), (t3, .inr (8, [.int (iI 40), .ref q3])), (q3, gI g 160 (nV ((mkR (fillf 796 (-2) (rV r)) (fillf 796 (-2) (rH r)) (fillf 796 (-2) (rR r)) (nV r) (nS r) (nW r))))), (t4, .inr (8, [.int (iI 40), .ref q4])), (q4, gI g 160 (nS ((mkR (fillf 796 (-2) (rV r)) (fillf 796 (-2) (rH r)) (fillf 796 (-2) (rR r)) (nV r) (nS r) (nW r))))), (t5, .inr (8, [.int (iI 40), .ref q5])), (q5, gI g 160 (nW ((mkR (fillf 796 (-2) (rV r)) (fillf 796 (-2) (rH r)) (fillf 796 (-2) (rR r)) (nV r) (nS r) (nW r)))))]) (fun _ => True) 0 0 := by
  refine q_ofW (cc := cX5_forget) (maxL := 1) (ret := none) (fun sz h => h.self) (by decide) rfl (Nat.le_of_ble_eq_true rfl) ?_
  intro p e s m args below meth c A ls S0 hr hlocks hnme hK hA hAe hW hD0 hX hl
  have hW : gW g A s.heap s.heap [] [(rk, .inr (5, [.ref t0, .ref t1, .ref t2, .ref t3, .ref t4, .ref t5, .ref sa])), (t0, .inr (8, [.int (iI 199), .ref q0])), (q0, gI g 796 (rV r)), (t1, .inr (8, [.int (iI 199), .ref q1])), (q1, gI g 796 (rH r)), (t2, .inr (8, [.int (iI 199), .ref q2])), (q2, gI g 796 (rR r)), (t3, .inr (8, [.int (iI 40), .ref q3])), (q3, gI g 160 (nV r)), (t4, .inr (8, [.int (iI 40), .ref q4])), (q4, gI g 160 (nS r)), (t5, .inr (8, [.int (iI 40), .ref q5])), (q5, gI g 160 (nW r))] := hW
  have hl : lv_has ls 1 [(0, .ref rk)] := hl
  have hinX5 : ∀ w ∈ wsX50, w ∈ wsX5_forget := fun w h => List.mem_cons_of_mem _ (List.mem_append_left _ (List.mem_append_right _ h))
  refine lv_aload_n S0.1 S0.2.1 dX5_forget_0 rfl (lv_at hl 0 rfl) ?_
  refine q_get (C := RX5) (T := TX5) (N := 7) S0 hK hW.1 hinX5 0 rfl rfl 0 (by decide) (List.mem_of_getElem? (i := 1) rfl) rfl rfl dX5_forget_1 ?_
  refine q_bipush S0 (by decide) dX5_forget_4 ?_
  refine q_cV (n := 1) (rest := []) (wr := [(rk, .inr (5, [.ref t0, .ref t1, .ref t2, .ref t3, .ref t4, .ref t5, .ref sa])), (t1, .inr (8, [.int (iI 199), .ref q1])), (q1, gI g 796 (rH r)), (t2, .inr (8, [.int (iI 199), .ref q2])), (q2, gI g 796 (rR r)), (t3, .inr (8, [.int (iI 40), .ref q3])), (q3, gI g 160 (nV r)), (t4, .inr (8, [.int (iI 40), .ref q4])), (q4, gI g 160 (nS r)), (t5, .inr (8, [.int (iI 40), .ref q5])), (q5, gI g 160 (nW r))]) S0 hK hA hW (c_X8_fill l g t0 q0 796 199 (rV r) ((-2)) (by omega)) gX5_forget_X8_fill rfl rfl rfl (by decide +kernel) ⟨Nat.le_of_ble_eq_true rfl, Nat.le_of_ble_eq_true rfl⟩ [1, 2] [0, 3, 4, 5, 6, 7, 8, 9, 10, 11, 12] rfl rfl rfl rfl (by decide) (q_recv hK hW.1 (ci := 8) (q0 := 1) rfl rfl) (fun _ _ => trivial) (trivial) rfl rfl hl.1 (Nat.le_of_ble_eq_true rfl) ⟨Nat.le_of_ble_eq_true rfl, Nat.le_of_ble_eq_true rfl⟩ dX5_forget_6 (fun _ H locs _ hW => ?_)
  have hW : gW g A s.heap H _ [(rk, .inr (5, [.ref t0, .ref t1, .ref t2, .ref t3, .ref t4, .ref t5, .ref sa])), (t1, .inr (8, [.int (iI 199), .ref q1])), (q1, gI g 796 (rH r)), (t2, .inr (8, [.int (iI 199), .ref q2])), (q2, gI g 796 (rR r)), (t3, .inr (8, [.int (iI 40), .ref q3])), (q3, gI g 160 (nV r)), (t4, .inr (8, [.int (iI 40), .ref q4])), (q4, gI g 160 (nS r)), (t5, .inr (8, [.int (iI 40), .ref q5])), (q5, gI g 160 (nW r)), (t0, .inr (8, [.int (iI 199), .ref q0])), (q0, gI g 796 (fillf 796 ((-2)) (rV r)))] := hW
  refine W.eq (g2 := F0 m 9 ls []) rfl ?_
  refine lv_aload_n S0.1 S0.2.1 dX5_forget_9 rfl (lv_at hl 0 rfl) ?_
  refine q_get (C := RX5) (T := TX5) (N := 7) S0 hK hW.1 hinX5 0 rfl rfl 1 (by decide) (List.mem_of_getElem? (i := 2) rfl) rfl rfl dX5_forget_10 ?_
  refine q_bipush S0 (by decide) dX5_forget_13 ?_
  refine q_cV (n := 1) (rest := []) (wr := [(rk, .inr (5, [.ref t0, .ref t1, .ref t2, .ref t3, .ref t4, .ref t5, .ref sa])), (t2, .inr (8, [.int (iI 199), .ref q2])), (q2, gI g 796 (rR r)), (t3, .inr (8, [.int (iI 40), .ref q3])), (q3, gI g 160 (nV r)), (t4, .inr (8, [.int (iI 40), .ref q4])), (q4, gI g 160 (nS r)), (t5, .inr (8, [.int (iI 40), .ref q5])), (q5, gI g 160 (nW r)), (t0, .inr (8, [.int (iI 199), .ref q0])), (q0, gI g 796 (fillf 796 ((-2)) (rV r)))]) S0 hK hA hW (c_X8_fill l g t1 q1 796 199 (rH r) ((-2)) (by omega)) gX5_forget_X8_fill rfl rfl rfl (by decide +kernel) ⟨Nat.le_of_ble_eq_true rfl, Nat.le_of_ble_eq_true rfl⟩ [1, 2] [0, 3, 4, 5, 6, 7, 8, 9, 10, 11, 12] rfl rfl rfl rfl (by decide) (q_recv hK hW.1 (ci := 8) (q0 := 1) rfl rfl) (fun _ _ => trivial) (trivial) rfl rfl hl.1 (Nat.le_of_ble_eq_true rfl) ⟨Nat.le_of_ble_eq_true rfl, Nat.le_of_ble_eq_true rfl⟩ dX5_forget_15 (fun _ H locs _ hW => ?_)
  have hW : gW g A s.heap H _ [(rk, .inr (5, [.ref t0, .ref t1, .ref t2, .ref t3, .ref t4, .ref t5, .ref sa])), (t2, .inr (8, [.int (iI 199), .ref q2])), (q2, gI g 796 (rR r)), (t3, .inr (8, [.int (iI 40), .ref q3])), (q3, gI g 160 (nV r)), (t4, .inr (8, [.int (iI 40), .ref q4])), (q4, gI g 160 (nS r)), (t5, .inr (8, [.int (iI 40), .ref q5])), (q5, gI g 160 (nW r)), (t0, .inr (8, [.int (iI 199), .ref q0])), (q0, gI g 796 (fillf 796 ((-2)) (rV r))), (t1, .inr (8, [.int (iI 199), .ref q1])), (q1, gI g 796 (fillf 796 ((-2)) (rH r)))] := hW
  refine W.eq (g2 := F0 m 18 ls []) rfl ?_
  refine lv_aload_n S0.1 S0.2.1 dX5_forget_18 rfl (lv_at hl 0 rfl) ?_
  refine q_get (C := RX5) (T := TX5) (N := 7) S0 hK hW.1 hinX5 0 rfl rfl 2 (by decide) (List.mem_of_getElem? (i := 3) rfl) rfl rfl dX5_forget_19 ?_
  refine q_bipush S0 (by decide) dX5_forget_22 ?_
  refine q_cV (n := 1) (rest := []) (wr := [(rk, .inr (5, [.ref t0, .ref t1, .ref t2, .ref t3, .ref t4, .ref t5, .ref sa])), (t3, .inr (8, [.int (iI 40), .ref q3])), (q3, gI g 160 (nV r)), (t4, .inr (8, [.int (iI 40), .ref q4])), (q4, gI g 160 (nS r)), (t5, .inr (8, [.int (iI 40), .ref q5])), (q5, gI g 160 (nW r)), (t0, .inr (8, [.int (iI 199), .ref q0])), (q0, gI g 796 (fillf 796 ((-2)) (rV r))), (t1, .inr (8, [.int (iI 199), .ref q1])), (q1, gI g 796 (fillf 796 ((-2)) (rH r)))]) S0 hK hA hW (c_X8_fill l g t2 q2 796 199 (rR r) ((-2)) (by omega)) gX5_forget_X8_fill rfl rfl rfl (by decide +kernel) ⟨Nat.le_of_ble_eq_true rfl, Nat.le_of_ble_eq_true rfl⟩ [1, 2] [0, 3, 4, 5, 6, 7, 8, 9, 10, 11, 12] rfl rfl rfl rfl (by decide) (q_recv hK hW.1 (ci := 8) (q0 := 1) rfl rfl) (fun _ _ => trivial) (trivial) rfl rfl hl.1 (Nat.le_of_ble_eq_true rfl) ⟨Nat.le_of_ble_eq_true rfl, Nat.le_of_ble_eq_true rfl⟩ dX5_forget_24 (fun _ H locs _ hW => ?_)
  have hW : gW g A s.heap H _ [(rk, .inr (5, [.ref t0, .ref t1, .ref t2, .ref t3, .ref t4, .ref t5, .ref sa])), (t3, .inr (8, [.int (iI 40), .ref q3])), (q3, gI g 160 (nV r)), (t4, .inr (8, [.int (iI 40), .ref q4])), (q4, gI g 160 (nS r)), (t5, .inr (8, [.int (iI 40), .ref q5])), (q5, gI g 160 (nW r)), (t0, .inr (8, [.int (iI 199), .ref q0])), (q0, gI g 796 (fillf 796 ((-2)) (rV r))), (t1, .inr (8, [.int (iI 199), .ref q1])), (q1, gI g 796 (fillf 796 ((-2)) (rH r))), (t2, .inr (8, [.int (iI 199), .ref q2])), (q2, gI g 796 (fillf 796 ((-2)) (rR r)))] := hW
  refine W.eq (g2 := F0 m 27 ls []) rfl ?_
  exact q_vret S0 hr hlocks () (trivial) rfl (hW.sub [0, 7, 8, 9, 10, 11, 12, 1, 2, 3, 4, 5, 6] rfl (rfl)) (Nat.le_of_ble_eq_true rfl) (Nat.le_of_ble_eq_true rfl) dX5_forget_27
set_option maxHeartbeats 4000000 in
set_option maxRecDepth 100000 in
theorem c_X5_moveTo (l : Launch) (g : GG) (rk t0 q0 t1 q1 t2 q2 t3 q3 t4 q4 t5 q5 sa : Nat) (r : RT) (sb : Nat) : qMet l yX5_moveTo wsX5_moveTo ({ frames := 3, cells := 0, slots := 0, locals := 64 }) g [.ref rk, .ref sb] [(rk, .inr (5, [.ref t0, .ref t1, .ref t2, .ref t3, .ref t4, .ref t5, .ref sa])), (t0, .inr (8, [.int (iI 199), .ref q0])), (q0, gI g 796 (rV r)), (t1, .inr (8, [.int (iI 199), .ref q1])), (q1, gI g 796 (rH r)), (t2, .inr (8, [.int (iI 199), .ref q2])), (q2, gI g 796 (rR r)), (t3, .inr (8, [.int (iI 40), .ref q3])), (q3, gI g 160 (nV r)), (t4, .inr (8, [.int (iI 40), .ref q4])), (q4, gI g 160 (nS r)), (t5, .inr (8, [.int (iI 40), .ref q5])), (q5, gI g 160 (nW r))] (fun _ => True) (fun _ => True) (S := Unit) (fun _ => none) (fun _ => [(rk, .inr (5, [.ref t0, .ref t1, .ref t2, .ref t3, .ref t4, .ref t5, .ref sb])), (t0, .inr (8, [.int (iI 199), .ref q0])), (q0, gI g 796 (rV ((mkR (fillf 796 (-2) (rV r)) (fillf 796 (-2) (rH r)) (fillf 796 (-2) (rR r)) (nV r) (nS r) (nW r))))), (t1, .inr (8, [.int (iI 199), .ref q1])), (q1, gI g 796 (rH ((mkR (fillf 796 (-2) (rV r)) (fillf 796 (-2) (rH r)) (fillf 796 (-2) (rR r)) (nV r) (nS r) (nW r))))), (t2, .inr (8, [.int (iI 199), .ref q2])), (q2, gI g 796 (rR ((mkR (fillf 796 (-2) (rV r)) (fillf 796 (-2) (rH r)) (fillf 796 (-2) (rR r)) (nV r) (nS r) (nW r))))), (t3, .inr (8, [.int (iI 40), .ref q3])), (q3, gI g 160 (nV ((mkR (fillf 796 (-2) (rV r)) (fillf 796 (-2) (rH r)) (fillf 796 (-2) (rR r)) (nV r) (nS r) (nW r))))), (t4, .inr (8, [.int (iI 40), .ref q4])), (q4, gI g 160 (nS ((mkR (fillf 796 (-2) (rV r)) (fillf 796 (-2) (rH r)) (fillf 796 (-2) (rR r)) (nV r) (nS r) (nW r))))), (t5, .inr (8, [.int (iI 40), .ref q5])), (q5, gI g 160 (nW ((mkR (fillf 796 (-2) (rV r)) (fillf 796 (-2) (rH r)) (fillf 796 (-2) (rR r)) (nV r) (nS r) (nW r)))))]) (fun _ => True) 0 0 := by
  refine q_ofW (cc := cX5_moveTo) (maxL := 2) (ret := none) (fun sz h => h.self) (by decide) rfl (Nat.le_of_ble_eq_true rfl) ?_
  intro p e s m args below meth c A ls S0 hr hlocks hnme hK hA hAe hW hD0 hX hl
  have hW : gW g A s.heap s.heap [] [(rk, .inr (5, [.ref t0, .ref t1, .ref t2, .ref t3, .ref t4, .ref t5, .ref sa])), (t0, .inr (8, [.int (iI 199), .ref q0])), (q0, gI g 796 (rV r)), (t1, .inr (8, [.int (iI 199), .ref q1])), (q1, gI g 796 (rH r)), (t2, .inr (8, [.int (iI 199), .ref q2])), (q2, gI g 796 (rR r)), (t3, .inr (8, [.int (iI 40), .ref q3])), (q3, gI g 160 (nV r)), (t4, .inr (8, [.int (iI 40), .ref q4])), (q4, gI g 160 (nS r)), (t5, .inr (8, [.int (iI 40), .ref q5])), (q5, gI g 160 (nW r))] := hW
  have hl : lv_has ls 2 [(0, .ref rk), (1, .ref sb)] := hl
  have hinX5 : ∀ w ∈ wsX50, w ∈ wsX5_moveTo := fun w h => List.mem_cons_of_mem _ (List.mem_append_left _ (List.mem_append_right _ h))
  refine lv_aload_n S0.1 S0.2.1 dX5_moveTo_0 rfl (lv_at hl 0 rfl) ?_
  refine lv_aload_n S0.1 S0.2.1 dX5_moveTo_1 rfl (lv_at hl 1 rfl) ?_
  refine q_put (C := RX5) (T := TX5) (N := 7) S0 hK hW hinX5 tyX5_ok nmX5 0 rfl rfl 6 (by decide) (List.mem_of_getElem? (i := 1) rfl) rfl rfl rfl rfl (Nat.le_of_ble_eq_true rfl) dX5_moveTo_2 (fun H locs hW => ?_)
  have hW : gW g A s.heap H _ [(rk, .inr (5, [.ref t0, .ref t1, .ref t2, .ref t3, .ref t4, .ref t5, .ref sb])), (t0, .inr (8, [.int (iI 199), .ref q0])), (q0, gI g 796 (rV r)), (t1, .inr (8, [.int (iI 199), .ref q1])), (q1, gI g 796 (rH r)), (t2, .inr (8, [.int (iI 199), .ref q2])), (q2, gI g 796 (rR r)), (t3, .inr (8, [.int (iI 40), .ref q3])), (q3, gI g 160 (nV r)), (t4, .inr (8, [.int (iI 40), .ref q4])), (q4, gI g 160 (nS r)), (t5, .inr (8, [.int (iI 40), .ref q5])), (q5, gI g 160 (nW r))] := hW
  refine lv_aload_n S0.1 S0.2.1 dX5_moveTo_5 rfl (lv_at hl 0 rfl) ?_
  refine q_cV (n := 0) (rest := []) (wr := []) S0 hK hA hW (c_X5_forget l g rk t0 q0 t1 q1 t2 q2 t3 q3 t4 q4 t5 q5 sb r) gX5_moveTo_X5_forget rfl rfl rfl (by decide +kernel) ⟨Nat.le_of_ble_eq_true rfl, Nat.le_of_ble_eq_true rfl⟩ [0, 1, 2, 3, 4, 5, 6, 7, 8, 9, 10, 11, 12] [] rfl rfl rfl rfl (by decide) (q_recv hK hW.1 (ci := 5) (q0 := 0) rfl rfl) (fun _ _ => trivial) (trivial) rfl rfl hl.1 (Nat.le_of_ble_eq_true rfl) ⟨Nat.le_of_ble_eq_true rfl, Nat.le_of_ble_eq_true rfl⟩ dX5_moveTo_6 (fun _ H locs _ hW => ?_)
  have hW : gW g A s.heap H _ [(rk, .inr (5, [.ref t0, .ref t1, .ref t2, .ref t3, .ref t4, .ref t5, .ref sb])), (t0, .inr (8, [.int (iI 199), .ref q0])), (q0, gI g 796 (rV ((mkR (fillf 796 (-2) (rV r)) (fillf 796 (-2) (rH r)) (fillf 796 (-2) (rR r)) (nV r) (nS r) (nW r))))), (t1, .inr (8, [.int (iI 199), .ref q1])), (q1, gI g 796 (rH ((mkR (fillf 796 (-2) (rV r)) (fillf 796 (-2) (rH r)) (fillf 796 (-2) (rR r)) (nV r) (nS r) (nW r))))), (t2, .inr (8, [.int (iI 199), .ref q2])), (q2, gI g 796 (rR ((mkR (fillf 796 (-2) (rV r)) (fillf 796 (-2) (rH r)) (fillf 796 (-2) (rR r)) (nV r) (nS r) (nW r))))), (t3, .inr (8, [.int (iI 40), .ref q3])), (q3, gI g 160 (nV ((mkR (fillf 796 (-2) (rV r)) (fillf 796 (-2) (rH r)) (fillf 796 (-2) (rR r)) (nV r) (nS r) (nW r))))), (t4, .inr (8, [.int (iI 40), .ref q4])), (q4, gI g 160 (nS ((mkR (fillf 796 (-2) (rV r)) (fillf 796 (-2) (rH r)) (fillf 796 (-2) (rR r)) (nV r) (nS r) (nW r))))), (t5, .inr (8, [.int (iI 40), .ref q5])), (q5, gI g 160 (nW ((mkR (fillf 796 (-2) (rV r)) (fillf 796 (-2) (rH r)) (fillf 796 (-2) (rR r)) (nV r) (nS r) (nW r)))))] := hW
  refine W.eq (g2 := F0 m 9 ls []) rfl ?_
  exact q_vret S0 hr hlocks () (trivial) rfl (hW.sub [0, 1, 2, 3, 4, 5, 6, 7, 8, 9, 10, 11, 12] rfl (rfl)) (Nat.le_of_ble_eq_true rfl) (Nat.le_of_ble_eq_true rfl) dX5_moveTo_9
set_option maxHeartbeats 4000000 in
set_option maxRecDepth 100000 in
theorem c_X5_init (l : Launch) (g : GG) (rk : Nat) : qMet l yX5_init wsX5_init ({ frames := 4, cells := 19, slots := 2897, locals := 84 }) g [.ref rk] [(rk, .inr (5, [.null, .null, .null, .null, .null, .null, .null]))] (fun _ => True) (fun _ => True) (S := Nat × Nat × Nat × Nat × Nat × Nat × Nat × Nat × Nat × Nat × Nat × Nat × Nat × Nat × Nat × Nat × Nat × Nat × Nat) (fun _ => none) (fun u_ => [(rk, .inr (5, [.ref u_.1, .ref u_.2.2.1, .ref u_.2.2.2.2.1, .ref u_.2.2.2.2.2.2.1, .ref u_.2.2.2.2.2.2.2.2.1, .ref u_.2.2.2.2.2.2.2.2.2.2.1, .ref u_.2.2.2.2.2.2.2.2.2.2.2.2.1])), (u_.1, .inr (8, [.int (iI 199), .ref u_.2.1])), (u_.2.1, gI g 796 (rV ((mkR (fillf 796 (-2) (fun _ => 0)) (fillf 796 (-2) (fun _ => 0)) (fillf 796 (-2) (fun _ => 0)) (fun _ => 0) (fun _ => 0) (fun _ => 0))))), (u_.2.2.1, .inr (8, [.int (iI 199), .ref u_.2.2.2.1])), (u_.2.2.2.1, gI g 796 (rH ((mkR (fillf 796 (-2) (fun _ => 0)) (fillf 796 (-2) (fun _ => 0)) (fillf 796 (-2) (fun _ => 0)) (fun _ => 0) (fun _ => 0) (fun _ => 0))))), (u_.2.2.2.2.1, .inr (8, [.int (iI 199), .ref u_.2.2.2.2.2.1])), (u_.2.2.2.2.2.1, gI g 796 (rR ((mkR (fillf 796 (-2) (fun _ => 0)) (fillf 796 (-2) (fun _ => 0)) (fillf 796 (-2) (fun _ => 0)) (fun _ => 0) (fun _ => 0) (fun _ => 0))))), (u_.2.2.2.2.2.2.1, .inr (8, [.int (iI 40), .ref u_.2.2.2.2.2.2.2.1])), (u_.2.2.2.2.2.2.2.1, gI g 160 (nV ((mkR (fillf 796 (-2) (fun _ => 0)) (fillf 796 (-2) (fun _ => 0)) (fillf 796 (-2) (fun _ => 0)) (fun _ => 0) (fun _ => 0) (fun _ => 0))))), (u_.2.2.2.2.2.2.2.2.1, .inr (8, [.int (iI 40), .ref u_.2.2.2.2.2.2.2.2.2.1])), (u_.2.2.2.2.2.2.2.2.2.1, gI g 160 (nS ((mkR (fillf 796 (-2) (fun _ => 0)) (fillf 796 (-2) (fun _ => 0)) (fillf 796 (-2) (fun _ => 0)) (fun _ => 0) (fun _ => 0) (fun _ => 0))))), (u_.2.2.2.2.2.2.2.2.2.2.1, .inr (8, [.int (iI 40), .ref u_.2.2.2.2.2.2.2.2.2.2.2.1])), (u_.2.2.2.2.2.2.2.2.2.2.2.1, gI g 160 (nW ((mkR (fillf 796 (-2) (fun _ => 0)) (fillf 796 (-2) (fun _ => 0)) (fillf 796 (-2) (fun _ => 0)) (fun _ => 0) (fun _ => 0) (fun _ => 0))))), (u_.2.2.2.2.2.2.2.2.2.2.2.2.1, .inr (7, [.ref u_.2.2.2.2.2.2.2.2.2.2.2.2.2.1, .ref u_.2.2.2.2.2.2.2.2.2.2.2.2.2.2.1, .ref u_.2.2.2.2.2.2.2.2.2.2.2.2.2.2.1, .ref u_.2.2.2.2.2.2.2.2.2.2.2.2.2.2.1, .ref u_.2.2.2.2.2.2.2.2.2.2.2.2.2.2.1])), (u_.2.2.2.2.2.2.2.2.2.2.2.2.2.1, .inr (6, [.int (iI 97)])), (u_.2.2.2.2.2.2.2.2.2.2.2.2.2.2.1, .inr (1, [.ref u_.2.2.2.2.2.2.2.2.2.2.2.2.2.2.2.1, .ref u_.2.2.2.2.2.2.2.2.2.2.2.2.2.2.2.2.1, .ref u_.2.2.2.2.2.2.2.2.2.2.2.2.2.2.2.2.2.1, .ref u_.2.2.2.2.2.2.2.2.2.2.2.2.2.2.2.2.2.2, .int (iI 1), .int (iI 1), .int (iI 0)])), (u_.2.2.2.2.2.2.2.2.2.2.2.2.2.2.2.1, gI g 1 (eK E0)), (u_.2.2.2.2.2.2.2.2.2.2.2.2.2.2.2.2.1, gI g 1 (eU E0)), (u_.2.2.2.2.2.2.2.2.2.2.2.2.2.2.2.2.2.1, gI g 1 (eL E0)), (u_.2.2.2.2.2.2.2.2.2.2.2.2.2.2.2.2.2.2, gI g 1 (eV E0))]) (fun _ => True) 19 2897 := by
  refine q_ofW (cc := cX5_init) (maxL := 1) (ret := none) (fun sz h => h.self) (by decide) rfl (Nat.le_of_ble_eq_true rfl) ?_
  intro p e s m args below meth c A ls S0 hr hlocks hnme hK hA hAe hW hD0 hX hl
  have hW : gW g A s.heap s.heap [] [(rk, .inr (5, [.null, .null, .null, .null, .null, .null, .null]))] := hW
  have hl : lv_has ls 1 [(0, .ref rk)] := hl
  have hinX8 : ∀ w ∈ wsX80, w ∈ wsX5_init := fun w h => List.mem_cons_of_mem _ (List.mem_append_left _ (List.mem_append_left _ (List.mem_append_left _ (List.mem_append_left _ (List.mem_append_right _ h)))))
  have hinX5 : ∀ w ∈ wsX50, w ∈ wsX5_init := fun w h => List.mem_cons_of_mem _ (List.mem_append_left _ (List.mem_append_left _ (List.mem_append_left _ (List.mem_append_right _ h))))
  refine lv_aload_n S0.1 S0.2.1 dX5_init_0 rfl (lv_at hl 0 rfl) ?_
  refine q_obj S0 (List.mem_of_getElem? (i := 1) rfl) (List.mem_of_getElem? (i := 2) rfl) (List.mem_of_getElem? (i := 3) rfl) hl.1 dX5_init_1 (Nat.le_of_ble_eq_true rfl) (Nat.le_of_ble_eq_true rfl) ?_
  refine W.eq (g2 := F0 m 4 ls []) rfl ?_
  refine lv_aload_n S0.1 S0.2.1 dX5_init_4 rfl (lv_at hl 0 rfl) ?_
  refine q_new (C := RX8) (T := TX8) (N := 2) (ci := 8) (fs := [.int (iI 0), .null]) S0 hK hA hW hinX8 tyX8_ok (List.mem_of_getElem? (i := 4) rfl) (List.mem_of_getElem? (i := 5) rfl) (List.mem_of_getElem? (i := 6) rfl) rfl (fun j hj => by match j, hj with | 0, _ => rfl | 1, _ => rfl | j + 2, hj => exact absurd hj (by omega)) (Nat.le_of_ble_eq_true rfl) (Nat.le_of_ble_eq_true rfl) dX5_init_5 (fun t0_ H hW => ?_)
  have hW : gW g A s.heap H _ [(rk, .inr (5, [.null, .null, .null, .null, .null, .null, .null])), (t0_, .inr (8, [.int (iI 0), .null]))] := hW
  refine lv_dup S0.1 S0.2.1 dX5_init_8 rfl ?_
  refine q_sipush S0 (by decide) dX5_init_9 ?_
  refine q_cI (n := 1) (rest := [.ref t0_, .ref rk]) (wr := [(rk, .inr (5, [.null, .null, .null, .null, .null, .null, .null]))]) S0 hK hA hW (c_X8_init l g t0_ 199 199 (by omega)) gX5_init_X8_init rfl rfl rfl (List.mem_of_getElem? (i := 14) rfl) (List.mem_of_getElem? (i := 6) rfl) (List.mem_of_getElem? (i := 15) rfl) rfl (by decide +kernel) ⟨Nat.le_of_ble_eq_true rfl, Nat.le_of_ble_eq_true rfl⟩ [1] [0] rfl rfl rfl rfl (by decide) (fun _ _ => trivial) (trivial) rfl rfl hl.1 (Nat.le_of_ble_eq_true rfl) ⟨Nat.le_of_ble_eq_true rfl, by decide⟩ dX5_init_12 ?_
  rintro q0_ H locs _ hW
  have hW : gW g A s.heap H _ [(rk, .inr (5, [.null, .null, .null, .null, .null, .null, .null])), (t0_, .inr (8, [.int (iI 199), .ref q0_])), (q0_, gI g (4 * 199) (fun _ => 0))] := hW
  refine W.eq (g2 := F0 m 15 ls [.ref t0_, .ref rk]) rfl ?_
  refine q_putF (C := RX5) (T := TX5) (N := 7) S0 hnme hK hW hinX5 tyX5_ok nmX5 0 rfl rfl 0 (by decide) (List.mem_of_getElem? (i := 7) rfl) rfl rfl rfl rfl rfl (Nat.le_of_ble_eq_true rfl) dX5_init_15 (fun H locs hW => ?_)
  have hW : gW g A s.heap H _ [(rk, .inr (5, [.ref t0_, .null, .null, .null, .null, .null, .null])), (t0_, .inr (8, [.int (iI 199), .ref q0_])), (q0_, gI g (4 * 199) (fun _ => 0))] := hW
  refine lv_aload_n S0.1 S0.2.1 dX5_init_18 rfl (lv_at hl 0 rfl) ?_
  refine q_new (C := RX8) (T := TX8) (N := 2) (ci := 8) (fs := [.int (iI 0), .null]) S0 hK hA hW hinX8 tyX8_ok (List.mem_of_getElem? (i := 4) rfl) (List.mem_of_getElem? (i := 5) rfl) (List.mem_of_getElem? (i := 6) rfl) rfl (fun j hj => by match j, hj with | 0, _ => rfl | 1, _ => rfl | j + 2, hj => exact absurd hj (by omega)) (Nat.le_of_ble_eq_true rfl) (Nat.le_of_ble_eq_true rfl) dX5_init_19 (fun t1_ H hW => ?_)
  have hW : gW g A s.heap H _ [(rk, .inr (5, [.ref t0_, .null, .null, .null, .null, .null, .null])), (t0_, .inr (8, [.int (iI 199), .ref q0_])), (q0_, gI g (4 * 199) (fun _ => 0)), (t1_, .inr (8, [.int (iI 0), .null]))] := hW
  refine lv_dup S0.1 S0.2.1 dX5_init_22 rfl ?_
  refine q_sipush S0 (by decide) dX5_init_23 ?_
  refine q_cI (n := 1) (rest := [.ref t1_, .ref rk]) (wr := [(rk, .inr (5, [.ref t0_, .null, .null, .null, .null, .null, .null])), (t0_, .inr (8, [.int (iI 199), .ref q0_])), (q0_, gI g (4 * 199) (fun _ => 0))]) S0 hK hA hW (c_X8_init l g t1_ 199 199 (by omega)) gX5_init_X8_init rfl rfl rfl (List.mem_of_getElem? (i := 14) rfl) (List.mem_of_getElem? (i := 6) rfl) (List.mem_of_getElem? (i := 15) rfl) rfl (by decide +kernel) ⟨Nat.le_of_ble_eq_true rfl, Nat.le_of_ble_eq_true rfl⟩ [3] [0, 1, 2] rfl rfl rfl rfl (by decide) (fun _ _ => trivial) (trivial) rfl rfl hl.1 (Nat.le_of_ble_eq_true rfl) ⟨Nat.le_of_ble_eq_true rfl, by decide⟩ dX5_init_26 ?_
  rintro q1_ H locs _ hW
  have hW : gW g A s.heap H _ [(rk, .inr (5, [.ref t0_, .null, .null, .null, .null, .null, .null])), (t0_, .inr (8, [.int (iI 199), .ref q0_])), (q0_, gI g (4 * 199) (fun _ => 0)), (t1_, .inr (8, [.int (iI 199), .ref q1_])), (q1_, gI g (4 * 199) (fun _ => 0))] := hW
  refine W.eq (g2 := F0 m 29 ls [.ref t1_, .ref rk]) rfl ?_
  refine q_putF (C := RX5) (T := TX5) (N := 7) S0 hnme hK hW hinX5 tyX5_ok nmX5 0 rfl rfl 1 (by decide) (List.mem_of_getElem? (i := 8) rfl) rfl rfl rfl rfl rfl (Nat.le_of_ble_eq_true rfl) dX5_init_29 (fun H locs hW => ?_)
  have hW : gW g A s.heap H _ [(rk, .inr (5, [.ref t0_, .ref t1_, .null, .null, .null, .null, .null])), (t0_, .inr (8, [.int (iI 199), .ref q0_])), (q0_, gI g (4 * 199) (fun _ => 0)), (t1_, .inr (8, [.int (iI 199), .ref q1_])), (q1_, gI g (4 * 199) (fun _ => 0))] := hW
  refine lv_aload_n S0.1 S0.2.1 dX5_init_32 rfl (lv_at hl 0 rfl) ?_
  refine q_new (C := RX8) (T := TX8) (N := 2) (ci := 8) (fs := [.int (iI 0), .null]) S0 hK hA hW hinX8 tyX8_ok (List.mem_of_getElem? (i := 4) rfl) (List.mem_of_getElem? (i := 5) rfl) (List.mem_of_getElem? (i := 6) rfl) rfl (fun j hj => by match j, hj with | 0, _ => rfl | 1, _ => rfl | j + 2, hj => exact absurd hj (by omega)) (Nat.le_of_ble_eq_true rfl) (Nat.le_of_ble_eq_true rfl) dX5_init_33 (fun t2_ H hW => ?_)
  have hW : gW g A s.heap H _ [(rk, .inr (5, [.ref t0_, .ref t1_, .null, .null, .null, .null, .null])), (t0_, .inr (8, [.int (iI 199), .ref q0_])), (q0_, gI g (4 * 199) (fun _ => 0)), (t1_, .inr (8, [.int (iI 199), .ref q1_])), (q1_, gI g (4 * 199) (fun _ => 0)), (t2_, .inr (8, [.int (iI 0), .null]))] := hW
  refine lv_dup S0.1 S0.2.1 dX5_init_36 rfl ?_
  refine q_sipush S0 (by decide) dX5_init_37 ?_
  refine q_cI (n := 1) (rest := [.ref t2_, .ref rk]) (wr := [(rk, .inr (5, [.ref t0_, .ref t1_, .null, .null, .null, .null, .null])), (t0_, .inr (8, [.int (iI 199), .ref q0_])), (q0_, gI g (4 * 199) (fun _ => 0)), (t1_, .inr (8, [.int (iI 199), .ref q1_])), (q1_, gI g (4 * 199) (fun _ => 0))]) S0 hK hA hW (c_X8_init l g t2_ 199 199 (by omega)) gX5_init_X8_init rfl rfl rfl (List.mem_of_getElem? (i := 14) rfl) (List.mem_of_getElem? (i := 6) rfl) (List.mem_of_getElem? (i := 15) rfl) rfl (by decide +kernel) ⟨Nat.le_of_ble_eq_true rfl, Nat.le_of_ble_eq_true rfl⟩ [5] [0, 1, 2, 3, 4] rfl rfl rfl rfl (by decide) (fun _ _ => trivial) (trivial) rfl rfl hl.1 (Nat.le_of_ble_eq_true rfl) ⟨Nat.le_of_ble_eq_true rfl, by decide⟩ dX5_init_40 ?_
  rintro q2_ H locs _ hW
  have hW : gW g A s.heap H _ [(rk, .inr (5, [.ref t0_, .ref t1_, .null, .null, .null, .null, .null])), (t0_, .inr (8, [.int (iI 199), .ref q0_])), (q0_, gI g (4 * 199) (fun _ => 0)), (t1_, .inr (8, [.int (iI 199), .ref q1_])), (q1_, gI g (4 * 199) (fun _ => 0)), (t2_, .inr (8, [.int (iI 199), .ref q2_])), (q2_, gI g (4 * 199) (fun _ => 0))] := hW
  refine W.eq (g2 := F0 m 43 ls [.ref t2_, .ref rk]) rfl ?_
  refine q_putF (C := RX5) (T := TX5) (N := 7) S0 hnme hK hW hinX5 tyX5_ok nmX5 0 rfl rfl 2 (by decide) (List.mem_of_getElem? (i := 9) rfl) rfl rfl rfl rfl rfl (Nat.le_of_ble_eq_true rfl) dX5_init_43 (fun H locs hW => ?_)
  have hW : gW g A s.heap H _ [(rk, .inr (5, [.ref t0_, .ref t1_, .ref t2_, .null, .null, .null, .null])), (t0_, .inr (8, [.int (iI 199), .ref q0_])), (q0_, gI g (4 * 199) (fun _ => 0)), (t1_, .inr (8, [.int (iI 199), .ref q1_])), (q1_, gI g (4 * 199) (fun _ => 0)), (t2_, .inr (8, [.int (iI 199), .ref q2_])), (q2_, gI g (4 * 199) (fun _ => 0))] := hW
  refine lv_aload_n S0.1 S0.2.1 dX5_init_46 rfl (lv_at hl 0 rfl) ?_
  refine q_new (C := RX8) (T := TX8) (N := 2) (ci := 8) (fs := [.int (iI 0), .null]) S0 hK hA hW hinX8 tyX8_ok (List.mem_of_getElem? (i := 4) rfl) (List.mem_of_getElem? (i := 5) rfl) (List.mem_of_getElem? (i := 6) rfl) rfl (fun j hj => by match j, hj with | 0, _ => rfl | 1, _ => rfl | j + 2, hj => exact absurd hj (by omega)) (Nat.le_of_ble_eq_true rfl) (Nat.le_of_ble_eq_true rfl) dX5_init_47 (fun t3_ H hW => ?_)
  have hW : gW g A s.heap H _ [(rk, .inr (5, [.ref t0_, .ref t1_, .ref t2_, .null, .null, .null, .null])), (t0_, .inr (8, [.int (iI 199), .ref q0_])), (q0_, gI g (4 * 199) (fun _ => 0)), (t1_, .inr (8, [.int (iI 199), .ref q1_])), (q1_, gI g (4 * 199) (fun _ => 0)), (t2_, .inr (8, [.int (iI 199), .ref q2_])), (q2_, gI g (4 * 199) (fun _ => 0)), (t3_, .inr (8, [.int (iI 0), .null]))] := hW
  refine lv_dup S0.1 S0.2.1 dX5_init_50 rfl ?_
  refine q_bipush S0 (by decide) dX5_init_51 ?_
  refine q_cI (n := 1) (rest := [.ref t3_, .ref rk]) (wr := [(rk, .inr (5, [.ref t0_, .ref t1_, .ref t2_, .null, .null, .null, .null])), (t0_, .inr (8, [.int (iI 199), .ref q0_])), (q0_, gI g (4 * 199) (fun _ => 0)), (t1_, .inr (8, [.int (iI 199), .ref q1_])), (q1_, gI g (4 * 199) (fun _ => 0)), (t2_, .inr (8, [.int (iI 199), .ref q2_])), (q2_, gI g (4 * 199) (fun _ => 0))]) S0 hK hA hW (c_X8_init l g t3_ 40 40 (by omega)) gX5_init_X8_init rfl rfl rfl (List.mem_of_getElem? (i := 14) rfl) (List.mem_of_getElem? (i := 6) rfl) (List.mem_of_getElem? (i := 15) rfl) rfl (by decide +kernel) ⟨Nat.le_of_ble_eq_true rfl, Nat.le_of_ble_eq_true rfl⟩ [7] [0, 1, 2, 3, 4, 5, 6] rfl rfl rfl rfl (by decide) (fun _ _ => trivial) (trivial) rfl rfl hl.1 (Nat.le_of_ble_eq_true rfl) ⟨Nat.le_of_ble_eq_true rfl, by decide⟩ dX5_init_53 ?_
  rintro q3_ H locs _ hW
  have hW : gW g A s.heap H _ [(rk, .inr (5, [.ref t0_, .ref t1_, .ref t2_, .null, .null, .null, .null])), (t0_, .inr (8, [.int (iI 199), .ref q0_])), (q0_, gI g (4 * 199) (fun _ => 0)), (t1_, .inr (8, [.int (iI 199), .ref q1_])), (q1_, gI g (4 * 199) (fun _ => 0)), (t2_, .inr (8, [.int (iI 199), .ref q2_])), (q2_, gI g (4 * 199) (fun _ => 0)), (t3_, .inr (8, [.int (iI 40), .ref q3_])), (q3_, gI g (4 * 40) (fun _ => 0))] := hW
  refine W.eq (g2 := F0 m 56 ls [.ref t3_, .ref rk]) rfl ?_
  refine q_putF (C := RX5) (T := TX5) (N := 7) S0 hnme hK hW hinX5 tyX5_ok nmX5 0 rfl rfl 3 (by decide) (List.mem_of_getElem? (i := 10) rfl) rfl rfl rfl rfl rfl (Nat.le_of_ble_eq_true rfl) dX5_init_56 (fun H locs hW => ?_)
  have hW : gW g A s.heap H _ [(rk, .inr (5, [.ref t0_, .ref t1_, .ref t2_, .ref t3_, .null, .null, .null])), (t0_, .inr (8, [.int (iI 199), .ref q0_])), (q0_, gI g (4 * 199) (fun _ => 0)), (t1_, .inr (8, [.int (iI 199), .ref q1_])), (q1_, gI g (4 * 199) (fun _ => 0)), (t2_, .inr (8, [.int (iI 199), .ref q2_])), (q2_, gI g (4 * 199) (fun _ => 0)), (t3_, .inr (8, [.int (iI 40), .ref q3_])), (q3_, gI g (4 * 40) (fun _ => 0))] := hW
  refine lv_aload_n S0.1 S0.2.1 dX5_init_59 rfl (lv_at hl 0 rfl) ?_
  refine q_new (C := RX8) (T := TX8) (N := 2) (ci := 8) (fs := [.int (iI 0), .null]) S0 hK hA hW hinX8 tyX8_ok (List.mem_of_getElem? (i := 4) rfl) (List.mem_of_getElem? (i := 5) rfl) (List.mem_of_getElem? (i := 6) rfl) rfl (fun j hj => by match j, hj with | 0, _ => rfl | 1, _ => rfl | j + 2, hj => exact absurd hj (by omega)) (Nat.le_of_ble_eq_true rfl) (Nat.le_of_ble_eq_true rfl) dX5_init_60 (fun t4_ H hW => ?_)
  have hW : gW g A s.heap H _ [(rk, .inr (5, [.ref t0_, .ref t1_, .ref t2_, .ref t3_, .null, .null, .null])), (t0_, .inr (8, [.int (iI 199), .ref q0_])), (q0_, gI g (4 * 199) (fun _ => 0)), (t1_, .inr (8, [.int (iI 199), .ref q1_])), (q1_, gI g (4 * 199) (fun _ => 0)), (t2_, .inr (8, [.int (iI 199), .ref q2_])), (q2_, gI g (4 * 199) (fun _ => 0)), (t3_, .inr (8, [.int (iI 40), .ref q3_])), (q3_, gI g (4 * 40) (fun _ => 0)), (t4_, .inr (8, [.int (iI 0), .null]))] := hW
  refine lv_dup S0.1 S0.2.1 dX5_init_63 rfl ?_
  refine q_bipush S0 (by decide) dX5_init_64 ?_
  refine q_cI (n := 1) (rest := [.ref t4_, .ref rk]) (wr := [(rk, .inr (5, [.ref t0_, .ref t1_, .ref t2_, .ref t3_, .null, .null, .null])), (t0_, .inr (8, [.int (iI 199), .ref q0_])), (q0_, gI g (4 * 199) (fun _ => 0)), (t1_, .inr (8, [.int (iI 199), .ref q1_])), (q1_, gI g (4 * 199) (fun _ => 0)), (t2_, .inr (8, [.int (iI 199), .ref q2_])), (q2_, gI g (4 * 199) (fun _ => 0)), (t3_, .inr (8, [.int (iI 40), .ref q3_])), (q3_, gI g (4 * 40) (fun _ => 0))]) S0 hK hA hW (c_X8_init l g t4_ 40 40 (by omega)) gX5_init_X8_init rfl rfl rfl (List.mem_of_getElem? (i := 14) rfl) (List.mem_of_getElem? (i := 6) rfl) (List.mem_of_getElem? (i := 15) rfl) rfl (by decide +kernel) ⟨Nat.le_of_ble_eq_true rfl, Nat.le_of_ble_eq_true rfl⟩ [9] [0, 1, 2, 3, 4, 5, 6, 7, 8] rfl rfl rfl rfl (by decide) (fun _ _ => trivial) (trivial) rfl rfl hl.1 (Nat.le_of_ble_eq_true rfl) ⟨Nat.le_of_ble_eq_true rfl, by decide⟩ dX5_init_66 ?_
  rintro q4_ H locs _ hW
  have hW : gW g A s.heap H _ [(rk, .inr (5, [.ref t0_, .ref t1_, .ref t2_, .ref t3_, .null, .null, .null])), (t0_, .inr (8, [.int (iI 199), .ref q0_])), (q0_, gI g (4 * 199) (fun _ => 0)), (t1_, .inr (8, [.int (iI 199), .ref q1_])), (q1_, gI g (4 * 199) (fun _ => 0)), (t2_, .inr (8, [.int (iI 199), .ref q2_])), (q2_, gI g (4 * 199) (fun _ => 0)), (t3_, .inr (8, [.int (iI 40), .ref q3_])), (q3_, gI g (4 * 40) (fun _ => 0)), (t4_, .inr (8, [.int (iI 40), .ref q4_])), (q4_, gI g (4 * 40) (fun _ => 0))] := hW
  refine W.eq (g2 := F0 m 69 ls [.ref t4_, .ref rk]) rfl ?_
  refine q_putF (C := RX5) (T := TX5) (N := 7) S0 hnme hK hW hinX5 tyX5_ok nmX5 0 rfl rfl 4 (by decide) (List.mem_of_getElem? (i := 11) rfl) rfl rfl rfl rfl rfl (Nat.le_of_ble_eq_true rfl) dX5_init_69 (fun H locs hW => ?_)
  have hW : gW g A s.heap H _ [(rk, .inr (5, [.ref t0_, .ref t1_, .ref t2_, .ref t3_, .ref t4_, .null, .null])), (t0_, .inr (8, [.int (iI 199), .ref q0_])), (q0_, gI g (4 * 199) (fun _ => 0)), (t1_, .inr (8, [.int (iI 199), .ref q1_])), (q1_, gI g (4 * 199) (fun _ => 0)), (t2_, .inr (8, [.int (iI 199), .ref q2_])), (q2_, gI g (4 * 199) (fun _ => 0)), (t3_, .inr (8, [.int (iI 40), .ref q3_])), (q3_, gI g (4 * 40) (fun _ => 0)), (t4_, .inr (8, [.int (iI 40), .ref q4_])), (q4_, gI g (4 * 40) (fun _ => 0))] := hW
  refine lv_aload_n S0.1 S0.2.1 dX5_init_72 rfl (lv_at hl 0 rfl) ?_
  refine q_new (C := RX8) (T := TX8) (N := 2) (ci := 8) (fs := [.int (iI 0), .null]) S0 hK hA hW hinX8 tyX8_ok (List.mem_of_getElem? (i := 4) rfl) (List.mem_of_getElem? (i := 5) rfl) (List.mem_of_getElem? (i := 6) rfl) rfl (fun j hj => by match j, hj with | 0, _ => rfl | 1, _ => rfl | j + 2, hj => exact absurd hj (by omega)) (Nat.le_of_ble_eq_true rfl) (Nat.le_of_ble_eq_true rfl) dX5_init_73 (fun t5_ H hW => ?_)
  have hW : gW g A s.heap H _ [(rk, .inr (5, [.ref t0_, .ref t1_, .ref t2_, .ref t3_, .ref t4_, .null, .null])), (t0_, .inr (8, [.int (iI 199), .ref q0_])), (q0_, gI g (4 * 199) (fun _ => 0)), (t1_, .inr (8, [.int (iI 199), .ref q1_])), (q1_, gI g (4 * 199) (fun _ => 0)), (t2_, .inr (8, [.int (iI 199), .ref q2_])), (q2_, gI g (4 * 199) (fun _ => 0)), (t3_, .inr (8, [.int (iI 40), .ref q3_])), (q3_, gI g (4 * 40) (fun _ => 0)), (t4_, .inr (8, [.int (iI 40), .ref q4_])), (q4_, gI g (4 * 40) (fun _ => 0)), (t5_, .inr (8, [.int (iI 0), .null]))] := hW
  refine lv_dup S0.1 S0.2.1 dX5_init_76 rfl ?_
  refine q_bipush S0 (by decide) dX5_init_77 ?_
  refine q_cI (n := 1) (rest := [.ref t5_, .ref rk]) (wr := [(rk, .inr (5, [.ref t0_, .ref t1_, .ref t2_, .ref t3_, .ref t4_, .null, .null])), (t0_, .inr (8, [.int (iI 199), .ref q0_])), (q0_, gI g (4 * 199) (fun _ => 0)), (t1_, .inr (8, [.int (iI 199), .ref q1_])), (q1_, gI g (4 * 199) (fun _ => 0)), (t2_, .inr (8, [.int (iI 199), .ref q2_])), (q2_, gI g (4 * 199) (fun _ => 0)), (t3_, .inr (8, [.int (iI 40), .ref q3_])), (q3_, gI g (4 * 40) (fun _ => 0)), (t4_, .inr (8, [.int (iI 40), .ref q4_])), (q4_, gI g (4 * 40) (fun _ => 0))]) S0 hK hA hW (c_X8_init l g t5_ 40 40 (by omega)) gX5_init_X8_init rfl rfl rfl (List.mem_of_getElem? (i := 14) rfl) (List.mem_of_getElem? (i := 6) rfl) (List.mem_of_getElem? (i := 15) rfl) rfl (by decide +kernel) ⟨Nat.le_of_ble_eq_true rfl, Nat.le_of_ble_eq_true rfl⟩ [11] [0, 1, 2, 3, 4, 5, 6, 7, 8, 9, 10] rfl rfl rfl rfl (by decide) (fun _ _ => trivial) (trivial) rfl rfl hl.1 (Nat.le_of_ble_eq_true rfl) ⟨Nat.le_of_ble_eq_true rfl, by decide⟩ dX5_init_79 ?_
  rintro q5_ H locs _ hW
  have hW : gW g A s.heap H _ [(rk, .inr (5, [.ref t0_, .ref t1_, .ref t2_, .ref t3_, .ref t4_, .null, .null])), (t0_, .inr (8, [.int (iI 199), .ref q0_])), (q0_, gI g (4 * 199) (fun _ => 0)), (t1_, .inr (8, [.int (iI 199), .ref q1_])), (q1_, gI g (4 * 199) (fun _ => 0)), (t2_, .inr (8, [.int (iI 199), .ref q2_])), (q2_, gI g (4 * 199) (fun _ => 0)), (t3_, .inr (8, [.int (iI 40), .ref q3_])), (q3_, gI g (4 * 40) (fun _ => 0)), (t4_, .inr (8, [.int (iI 40), .ref q4_])), (q4_, gI g (4 * 40) (fun _ => 0)), (t5_, .inr (8, [.int (iI 40), .ref q5_])), (q5_, gI g (4 * 40) (fun _ => 0))] := hW
  refine W.eq (g2 := F0 m 82 ls [.ref t5_, .ref rk]) rfl ?_
  refine q_putF (C := RX5) (T := TX5) (N := 7) S0 hnme hK hW hinX5 tyX5_ok nmX5 0 rfl rfl 5 (by decide) (List.mem_of_getElem? (i := 12) rfl) rfl rfl rfl rfl rfl (Nat.le_of_ble_eq_true rfl) dX5_init_82 (fun H locs hW => ?_)
  have hW : gW g A s.heap H _ [(rk, .inr (5, [.ref t0_, .ref t1_, .ref t2_, .ref t3_, .ref t4_, .ref t5_, .null])), (t0_, .inr (8, [.int (iI 199), .ref q0_])), (q0_, gI g (4 * 199) (fun _ => 0)), (t1_, .inr (8, [.int (iI 199), .ref q1_])), (q1_, gI g (4 * 199) (fun _ => 0)), (t2_, .inr (8, [.int (iI 199), .ref q2_])), (q2_, gI g (4 * 199) (fun _ => 0)), (t3_, .inr (8, [.int (iI 40), .ref q3_])), (q3_, gI g (4 * 40) (fun _ => 0)), (t4_, .inr (8, [.int (iI 40), .ref q4_])), (q4_, gI g (4 * 40) (fun _ => 0)), (t5_, .inr (8, [.int (iI 40), .ref q5_])), (q5_, gI g (4 * 40) (fun _ => 0))] := hW
  refine lv_aload_n S0.1 S0.2.1 dX5_init_85 rfl (lv_at hl 0 rfl) ?_
  refine q_cS (n := 0) (rest := [.ref rk]) (wr := [(rk, .inr (5, [.ref t0_, .ref t1_, .ref t2_, .ref t3_, .ref t4_, .ref t5_, .null])), (t0_, .inr (8, [.int (iI 199), .ref q0_])), (q0_, gI g (4 * 199) (fun _ => 0)), (t1_, .inr (8, [.int (iI 199), .ref q1_])), (q1_, gI g (4 * 199) (fun _ => 0)), (t2_, .inr (8, [.int (iI 199), .ref q2_])), (q2_, gI g (4 * 199) (fun _ => 0)), (t3_, .inr (8, [.int (iI 40), .ref q3_])), (q3_, gI g (4 * 40) (fun _ => 0)), (t4_, .inr (8, [.int (iI 40), .ref q4_])), (q4_, gI g (4 * 40) (fun _ => 0)), (t5_, .inr (8, [.int (iI 40), .ref q5_])), (q5_, gI g (4 * 40) (fun _ => 0))]) S0 hK hA hW (c_X7_first l g ) gX5_init_X7_first rfl rfl rfl (by decide +kernel) ⟨Nat.le_of_ble_eq_true rfl, Nat.le_of_ble_eq_true rfl⟩ [] [0, 1, 2, 3, 4, 5, 6, 7, 8, 9, 10, 11, 12] rfl rfl rfl rfl (by decide) (fun _ _ => trivial) (trivial) rfl rfl hl.1 (Nat.le_of_ble_eq_true rfl) ⟨Nat.le_of_ble_eq_true rfl, Nat.le_of_ble_eq_true rfl⟩ dX5_init_86 ?_
  rintro ⟨st_, rm_, x1, y1, y2, y3, y4⟩ H locs _ hW
  have hW : gW g A s.heap H _ [(rk, .inr (5, [.ref t0_, .ref t1_, .ref t2_, .ref t3_, .ref t4_, .ref t5_, .null])), (t0_, .inr (8, [.int (iI 199), .ref q0_])), (q0_, gI g (4 * 199) (fun _ => 0)), (t1_, .inr (8, [.int (iI 199), .ref q1_])), (q1_, gI g (4 * 199) (fun _ => 0)), (t2_, .inr (8, [.int (iI 199), .ref q2_])), (q2_, gI g (4 * 199) (fun _ => 0)), (t3_, .inr (8, [.int (iI 40), .ref q3_])), (q3_, gI g (4 * 40) (fun _ => 0)), (t4_, .inr (8, [.int (iI 40), .ref q4_])), (q4_, gI g (4 * 40) (fun _ => 0)), (t5_, .inr (8, [.int (iI 40), .ref q5_])), (q5_, gI g (4 * 40) (fun _ => 0)), (st_, .inr (7, [.ref rm_, .ref x1, .ref x1, .ref x1, .ref x1])), (rm_, .inr (6, [.int (iI 97)])), (x1, .inr (1, [.ref y1, .ref y2, .ref y3, .ref y4, .int (iI 1), .int (iI 1), .int (iI 0)])), (y1, gI g 1 (eK E0)), (y2, gI g 1 (eU E0)), (y3, gI g 1 (eL E0)), (y4, gI g 1 (eV E0))] := hW
  refine W.eq (g2 := F0 m 89 ls [.ref st_, .ref rk]) rfl ?_
  refine q_put (C := RX5) (T := TX5) (N := 7) S0 hK hW hinX5 tyX5_ok nmX5 0 rfl rfl 6 (by decide) (List.mem_of_getElem? (i := 13) rfl) rfl rfl rfl rfl (Nat.le_of_ble_eq_true rfl) dX5_init_89 (fun H locs hW => ?_)
  have hW : gW g A s.heap H _ [(rk, .inr (5, [.ref t0_, .ref t1_, .ref t2_, .ref t3_, .ref t4_, .ref t5_, .ref st_])), (t0_, .inr (8, [.int (iI 199), .ref q0_])), (q0_, gI g (4 * 199) (fun _ => 0)), (t1_, .inr (8, [.int (iI 199), .ref q1_])), (q1_, gI g (4 * 199) (fun _ => 0)), (t2_, .inr (8, [.int (iI 199), .ref q2_])), (q2_, gI g (4 * 199) (fun _ => 0)), (t3_, .inr (8, [.int (iI 40), .ref q3_])), (q3_, gI g (4 * 40) (fun _ => 0)), (t4_, .inr (8, [.int (iI 40), .ref q4_])), (q4_, gI g (4 * 40) (fun _ => 0)), (t5_, .inr (8, [.int (iI 40), .ref q5_])), (q5_, gI g (4 * 40) (fun _ => 0)), (st_, .inr (7, [.ref rm_, .ref x1, .ref x1, .ref x1, .ref x1])), (rm_, .inr (6, [.int (iI 97)])), (x1, .inr (1, [.ref y1, .ref y2, .ref y3, .ref y4, .int (iI 1), .int (iI 1), .int (iI 0)])), (y1, gI g 1 (eK E0)), (y2, gI g 1 (eU E0)), (y3, gI g 1 (eL E0)), (y4, gI g 1 (eV E0))] := hW
  refine lv_aload_n S0.1 S0.2.1 dX5_init_92 rfl (lv_at hl 0 rfl) ?_
  refine q_cV (n := 0) (rest := []) (wr := [(st_, .inr (7, [.ref rm_, .ref x1, .ref x1, .ref x1, .ref x1])), (rm_, .inr (6, [.int (iI 97)])), (x1, .inr (1, [.ref y1, .ref y2, .ref y3, .ref y4, .int (iI 1), .int (iI 1), .int (iI 0)])), (y1, gI g 1 (eK E0)), (y2, gI g 1 (eU E0)), (y3, gI g 1 (eL E0)), (y4, gI g 1 (eV E0))]) S0 hK hA hW (c_X5_forget l g rk t0_ q0_ t1_ q1_ t2_ q2_ t3_ q3_ t4_ q4_ t5_ q5_ st_ (mkR (fun _ => 0) (fun _ => 0) (fun _ => 0) (fun _ => 0) (fun _ => 0) (fun _ => 0))) gX5_init_X5_forget rfl rfl rfl (by decide +kernel) ⟨Nat.le_of_ble_eq_true rfl, Nat.le_of_ble_eq_true rfl⟩ [0, 1, 2, 3, 4, 5, 6, 7, 8, 9, 10, 11, 12] [13, 14, 15, 16, 17, 18, 19] rfl rfl rfl rfl (by decide) (q_recv hK hW.1 (ci := 5) (q0 := 0) rfl rfl) (fun _ _ => trivial) (trivial) rfl rfl hl.1 (Nat.le_of_ble_eq_true rfl) ⟨Nat.le_of_ble_eq_true rfl, Nat.le_of_ble_eq_true rfl⟩ dX5_init_93 (fun _ H locs _ hW => ?_)
  have hW : gW g A s.heap H _ [(st_, .inr (7, [.ref rm_, .ref x1, .ref x1, .ref x1, .ref x1])), (rm_, .inr (6, [.int (iI 97)])), (x1, .inr (1, [.ref y1, .ref y2, .ref y3, .ref y4, .int (iI 1), .int (iI 1), .int (iI 0)])), (y1, gI g 1 (eK E0)), (y2, gI g 1 (eU E0)), (y3, gI g 1 (eL E0)), (y4, gI g 1 (eV E0)), (rk, .inr (5, [.ref t0_, .ref t1_, .ref t2_, .ref t3_, .ref t4_, .ref t5_, .ref st_])), (t0_, .inr (8, [.int (iI 199), .ref q0_])), (q0_, gI g 796 (rV ((mkR (fillf 796 (-2) (rV (mkR (fun _ => 0) (fun _ => 0) (fun _ => 0) (fun _ => 0) (fun _ => 0) (fun _ => 0)))) (fillf 796 (-2) (rH (mkR (fun _ => 0) (fun _ => 0) (fun _ => 0) (fun _ => 0) (fun _ => 0) (fun _ => 0)))) (fillf 796 (-2) (rR (mkR (fun _ => 0) (fun _ => 0) (fun _ => 0) (fun _ => 0) (fun _ => 0) (fun _ => 0)))) (nV (mkR (fun _ => 0) (fun _ => 0) (fun _ => 0) (fun _ => 0) (fun _ => 0) (fun _ => 0))) (nS (mkR (fun _ => 0) (fun _ => 0) (fun _ => 0) (fun _ => 0) (fun _ => 0) (fun _ => 0))) (nW (mkR (fun _ => 0) (fun _ => 0) (fun _ => 0) (fun _ => 0) (fun _ => 0) (fun _ => 0))))))), (t1_, .inr (8, [.int (iI 199), .ref q1_])), (q1_, gI g 796 (rH ((mkR (fillf 796 (-2) (rV (mkR (fun _ => 0) (fun _ => 0) (fun _ => 0) (fun _ => 0) (fun _ => 0) (fun _ => 0)))) (fillf 796 (-2) (rH (mkR (fun _ => 0) (fun _ => 0) (fun _ => 0) (fun _ => 0) (fun _ => 0) (fun _ => 0)))) (fillf 796 (-2) (rR (mkR (fun _ => 0) (fun _ => 0) (fun _ => 0) (fun _ => 0) (fun _ => 0) (fun _ => 0)))) (nV (mkR (fun _ => 0) (fun _ => 0) (fun _ => 0) (fun _ => 0) (fun _ => 0) (fun _ => 0))) (nS (mkR (fun _ => 0) (fun _ => 0) (fun _ => 0) (fun _ => 0) (fun _ => 0) (fun _ => 0))) (nW (mkR (fun _ => 0) (fun _ => 0) (fun _ => 0) (fun _ => 0) (fun _ => 0) (fun _ => 0))))))), (t2_, .inr (8, [.int (iI 199), .ref q2_])), (q2_, gI g 796 (rR ((mkR (fillf 796 (-2) (rV (mkR (fun _ => 0) (fun _ => 0) (fun _ => 0) (fun _ => 0) (fun _ => 0) (fun _ => 0)))) (fillf 796 (-2) (rH (mkR (fun _ => 0) (fun _ => 0) (fun _ => 0) (fun _ => 0) (fun _ => 0) (fun _ => 0)))) (fillf 796 (-2) (rR (mkR (fun _ => 0) (fun _ => 0) (fun _ => 0) (fun _ => 0) (fun _ => 0) (fun _ => 0)))) (nV (mkR (fun _ => 0) (fun _ => 0) (fun _ => 0) (fun _ => 0) (fun _ => 0) (fun _ => 0))) (nS (mkR (fun _ => 0) (fun _ => 0) (fun _ => 0) (fun _ => 0) (fun _ => 0) (fun _ => 0))) (nW (mkR (fun _ => 0) (fun _ => 0) (fun _ => 0) (fun _ => 0) (fun _ => 0) (fun _ => 0))))))), (t3_, .inr (8, [.int (iI 40), .ref q3_])), (q3_, gI g 160 (nV ((mkR (fillf 796 (-2) (rV (mkR (fun _ => 0) (fun _ => 0) (fun _ => 0) (fun _ => 0) (fun _ => 0) (fun _ => 0)))) (fillf 796 (-2) (rH (mkR (fun _ => 0) (fun _ => 0) (fun _ => 0) (fun _ => 0) (fun _ => 0) (fun _ => 0)))) (fillf 796 (-2) (rR (mkR (fun _ => 0) (fun _ => 0) (fun _ => 0) (fun _ => 0) (fun _ => 0) (fun _ => 0)))) (nV (mkR (fun _ => 0) (fun _ => 0) (fun _ => 0) (fun _ => 0) (fun _ => 0) (fun _ => 0))) (nS (mkR (fun _ => 0) (fun _ => 0) (fun _ => 0) (fun _ => 0) (fun _ => 0) (fun _ => 0))) (nW (mkR (fun _ => 0) (fun _ => 0) (fun _ => 0) (fun _ => 0) (fun _ => 0) (fun _ => 0))))))), (t4_, .inr (8, [.int (iI 40), .ref q4_])), (q4_, gI g 160 (nS ((mkR (fillf 796 (-2) (rV (mkR (fun _ => 0) (fun _ => 0) (fun _ => 0) (fun _ => 0) (fun _ => 0) (fun _ => 0)))) (fillf 796 (-2) (rH (mkR (fun _ => 0) (fun _ => 0) (fun _ => 0) (fun _ => 0) (fun _ => 0) (fun _ => 0)))) (fillf 796 (-2) (rR (mkR (fun _ => 0) (fun _ => 0) (fun _ => 0) (fun _ => 0) (fun _ => 0) (fun _ => 0)))) (nV (mkR (fun _ => 0) (fun _ => 0) (fun _ => 0) (fun _ => 0) (fun _ => 0) (fun _ => 0))) (nS (mkR (fun _ => 0) (fun _ => 0) (fun _ => 0) (fun _ => 0) (fun _ => 0) (fun _ => 0))) (nW (mkR (fun _ => 0) (fun _ => 0) (fun _ => 0) (fun _ => 0) (fun _ => 0) (fun _ => 0))))))), (t5_, .inr (8, [.int (iI 40), .ref q5_])), (q5_, gI g 160 (nW ((mkR (fillf 796 (-2) (rV (mkR (fun _ => 0) (fun _ => 0) (fun _ => 0) (fun _ => 0) (fun _ => 0) (fun _ => 0)))) (fillf 796 (-2) (rH (mkR (fun _ => 0) (fun _ => 0) (fun _ => 0) (fun _ => 0) (fun _ => 0) (fun _ => 0)))) (fillf 796 (-2) (rR (mkR (fun _ => 0) (fun _ => 0) (fun _ => 0) (fun _ => 0) (fun _ => 0) (fun _ => 0)))) (nV (mkR (fun _ => 0) (fun _ => 0) (fun _ => 0) (fun _ => 0) (fun _ => 0) (fun _ => 0))) (nS (mkR (fun _ => 0) (fun _ => 0) (fun _ => 0) (fun _ => 0) (fun _ => 0) (fun _ => 0))) (nW (mkR (fun _ => 0) (fun _ => 0) (fun _ => 0) (fun _ => 0) (fun _ => 0) (fun _ => 0)))))))] := hW
  refine W.eq (g2 := F0 m 96 ls []) rfl ?_
  exact q_vret S0 hr hlocks (t0_, q0_, t1_, q1_, t2_, q2_, t3_, q3_, t4_, q4_, t5_, q5_, st_, rm_, x1, y1, y2, y3, y4) (trivial) rfl (hW.sub [7, 8, 9, 10, 11, 12, 13, 14, 15, 16, 17, 18, 19, 0, 1, 2, 3, 4, 5, 6] rfl (rfl)) (Nat.le_of_ble_eq_true rfl) (Nat.le_of_ble_eq_true rfl) dX5_init_96
set_option maxHeartbeats 4000000 in
set_option maxRecDepth 100000 in
theorem c_X7_withExpression (l : Launch) (g : GG) (st rm f0 f1 f2 f3 : Nat) (u : Int) (x : Nat) (hu : 0 ≤ u ∧ u < 4) : qMet l yX7_withExpression wsX7_withExpression ({ frames := 2, cells := 1, slots := 5, locals := 43 }) g [.ref st, .int (iI u), .ref x] [] (fun q => ¬ q = st) (fun H => va_P g.1 vwCl [(st, .inr (7, [.ref rm, .ref f0, .ref f1, .ref f2, .ref f3]))] H) (S := Nat) (fun u_ => some (.ref u_)) (fun u_ => [(u_, .inr (7, [.ref rm, .ref (if u = 0 then x else f0), .ref (if u = 1 then x else f1), .ref (if u = 2 then x else f2), .ref (if u = 3 then x else f3)]))]) (fun _ => True) 1 5 := by
  refine q_ofW (cc := cX7_withExpression) (maxL := 3) (ret := (some (.object "HingeNumbers$State"))) (fun sz h => h.self) (by decide) rfl (Nat.le_of_ble_eq_true rfl) ?_
  intro p e s m args below meth c A ls S0 hr hlocks hnme hK hA hAe hW hD0 hX hl
  have hW : gW g A s.heap s.heap [] [] := hW
  have hl : lv_has ls 3 [(0, .ref st), (1, .int (iI u)), (2, .ref x)] := hl
  have hinX7 : ∀ w ∈ wsX70, w ∈ wsX7_withExpression := fun w h => List.mem_cons_of_mem _ (List.mem_append_right _ h)
  have hO : ∀ q, A q → ¬ q = st := fun q hq hz => by
    rw [hAe] at hq
    rcases hq with ⟨k, e, hk⟩ | hq
    · simp at hk
    · exact absurd (va_P.lt9 hX (k := 0) rfl) (by subst hz; show ¬ q < s.heap.size; omega)
  have hfz : ∀ (H : Heap) (locs : List Loc) (ws : va_W), gW g A s.heap H locs ws → va_P g.1 vwCl [(st, .inr (7, [.ref rm, .ref f0, .ref f1, .ref f2, .ref f3]))] H := fun H locs ws h => hX.kept (fun k q hk => by
    match k, hk with
    | 0, hk => cases hk; exact h.2.2.2.1 st (va_P.lt9 hX (k := 0) rfl) (fun z => hO st z rfl)
    | k + 1, hk => simp at hk)
  refine q_new (C := RX7) (T := TX7) (N := 5) (ci := 7) (fs := [.null, .null, .null, .null, .null]) S0 hK hA hW hinX7 tyX7_ok (List.mem_of_getElem? (i := 1) rfl) (List.mem_of_getElem? (i := 2) rfl) (List.mem_of_getElem? (i := 3) rfl) rfl (fun j hj => by match j, hj with | 0, _ => rfl | 1, _ => rfl | 2, _ => rfl | 3, _ => rfl | 4, _ => rfl | j + 5, hj => exact absurd hj (by omega)) (Nat.le_of_ble_eq_true rfl) (Nat.le_of_ble_eq_true rfl) dX7_withExpression_0 (fun sb_ H hW => ?_)
  have hW : gW g A s.heap H _ [(sb_, .inr (7, [.null, .null, .null, .null, .null]))] := hW
  refine lv_dup S0.1 S0.2.1 dX7_withExpression_3 rfl ?_
  refine lv_aload_n S0.1 S0.2.1 dX7_withExpression_4 rfl (lv_at hl 0 rfl) ?_
  refine q_get (C := RX7) (T := TX7) (N := 5) S0 hK (hfz _ _ _ hW) hinX7 0 rfl rfl 0 (by decide) (List.mem_of_getElem? (i := 4) rfl) rfl rfl dX7_withExpression_5 ?_
  refine lv_iload_n S0.1 S0.2.1 dX7_withExpression_8 rfl (lv_at hl 1 rfl) ?_
  refine q_if_ne (tgt := 16) S0 (by omega) dX7_withExpression_9 (by decide) (fun c9 => ?_) (fun c9 => ?_)
  · skip
    refine lv_aload_n S0.1 S0.2.1 dX7_withExpression_16 rfl (lv_at hl 0 rfl) ?_
    refine q_get (C := RX7) (T := TX7) (N := 5) S0 hK (hfz _ _ _ hW) hinX7 0 rfl rfl 1 (by decide) (List.mem_of_getElem? (i := 5) rfl) rfl rfl dX7_withExpression_17 ?_
    refine lv_iload_n S0.1 S0.2.1 dX7_withExpression_20 rfl (lv_at hl 1 rfl) ?_
    refine q_iconst S0 dX7_withExpression_21 ?_
    refine q_icmp_ne (tgt := 29) S0 (by omega) dX7_withExpression_22 (by decide) (fun c22 => ?_) (fun c22 => ?_)
    · skip
      refine lv_aload_n S0.1 S0.2.1 dX7_withExpression_29 rfl (lv_at hl 0 rfl) ?_
      refine q_get (C := RX7) (T := TX7) (N := 5) S0 hK (hfz _ _ _ hW) hinX7 0 rfl rfl 2 (by decide) (List.mem_of_getElem? (i := 6) rfl) rfl rfl dX7_withExpression_30 ?_
      refine lv_iload_n S0.1 S0.2.1 dX7_withExpression_33 rfl (lv_at hl 1 rfl) ?_
      refine q_iconst S0 dX7_withExpression_34 ?_
      refine q_icmp_ne (tgt := 42) S0 (by omega) dX7_withExpression_35 (by decide) (fun c35 => ?_) (fun c35 => ?_)
      · skip
        refine lv_aload_n S0.1 S0.2.1 dX7_withExpression_42 rfl (lv_at hl 0 rfl) ?_
        refine q_get (C := RX7) (T := TX7) (N := 5) S0 hK (hfz _ _ _ hW) hinX7 0 rfl rfl 3 (by decide) (List.mem_of_getElem? (i := 7) rfl) rfl rfl dX7_withExpression_43 ?_
        refine lv_iload_n S0.1 S0.2.1 dX7_withExpression_46 rfl (lv_at hl 1 rfl) ?_
        refine q_iconst S0 dX7_withExpression_47 ?_
        refine q_icmp_ne (tgt := 55) S0 (by omega) dX7_withExpression_48 (by decide) (fun c48 => ?_) (fun c48 => ?_)
        · skip
          refine lv_aload_n S0.1 S0.2.1 dX7_withExpression_55 rfl (lv_at hl 0 rfl) ?_
          refine q_get (C := RX7) (T := TX7) (N := 5) S0 hK (hfz _ _ _ hW) hinX7 0 rfl rfl 4 (by decide) (List.mem_of_getElem? (i := 8) rfl) rfl rfl dX7_withExpression_56 ?_
          refine q_cI (n := 5) (rest := [.ref sb_]) (wr := []) S0 hK hA hW (c_X7_init l g sb_ rm f0 f1 f2 f3) gX7_withExpression_X7_init rfl rfl rfl (List.mem_of_getElem? (i := 9) rfl) (List.mem_of_getElem? (i := 3) rfl) (List.mem_of_getElem? (i := 10) rfl) rfl (by decide +kernel) ⟨Nat.le_of_ble_eq_true rfl, Nat.le_of_ble_eq_true rfl⟩ [0] [] rfl rfl rfl rfl (by decide) (fun _ _ => trivial) (trivial) rfl rfl hl.1 (Nat.le_of_ble_eq_true rfl) ⟨Nat.le_of_ble_eq_true rfl, Nat.le_of_ble_eq_true rfl⟩ dX7_withExpression_59 (fun _ H locs _ hW => ?_)
          have hW : gW g A s.heap H _ [(sb_, .inr (7, [.ref rm, .ref f0, .ref f1, .ref f2, .ref f3]))] := hW
          refine W.eq (g2 := F0 m 62 ls [.ref sb_]) rfl ?_
          exact q_aret S0 hr (Or.inl ⟨_, rfl⟩) hlocks sb_ (trivial) (Or.inr ⟨_, rfl⟩) (rfl) (hW.sub [0] rfl (by first | (exfalso; omega) | ((repeat (first | rw [if_pos (by omega)] | rw [if_neg (by omega)])); rfl))) (Nat.le_of_ble_eq_true rfl) (Nat.le_of_ble_eq_true rfl) dX7_withExpression_62
        · skip
          refine lv_aload_n S0.1 S0.2.1 dX7_withExpression_51 rfl (lv_at hl 2 rfl) ?_
          refine lv_goto (tgt := 59) S0.1 S0.2.1 dX7_withExpression_52 (by decide) ?_
          refine q_cI (n := 5) (rest := [.ref sb_]) (wr := []) S0 hK hA hW (c_X7_init l g sb_ rm f0 f1 f2 x) gX7_withExpression_X7_init rfl rfl rfl (List.mem_of_getElem? (i := 9) rfl) (List.mem_of_getElem? (i := 3) rfl) (List.mem_of_getElem? (i := 10) rfl) rfl (by decide +kernel) ⟨Nat.le_of_ble_eq_true rfl, Nat.le_of_ble_eq_true rfl⟩ [0] [] rfl rfl rfl rfl (by decide) (fun _ _ => trivial) (trivial) rfl rfl hl.1 (Nat.le_of_ble_eq_true rfl) ⟨Nat.le_of_ble_eq_true rfl, Nat.le_of_ble_eq_true rfl⟩ dX7_withExpression_59 (fun _ H locs _ hW => ?_)
          have hW : gW g A s.heap H _ [(sb_, .inr (7, [.ref rm, .ref f0, .ref f1, .ref f2, .ref x]))] := hW
          refine W.eq (g2 := F0 m 62 ls [.ref sb_]) rfl ?_
          exact q_aret S0 hr (Or.inl ⟨_, rfl⟩) hlocks sb_ (trivial) (Or.inr ⟨_, rfl⟩) (rfl) (hW.sub [0] rfl (by first | (exfalso; omega) | ((repeat (first | rw [if_pos (by omega)] | rw [if_neg (by omega)])); rfl))) (Nat.le_of_ble_eq_true rfl) (Nat.le_of_ble_eq_true rfl) dX7_withExpression_62
      · skip
        refine lv_aload_n S0.1 S0.2.1 dX7_withExpression_38 rfl (lv_at hl 2 rfl) ?_
        refine lv_goto (tgt := 46) S0.1 S0.2.1 dX7_withExpression_39 (by decide) ?_
        refine lv_iload_n S0.1 S0.2.1 dX7_withExpression_46 rfl (lv_at hl 1 rfl) ?_
        refine q_iconst S0 dX7_withExpression_47 ?_
        refine q_icmp_ne (tgt := 55) S0 (by omega) dX7_withExpression_48 (by decide) (fun c48 => ?_) (fun c48 => ?_)
        · skip
          refine lv_aload_n S0.1 S0.2.1 dX7_withExpression_55 rfl (lv_at hl 0 rfl) ?_
          refine q_get (C := RX7) (T := TX7) (N := 5) S0 hK (hfz _ _ _ hW) hinX7 0 rfl rfl 4 (by decide) (List.mem_of_getElem? (i := 8) rfl) rfl rfl dX7_withExpression_56 ?_
          refine q_cI (n := 5) (rest := [.ref sb_]) (wr := []) S0 hK hA hW (c_X7_init l g sb_ rm f0 f1 x f3) gX7_withExpression_X7_init rfl rfl rfl (List.mem_of_getElem? (i := 9) rfl) (List.mem_of_getElem? (i := 3) rfl) (List.mem_of_getElem? (i := 10) rfl) rfl (by decide +kernel) ⟨Nat.le_of_ble_eq_true rfl, Nat.le_of_ble_eq_true rfl⟩ [0] [] rfl rfl rfl rfl (by decide) (fun _ _ => trivial) (trivial) rfl rfl hl.1 (Nat.le_of_ble_eq_true rfl) ⟨Nat.le_of_ble_eq_true rfl, Nat.le_of_ble_eq_true rfl⟩ dX7_withExpression_59 (fun _ H locs _ hW => ?_)
          have hW : gW g A s.heap H _ [(sb_, .inr (7, [.ref rm, .ref f0, .ref f1, .ref x, .ref f3]))] := hW
          refine W.eq (g2 := F0 m 62 ls [.ref sb_]) rfl ?_
          exact q_aret S0 hr (Or.inl ⟨_, rfl⟩) hlocks sb_ (trivial) (Or.inr ⟨_, rfl⟩) (rfl) (hW.sub [0] rfl (by first | (exfalso; omega) | ((repeat (first | rw [if_pos (by omega)] | rw [if_neg (by omega)])); rfl))) (Nat.le_of_ble_eq_true rfl) (Nat.le_of_ble_eq_true rfl) dX7_withExpression_62
        · skip
          refine lv_aload_n S0.1 S0.2.1 dX7_withExpression_51 rfl (lv_at hl 2 rfl) ?_
          refine lv_goto (tgt := 59) S0.1 S0.2.1 dX7_withExpression_52 (by decide) ?_
          refine q_cI (n := 5) (rest := [.ref sb_]) (wr := []) S0 hK hA hW (c_X7_init l g sb_ rm f0 f1 x x) gX7_withExpression_X7_init rfl rfl rfl (List.mem_of_getElem? (i := 9) rfl) (List.mem_of_getElem? (i := 3) rfl) (List.mem_of_getElem? (i := 10) rfl) rfl (by decide +kernel) ⟨Nat.le_of_ble_eq_true rfl, Nat.le_of_ble_eq_true rfl⟩ [0] [] rfl rfl rfl rfl (by decide) (fun _ _ => trivial) (trivial) rfl rfl hl.1 (Nat.le_of_ble_eq_true rfl) ⟨Nat.le_of_ble_eq_true rfl, Nat.le_of_ble_eq_true rfl⟩ dX7_withExpression_59 (fun _ H locs _ hW => ?_)
          have hW : gW g A s.heap H _ [(sb_, .inr (7, [.ref rm, .ref f0, .ref f1, .ref x, .ref x]))] := hW
          refine W.eq (g2 := F0 m 62 ls [.ref sb_]) rfl ?_
          exact q_aret S0 hr (Or.inl ⟨_, rfl⟩) hlocks sb_ (trivial) (Or.inr ⟨_, rfl⟩) (rfl) (hW.sub [0] rfl (by first | (exfalso; omega) | ((repeat (first | rw [if_pos (by omega)] | rw [if_neg (by omega)])); rfl))) (Nat.le_of_ble_eq_true rfl) (Nat.le_of_ble_eq_true rfl) dX7_withExpression_62
    · skip
      refine lv_aload_n S0.1 S0.2.1 dX7_withExpression_25 rfl (lv_at hl 2 rfl) ?_
      refine lv_goto (tgt := 33) S0.1 S0.2.1 dX7_withExpression_26 (by decide) ?_
      refine lv_iload_n S0.1 S0.2.1 dX7_withExpression_33 rfl (lv_at hl 1 rfl) ?_
      refine q_iconst S0 dX7_withExpression_34 ?_
      refine q_icmp_ne (tgt := 42) S0 (by omega) dX7_withExpression_35 (by decide) (fun c35 => ?_) (fun c35 => ?_)
      · skip
        refine lv_aload_n S0.1 S0.2.1 dX7_withExpression_42 rfl (lv_at hl 0 rfl) ?_
        refine q_get (C := RX7) (T := TX7) (N := 5) S0 hK (hfz _ _ _ hW) hinX7 0 rfl rfl 3 (by decide) (List.mem_of_getElem? (i := 7) rfl) rfl rfl dX7_withExpression_43 ?_
        refine lv_iload_n S0.1 S0.2.1 dX7_withExpression_46 rfl (lv_at hl 1 rfl) ?_
        refine q_iconst S0 dX7_withExpression_47 ?_
        refine q_icmp_ne (tgt := 55) S0 (by omega) dX7_withExpression_48 (by decide) (fun c48 => ?_) (fun c48 => ?_)
        · skip
          refine lv_aload_n S0.1 S0.2.1 dX7_withExpression_55 rfl (lv_at hl 0 rfl) ?_
          refine q_get (C := RX7) (T := TX7) (N := 5) S0 hK (hfz _ _ _ hW) hinX7 0 rfl rfl 4 (by decide) (List.mem_of_getElem? (i := 8) rfl) rfl rfl dX7_withExpression_56 ?_
          refine q_cI (n := 5) (rest := [.ref sb_]) (wr := []) S0 hK hA hW (c_X7_init l g sb_ rm f0 x f2 f3) gX7_withExpression_X7_init rfl rfl rfl (List.mem_of_getElem? (i := 9) rfl) (List.mem_of_getElem? (i := 3) rfl) (List.mem_of_getElem? (i := 10) rfl) rfl (by decide +kernel) ⟨Nat.le_of_ble_eq_true rfl, Nat.le_of_ble_eq_true rfl⟩ [0] [] rfl rfl rfl rfl (by decide) (fun _ _ => trivial) (trivial) rfl rfl hl.1 (Nat.le_of_ble_eq_true rfl) ⟨Nat.le_of_ble_eq_true rfl, Nat.le_of_ble_eq_true rfl⟩ dX7_withExpression_59 (fun _ H locs _ hW => ?_)
          have hW : gW g A s.heap H _ [(sb_, .inr (7, [.ref rm, .ref f0, .ref x, .ref f2, .ref f3]))] := hW
          refine W.eq (g2 := F0 m 62 ls [.ref sb_]) rfl ?_
          exact q_aret S0 hr (Or.inl ⟨_, rfl⟩) hlocks sb_ (trivial) (Or.inr ⟨_, rfl⟩) (rfl) (hW.sub [0] rfl (by first | (exfalso; omega) | ((repeat (first | rw [if_pos (by omega)] | rw [if_neg (by omega)])); rfl))) (Nat.le_of_ble_eq_true rfl) (Nat.le_of_ble_eq_true rfl) dX7_withExpression_62
        · skip
          refine lv_aload_n S0.1 S0.2.1 dX7_withExpression_51 rfl (lv_at hl 2 rfl) ?_
          refine lv_goto (tgt := 59) S0.1 S0.2.1 dX7_withExpression_52 (by decide) ?_
          refine q_cI (n := 5) (rest := [.ref sb_]) (wr := []) S0 hK hA hW (c_X7_init l g sb_ rm f0 x f2 x) gX7_withExpression_X7_init rfl rfl rfl (List.mem_of_getElem? (i := 9) rfl) (List.mem_of_getElem? (i := 3) rfl) (List.mem_of_getElem? (i := 10) rfl) rfl (by decide +kernel) ⟨Nat.le_of_ble_eq_true rfl, Nat.le_of_ble_eq_true rfl⟩ [0] [] rfl rfl rfl rfl (by decide) (fun _ _ => trivial) (trivial) rfl rfl hl.1 (Nat.le_of_ble_eq_true rfl) ⟨Nat.le_of_ble_eq_true rfl, Nat.le_of_ble_eq_true rfl⟩ dX7_withExpression_59 (fun _ H locs _ hW => ?_)
          have hW : gW g A s.heap H _ [(sb_, .inr (7, [.ref rm, .ref f0, .ref x, .ref f2, .ref x]))] := hW
          refine W.eq (g2 := F0 m 62 ls [.ref sb_]) rfl ?_
          exact q_aret S0 hr (Or.inl ⟨_, rfl⟩) hlocks sb_ (trivial) (Or.inr ⟨_, rfl⟩) (rfl) (hW.sub [0] rfl (by first | (exfalso; omega) | ((repeat (first | rw [if_pos (by omega)] | rw [if_neg (by omega)])); rfl))) (Nat.le_of_ble_eq_true rfl) (Nat.le_of_ble_eq_true rfl) dX7_withExpression_62
      · skip
        refine lv_aload_n S0.1 S0.2.1 dX7_withExpression_38 rfl (lv_at hl 2 rfl) ?_
        refine lv_goto (tgt := 46) S0.1 S0.2.1 dX7_withExpression_39 (by decide) ?_
        refine lv_iload_n S0.1 S0.2.1 dX7_withExpression_46 rfl (lv_at hl 1 rfl) ?_
        refine q_iconst S0 dX7_withExpression_47 ?_
        refine q_icmp_ne (tgt := 55) S0 (by omega) dX7_withExpression_48 (by decide) (fun c48 => ?_) (fun c48 => ?_)
        · skip
          refine lv_aload_n S0.1 S0.2.1 dX7_withExpression_55 rfl (lv_at hl 0 rfl) ?_
          refine q_get (C := RX7) (T := TX7) (N := 5) S0 hK (hfz _ _ _ hW) hinX7 0 rfl rfl 4 (by decide) (List.mem_of_getElem? (i := 8) rfl) rfl rfl dX7_withExpression_56 ?_
          refine q_cI (n := 5) (rest := [.ref sb_]) (wr := []) S0 hK hA hW (c_X7_init l g sb_ rm f0 x x f3) gX7_withExpression_X7_init rfl rfl rfl (List.mem_of_getElem? (i := 9) rfl) (List.mem_of_getElem? (i := 3) rfl) (List.mem_of_getElem? (i := 10) rfl) rfl (by decide +kernel) ⟨Nat.le_of_ble_eq_true rfl, Nat.le_of_ble_eq_true rfl⟩ [0] [] rfl rfl rfl rfl (by decide) (fun _ _ => trivial) (trivial) rfl rfl hl.1 (Nat.le_of_ble_eq_true rfl) ⟨Nat.le_of_ble_eq_true rfl, Nat.le_of_ble_eq_true rfl⟩ dX7_withExpression_59 (fun _ H locs _ hW => ?_)
          have hW : gW g A s.heap H _ [(sb_, .inr (7, [.ref rm, .ref f0, .ref x, .ref x, .ref f3]))] := hW
          refine W.eq (g2 := F0 m 62 ls [.ref sb_]) rfl ?_
          exact q_aret S0 hr (Or.inl ⟨_, rfl⟩) hlocks sb_ (trivial) (Or.inr ⟨_, rfl⟩) (rfl) (hW.sub [0] rfl (by first | (exfalso; omega) | ((repeat (first | rw [if_pos (by omega)] | rw [if_neg (by omega)])); rfl))) (Nat.le_of_ble_eq_true rfl) (Nat.le_of_ble_eq_true rfl) dX7_withExpression_62
        · skip
          refine lv_aload_n S0.1 S0.2.1 dX7_withExpression_51 rfl (lv_at hl 2 rfl) ?_
          refine lv_goto (tgt := 59) S0.1 S0.2.1 dX7_withExpression_52 (by decide) ?_
          refine q_cI (n := 5) (rest := [.ref sb_]) (wr := []) S0 hK hA hW (c_X7_init l g sb_ rm f0 x x x) gX7_withExpression_X7_init rfl rfl rfl (List.mem_of_getElem? (i := 9) rfl) (List.mem_of_getElem? (i := 3) rfl) (List.mem_of_getElem? (i := 10) rfl) rfl (by decide +kernel) ⟨Nat.le_of_ble_eq_true rfl, Nat.le_of_ble_eq_true rfl⟩ [0] [] rfl rfl rfl rfl (by decide) (fun _ _ => trivial) (trivial) rfl rfl hl.1 (Nat.le_of_ble_eq_true rfl) ⟨Nat.le_of_ble_eq_true rfl, Nat.le_of_ble_eq_true rfl⟩ dX7_withExpression_59 (fun _ H locs _ hW => ?_)
          have hW : gW g A s.heap H _ [(sb_, .inr (7, [.ref rm, .ref f0, .ref x, .ref x, .ref x]))] := hW
          refine W.eq (g2 := F0 m 62 ls [.ref sb_]) rfl ?_
          exact q_aret S0 hr (Or.inl ⟨_, rfl⟩) hlocks sb_ (trivial) (Or.inr ⟨_, rfl⟩) (rfl) (hW.sub [0] rfl (by first | (exfalso; omega) | ((repeat (first | rw [if_pos (by omega)] | rw [if_neg (by omega)])); rfl))) (Nat.le_of_ble_eq_true rfl) (Nat.le_of_ble_eq_true rfl) dX7_withExpression_62
  · skip
    refine lv_aload_n S0.1 S0.2.1 dX7_withExpression_12 rfl (lv_at hl 2 rfl) ?_
    refine lv_goto (tgt := 20) S0.1 S0.2.1 dX7_withExpression_13 (by decide) ?_
    refine lv_iload_n S0.1 S0.2.1 dX7_withExpression_20 rfl (lv_at hl 1 rfl) ?_
    refine q_iconst S0 dX7_withExpression_21 ?_
    refine q_icmp_ne (tgt := 29) S0 (by omega) dX7_withExpression_22 (by decide) (fun c22 => ?_) (fun c22 => ?_)
    · skip
      refine lv_aload_n S0.1 S0.2.1 dX7_withExpression_29 rfl (lv_at hl 0 rfl) ?_
      refine q_get (C := RX7) (T := TX7) (N := 5) S0 hK (hfz _ _ _ hW) hinX7 0 rfl rfl 2 (by decide) (List.mem_of_getElem? (i := 6) rfl) rfl rfl dX7_withExpression_30 ?_
      refine lv_iload_n S0.1 S0.2.1 dX7_withExpression_33 rfl (lv_at hl 1 rfl) ?_
      refine q_iconst S0 dX7_withExpression_34 ?_
      refine q_icmp_ne (tgt := 42) S0 (by omega) dX7_withExpression_35 (by decide) (fun c35 => ?_) (fun c35 => ?_)
      · skip
        refine lv_aload_n S0.1 S0.2.1 dX7_withExpression_42 rfl (lv_at hl 0 rfl) ?_
        refine q_get (C := RX7) (T := TX7) (N := 5) S0 hK (hfz _ _ _ hW) hinX7 0 rfl rfl 3 (by decide) (List.mem_of_getElem? (i := 7) rfl) rfl rfl dX7_withExpression_43 ?_
        refine lv_iload_n S0.1 S0.2.1 dX7_withExpression_46 rfl (lv_at hl 1 rfl) ?_
        refine q_iconst S0 dX7_withExpression_47 ?_
        refine q_icmp_ne (tgt := 55) S0 (by omega) dX7_withExpression_48 (by decide) (fun c48 => ?_) (fun c48 => ?_)
        · skip
          refine lv_aload_n S0.1 S0.2.1 dX7_withExpression_55 rfl (lv_at hl 0 rfl) ?_
          refine q_get (C := RX7) (T := TX7) (N := 5) S0 hK (hfz _ _ _ hW) hinX7 0 rfl rfl 4 (by decide) (List.mem_of_getElem? (i := 8) rfl) rfl rfl dX7_withExpression_56 ?_
          refine q_cI (n := 5) (rest := [.ref sb_]) (wr := []) S0 hK hA hW (c_X7_init l g sb_ rm x f1 f2 f3) gX7_withExpression_X7_init rfl rfl rfl (List.mem_of_getElem? (i := 9) rfl) (List.mem_of_getElem? (i := 3) rfl) (List.mem_of_getElem? (i := 10) rfl) rfl (by decide +kernel) ⟨Nat.le_of_ble_eq_true rfl, Nat.le_of_ble_eq_true rfl⟩ [0] [] rfl rfl rfl rfl (by decide) (fun _ _ => trivial) (trivial) rfl rfl hl.1 (Nat.le_of_ble_eq_true rfl) ⟨Nat.le_of_ble_eq_true rfl, Nat.le_of_ble_eq_true rfl⟩ dX7_withExpression_59 (fun _ H locs _ hW => ?_)
          have hW : gW g A s.heap H _ [(sb_, .inr (7, [.ref rm, .ref x, .ref f1, .ref f2, .ref f3]))] := hW
          refine W.eq (g2 := F0 m 62 ls [.ref sb_]) rfl ?_
          exact q_aret S0 hr (Or.inl ⟨_, rfl⟩) hlocks sb_ (trivial) (Or.inr ⟨_, rfl⟩) (rfl) (hW.sub [0] rfl (by first | (exfalso; omega) | ((repeat (first | rw [if_pos (by omega)] | rw [if_neg (by omega)])); rfl))) (Nat.le_of_ble_eq_true rfl) (Nat.le_of_ble_eq_true rfl) dX7_withExpression_62
        · skip
          refine lv_aload_n S0.1 S0.2.1 dX7_withExpression_51 rfl (lv_at hl 2 rfl) ?_
          refine lv_goto (tgt := 59) S0.1 S0.2.1 dX7_withExpression_52 (by decide) ?_
          refine q_cI (n := 5) (rest := [.ref sb_]) (wr := []) S0 hK hA hW (c_X7_init l g sb_ rm x f1 f2 x) gX7_withExpression_X7_init rfl rfl rfl (List.mem_of_getElem? (i := 9) rfl) (List.mem_of_getElem? (i := 3) rfl) (List.mem_of_getElem? (i := 10) rfl) rfl (by decide +kernel) ⟨Nat.le_of_ble_eq_true rfl, Nat.le_of_ble_eq_true rfl⟩ [0] [] rfl rfl rfl rfl (by decide) (fun _ _ => trivial) (trivial) rfl rfl hl.1 (Nat.le_of_ble_eq_true rfl) ⟨Nat.le_of_ble_eq_true rfl, Nat.le_of_ble_eq_true rfl⟩ dX7_withExpression_59 (fun _ H locs _ hW => ?_)
          have hW : gW g A s.heap H _ [(sb_, .inr (7, [.ref rm, .ref x, .ref f1, .ref f2, .ref x]))] := hW
          refine W.eq (g2 := F0 m 62 ls [.ref sb_]) rfl ?_
          exact q_aret S0 hr (Or.inl ⟨_, rfl⟩) hlocks sb_ (trivial) (Or.inr ⟨_, rfl⟩) (rfl) (hW.sub [0] rfl (by first | (exfalso; omega) | ((repeat (first | rw [if_pos (by omega)] | rw [if_neg (by omega)])); rfl))) (Nat.le_of_ble_eq_true rfl) (Nat.le_of_ble_eq_true rfl) dX7_withExpression_62
      · skip
        refine lv_aload_n S0.1 S0.2.1 dX7_withExpression_38 rfl (lv_at hl 2 rfl) ?_
        refine lv_goto (tgt := 46) S0.1 S0.2.1 dX7_withExpression_39 (by decide) ?_
        refine lv_iload_n S0.1 S0.2.1 dX7_withExpression_46 rfl (lv_at hl 1 rfl) ?_
        refine q_iconst S0 dX7_withExpression_47 ?_
        refine q_icmp_ne (tgt := 55) S0 (by omega) dX7_withExpression_48 (by decide) (fun c48 => ?_) (fun c48 => ?_)
        · skip
          refine lv_aload_n S0.1 S0.2.1 dX7_withExpression_55 rfl (lv_at hl 0 rfl) ?_
          refine q_get (C := RX7) (T := TX7) (N := 5) S0 hK (hfz _ _ _ hW) hinX7 0 rfl rfl 4 (by decide) (List.mem_of_getElem? (i := 8) rfl) rfl rfl dX7_withExpression_56 ?_
          refine q_cI (n := 5) (rest := [.ref sb_]) (wr := []) S0 hK hA hW (c_X7_init l g sb_ rm x f1 x f3) gX7_withExpression_X7_init rfl rfl rfl (List.mem_of_getElem? (i := 9) rfl) (List.mem_of_getElem? (i := 3) rfl) (List.mem_of_getElem? (i := 10) rfl) rfl (by decide +kernel) ⟨Nat.le_of_ble_eq_true rfl, Nat.le_of_ble_eq_true rfl⟩ [0] [] rfl rfl rfl rfl (by decide) (fun _ _ => trivial) (trivial) rfl rfl hl.1 (Nat.le_of_ble_eq_true rfl) ⟨Nat.le_of_ble_eq_true rfl, Nat.le_of_ble_eq_true rfl⟩ dX7_withExpression_59 (fun _ H locs _ hW => ?_)
          have hW : gW g A s.heap H _ [(sb_, .inr (7, [.ref rm, .ref x, .ref f1, .ref x, .ref f3]))] := hW
          refine W.eq (g2 := F0 m 62 ls [.ref sb_]) rfl ?_
          exact q_aret S0 hr (Or.inl ⟨_, rfl⟩) hlocks sb_ (trivial) (Or.inr ⟨_, rfl⟩) (rfl) (hW.sub [0] rfl (by first | (exfalso; omega) | ((repeat (first | rw [if_pos (by omega)] | rw [if_neg (by omega)])); rfl))) (Nat.le_of_ble_eq_true rfl) (Nat.le_of_ble_eq_true rfl) dX7_withExpression_62
        · skip
          refine lv_aload_n S0.1 S0.2.1 dX7_withExpression_51 rfl (lv_at hl 2 rfl) ?_
          refine lv_goto (tgt := 59) S0.1 S0.2.1 dX7_withExpression_52 (by decide) ?_
          refine q_cI (n := 5) (rest := [.ref sb_]) (wr := []) S0 hK hA hW (c_X7_init l g sb_ rm x f1 x x) gX7_withExpression_X7_init rfl rfl rfl (List.mem_of_getElem? (i := 9) rfl) (List.mem_of_getElem? (i := 3) rfl) (List.mem_of_getElem? (i := 10) rfl) rfl (by decide +kernel) ⟨Nat.le_of_ble_eq_true rfl, Nat.le_of_ble_eq_true rfl⟩ [0] [] rfl rfl rfl rfl (by decide) (fun _ _ => trivial) (trivial) rfl rfl hl.1 (Nat.le_of_ble_eq_true rfl) ⟨Nat.le_of_ble_eq_true rfl, Nat.le_of_ble_eq_true rfl⟩ dX7_withExpression_59 (fun _ H locs _ hW => ?_)
          have hW : gW g A s.heap H _ [(sb_, .inr (7, [.ref rm, .ref x, .ref f1, .ref x, .ref x]))] := hW
          refine W.eq (g2 := F0 m 62 ls [.ref sb_]) rfl ?_
          exact q_aret S0 hr (Or.inl ⟨_, rfl⟩) hlocks sb_ (trivial) (Or.inr ⟨_, rfl⟩) (rfl) (hW.sub [0] rfl (by first | (exfalso; omega) | ((repeat (first | rw [if_pos (by omega)] | rw [if_neg (by omega)])); rfl))) (Nat.le_of_ble_eq_true rfl) (Nat.le_of_ble_eq_true rfl) dX7_withExpression_62
    · skip
      refine lv_aload_n S0.1 S0.2.1 dX7_withExpression_25 rfl (lv_at hl 2 rfl) ?_
      refine lv_goto (tgt := 33) S0.1 S0.2.1 dX7_withExpression_26 (by decide) ?_
      refine lv_iload_n S0.1 S0.2.1 dX7_withExpression_33 rfl (lv_at hl 1 rfl) ?_
      refine q_iconst S0 dX7_withExpression_34 ?_
      refine q_icmp_ne (tgt := 42) S0 (by omega) dX7_withExpression_35 (by decide) (fun c35 => ?_) (fun c35 => ?_)
      · skip
        refine lv_aload_n S0.1 S0.2.1 dX7_withExpression_42 rfl (lv_at hl 0 rfl) ?_
        refine q_get (C := RX7) (T := TX7) (N := 5) S0 hK (hfz _ _ _ hW) hinX7 0 rfl rfl 3 (by decide) (List.mem_of_getElem? (i := 7) rfl) rfl rfl dX7_withExpression_43 ?_
        refine lv_iload_n S0.1 S0.2.1 dX7_withExpression_46 rfl (lv_at hl 1 rfl) ?_
        refine q_iconst S0 dX7_withExpression_47 ?_
        refine q_icmp_ne (tgt := 55) S0 (by omega) dX7_withExpression_48 (by decide) (fun c48 => ?_) (fun c48 => ?_)
        · skip
          refine lv_aload_n S0.1 S0.2.1 dX7_withExpression_55 rfl (lv_at hl 0 rfl) ?_
          refine q_get (C := RX7) (T := TX7) (N := 5) S0 hK (hfz _ _ _ hW) hinX7 0 rfl rfl 4 (by decide) (List.mem_of_getElem? (i := 8) rfl) rfl rfl dX7_withExpression_56 ?_
          refine q_cI (n := 5) (rest := [.ref sb_]) (wr := []) S0 hK hA hW (c_X7_init l g sb_ rm x x f2 f3) gX7_withExpression_X7_init rfl rfl rfl (List.mem_of_getElem? (i := 9) rfl) (List.mem_of_getElem? (i := 3) rfl) (List.mem_of_getElem? (i := 10) rfl) rfl (by decide +kernel) ⟨Nat.le_of_ble_eq_true rfl, Nat.le_of_ble_eq_true rfl⟩ [0] [] rfl rfl rfl rfl (by decide) (fun _ _ => trivial) (trivial) rfl rfl hl.1 (Nat.le_of_ble_eq_true rfl) ⟨Nat.le_of_ble_eq_true rfl, Nat.le_of_ble_eq_true rfl⟩ dX7_withExpression_59 (fun _ H locs _ hW => ?_)
          have hW : gW g A s.heap H _ [(sb_, .inr (7, [.ref rm, .ref x, .ref x, .ref f2, .ref f3]))] := hW
          refine W.eq (g2 := F0 m 62 ls [.ref sb_]) rfl ?_
          exact q_aret S0 hr (Or.inl ⟨_, rfl⟩) hlocks sb_ (trivial) (Or.inr ⟨_, rfl⟩) (rfl) (hW.sub [0] rfl (by first | (exfalso; omega) | ((repeat (first | rw [if_pos (by omega)] | rw [if_neg (by omega)])); rfl))) (Nat.le_of_ble_eq_true rfl) (Nat.le_of_ble_eq_true rfl) dX7_withExpression_62
        · skip
          refine lv_aload_n S0.1 S0.2.1 dX7_withExpression_51 rfl (lv_at hl 2 rfl) ?_
          refine lv_goto (tgt := 59) S0.1 S0.2.1 dX7_withExpression_52 (by decide) ?_
          refine q_cI (n := 5) (rest := [.ref sb_]) (wr := []) S0 hK hA hW (c_X7_init l g sb_ rm x x f2 x) gX7_withExpression_X7_init rfl rfl rfl (List.mem_of_getElem? (i := 9) rfl) (List.mem_of_getElem? (i := 3) rfl) (List.mem_of_getElem? (i := 10) rfl) rfl (by decide +kernel) ⟨Nat.le_of_ble_eq_true rfl, Nat.le_of_ble_eq_true rfl⟩ [0] [] rfl rfl rfl rfl (by decide) (fun _ _ => trivial) (trivial) rfl rfl hl.1 (Nat.le_of_ble_eq_true rfl) ⟨Nat.le_of_ble_eq_true rfl, Nat.le_of_ble_eq_true rfl⟩ dX7_withExpression_59 (fun _ H locs _ hW => ?_)
          have hW : gW g A s.heap H _ [(sb_, .inr (7, [.ref rm, .ref x, .ref x, .ref f2, .ref x]))] := hW
          refine W.eq (g2 := F0 m 62 ls [.ref sb_]) rfl ?_
          exact q_aret S0 hr (Or.inl ⟨_, rfl⟩) hlocks sb_ (trivial) (Or.inr ⟨_, rfl⟩) (rfl) (hW.sub [0] rfl (by first | (exfalso; omega) | ((repeat (first | rw [if_pos (by omega)] | rw [if_neg (by omega)])); rfl))) (Nat.le_of_ble_eq_true rfl) (Nat.le_of_ble_eq_true rfl) dX7_withExpression_62
      · skip
        refine lv_aload_n S0.1 S0.2.1 dX7_withExpression_38 rfl (lv_at hl 2 rfl) ?_
        refine lv_goto (tgt := 46) S0.1 S0.2.1 dX7_withExpression_39 (by decide) ?_
        refine lv_iload_n S0.1 S0.2.1 dX7_withExpression_46 rfl (lv_at hl 1 rfl) ?_
        refine q_iconst S0 dX7_withExpression_47 ?_
        refine q_icmp_ne (tgt := 55) S0 (by omega) dX7_withExpression_48 (by decide) (fun c48 => ?_) (fun c48 => ?_)
        · skip
          refine lv_aload_n S0.1 S0.2.1 dX7_withExpression_55 rfl (lv_at hl 0 rfl) ?_
          refine q_get (C := RX7) (T := TX7) (N := 5) S0 hK (hfz _ _ _ hW) hinX7 0 rfl rfl 4 (by decide) (List.mem_of_getElem? (i := 8) rfl) rfl rfl dX7_withExpression_56 ?_
          refine q_cI (n := 5) (rest := [.ref sb_]) (wr := []) S0 hK hA hW (c_X7_init l g sb_ rm x x x f3) gX7_withExpression_X7_init rfl rfl rfl (List.mem_of_getElem? (i := 9) rfl) (List.mem_of_getElem? (i := 3) rfl) (List.mem_of_getElem? (i := 10) rfl) rfl (by decide +kernel) ⟨Nat.le_of_ble_eq_true rfl, Nat.le_of_ble_eq_true rfl⟩ [0] [] rfl rfl rfl rfl (by decide) (fun _ _ => trivial) (trivial) rfl rfl hl.1 (Nat.le_of_ble_eq_true rfl) ⟨Nat.le_of_ble_eq_true rfl, Nat.le_of_ble_eq_true rfl⟩ dX7_withExpression_59 (fun _ H locs _ hW => ?_)
          have hW : gW g A s.heap H _ [(sb_, .inr (7, [.ref rm, .ref x, .ref x, .ref x, .ref f3]))] := hW
          refine W.eq (g2 := F0 m 62 ls [.ref sb_]) rfl ?_
          exact q_aret S0 hr (Or.inl ⟨_, rfl⟩) hlocks sb_ (trivial) (Or.inr ⟨_, rfl⟩) (rfl) (hW.sub [0] rfl (by first | (exfalso; omega) | ((repeat (first | rw [if_pos (by omega)] | rw [if_neg (by omega)])); rfl))) (Nat.le_of_ble_eq_true rfl) (Nat.le_of_ble_eq_true rfl) dX7_withExpression_62
        · skip
          refine lv_aload_n S0.1 S0.2.1 dX7_withExpression_51 rfl (lv_at hl 2 rfl) ?_
          refine lv_goto (tgt := 59) S0.1 S0.2.1 dX7_withExpression_52 (by decide) ?_
          refine q_cI (n := 5) (rest := [.ref sb_]) (wr := []) S0 hK hA hW (c_X7_init l g sb_ rm x x x x) gX7_withExpression_X7_init rfl rfl rfl (List.mem_of_getElem? (i := 9) rfl) (List.mem_of_getElem? (i := 3) rfl) (List.mem_of_getElem? (i := 10) rfl) rfl (by decide +kernel) ⟨Nat.le_of_ble_eq_true rfl, Nat.le_of_ble_eq_true rfl⟩ [0] [] rfl rfl rfl rfl (by decide) (fun _ _ => trivial) (trivial) rfl rfl hl.1 (Nat.le_of_ble_eq_true rfl) ⟨Nat.le_of_ble_eq_true rfl, Nat.le_of_ble_eq_true rfl⟩ dX7_withExpression_59 (fun _ H locs _ hW => ?_)
          have hW : gW g A s.heap H _ [(sb_, .inr (7, [.ref rm, .ref x, .ref x, .ref x, .ref x]))] := hW
          refine W.eq (g2 := F0 m 62 ls [.ref sb_]) rfl ?_
          exact q_aret S0 hr (Or.inl ⟨_, rfl⟩) hlocks sb_ (trivial) (Or.inr ⟨_, rfl⟩) (rfl) (hW.sub [0] rfl (by first | (exfalso; omega) | ((repeat (first | rw [if_pos (by omega)] | rw [if_neg (by omega)])); rfl))) (Nat.le_of_ble_eq_true rfl) (Nat.le_of_ble_eq_true rfl) dX7_withExpression_62
set_option maxHeartbeats 4000000 in
set_option maxRecDepth 100000 in
theorem c_X7_withPrime (l : Launch) (g : GG) (st rm f0 f1 f2 f3 : Nat) (p_ : Int) : qMet l yX7_withPrime wsX7_withPrime ({ frames := 2, cells := 2, slots := 6, locals := 43 }) g [.ref st, .int (iI p_)] [] (fun q => ¬ q = st) (fun H => va_P g.1 vwCl [(st, .inr (7, [.ref rm, .ref f0, .ref f1, .ref f2, .ref f3]))] H) (S := Nat × Nat) (fun u_ => some (.ref u_.1)) (fun u_ => [(u_.1, .inr (7, [.ref u_.2, .ref f0, .ref f1, .ref f2, .ref f3])), (u_.2, .inr (6, [.int (iI p_)]))]) (fun _ => True) 2 6 := by
  refine q_ofW (cc := cX7_withPrime) (maxL := 2) (ret := (some (.object "HingeNumbers$State"))) (fun sz h => h.self) (by decide) rfl (Nat.le_of_ble_eq_true rfl) ?_
  intro p e s m args below meth c A ls S0 hr hlocks hnme hK hA hAe hW hD0 hX hl
  have hW : gW g A s.heap s.heap [] [] := hW
  have hl : lv_has ls 2 [(0, .ref st), (1, .int (iI p_))] := hl
  have hinX7 : ∀ w ∈ wsX70, w ∈ wsX7_withPrime := fun w h => List.mem_cons_of_mem _ (List.mem_append_left _ (List.mem_append_right _ h))
  have hinX6 : ∀ w ∈ wsX60, w ∈ wsX7_withPrime := fun w h => List.mem_cons_of_mem _ (List.mem_append_right _ h)
  have hO : ∀ q, A q → ¬ q = st := fun q hq hz => by
    rw [hAe] at hq
    rcases hq with ⟨k, e, hk⟩ | hq
    · simp at hk
    · exact absurd (va_P.lt9 hX (k := 0) rfl) (by subst hz; show ¬ q < s.heap.size; omega)
  have hfz : ∀ (H : Heap) (locs : List Loc) (ws : va_W), gW g A s.heap H locs ws → va_P g.1 vwCl [(st, .inr (7, [.ref rm, .ref f0, .ref f1, .ref f2, .ref f3]))] H := fun H locs ws h => hX.kept (fun k q hk => by
    match k, hk with
    | 0, hk => cases hk; exact h.2.2.2.1 st (va_P.lt9 hX (k := 0) rfl) (fun z => hO st z rfl)
    | k + 1, hk => simp at hk)
  refine q_new (C := RX7) (T := TX7) (N := 5) (ci := 7) (fs := [.null, .null, .null, .null, .null]) S0 hK hA hW hinX7 tyX7_ok (List.mem_of_getElem? (i := 1) rfl) (List.mem_of_getElem? (i := 2) rfl) (List.mem_of_getElem? (i := 3) rfl) rfl (fun j hj => by match j, hj with | 0, _ => rfl | 1, _ => rfl | 2, _ => rfl | 3, _ => rfl | 4, _ => rfl | j + 5, hj => exact absurd hj (by omega)) (Nat.le_of_ble_eq_true rfl) (Nat.le_of_ble_eq_true rfl) dX7_withPrime_0 (fun sb_ H hW => ?_)
  have hW : gW g A s.heap H _ [(sb_, .inr (7, [.null, .null, .null, .null, .null]))] := hW
  refine lv_dup S0.1 S0.2.1 dX7_withPrime_3 rfl ?_
  refine q_new (C := RX6) (T := TX6) (N := 1) (ci := 6) (fs := [.int (iI 0)]) S0 hK hA hW hinX6 tyX6_ok (List.mem_of_getElem? (i := 4) rfl) (List.mem_of_getElem? (i := 5) rfl) (List.mem_of_getElem? (i := 6) rfl) rfl (fun j hj => by match j, hj with | 0, _ => rfl | j + 1, hj => exact absurd hj (by omega)) (Nat.le_of_ble_eq_true rfl) (Nat.le_of_ble_eq_true rfl) dX7_withPrime_4 (fun rb_ H hW => ?_)
  have hW : gW g A s.heap H _ [(sb_, .inr (7, [.null, .null, .null, .null, .null])), (rb_, .inr (6, [.int (iI 0)]))] := hW
  refine lv_dup S0.1 S0.2.1 dX7_withPrime_7 rfl ?_
  refine lv_iload_n S0.1 S0.2.1 dX7_withPrime_8 rfl (lv_at hl 1 rfl) ?_
  refine q_cI (n := 1) (rest := [.ref rb_, .ref sb_, .ref sb_]) (wr := [(sb_, .inr (7, [.null, .null, .null, .null, .null]))]) S0 hK hA hW (c_X6_init l g rb_ 0 p_) gX7_withPrime_X6_init rfl rfl rfl (List.mem_of_getElem? (i := 11) rfl) (List.mem_of_getElem? (i := 6) rfl) (List.mem_of_getElem? (i := 12) rfl) rfl (by decide +kernel) ⟨Nat.le_of_ble_eq_true rfl, Nat.le_of_ble_eq_true rfl⟩ [1] [0] rfl rfl rfl rfl (by decide) (fun _ _ => trivial) (trivial) rfl rfl hl.1 (Nat.le_of_ble_eq_true rfl) ⟨Nat.le_of_ble_eq_true rfl, Nat.le_of_ble_eq_true rfl⟩ dX7_withPrime_9 (fun _ H locs _ hW => ?_)
  have hW : gW g A s.heap H _ [(sb_, .inr (7, [.null, .null, .null, .null, .null])), (rb_, .inr (6, [.int (iI p_)]))] := hW
  refine W.eq (g2 := F0 m 12 ls [.ref rb_, .ref sb_, .ref sb_]) rfl ?_
  refine lv_aload_n S0.1 S0.2.1 dX7_withPrime_12 rfl (lv_at hl 0 rfl) ?_
  refine q_get (C := RX7) (T := TX7) (N := 5) S0 hK (hfz _ _ _ hW) hinX7 0 rfl rfl 1 (by decide) (List.mem_of_getElem? (i := 7) rfl) rfl rfl dX7_withPrime_13 ?_
  refine lv_aload_n S0.1 S0.2.1 dX7_withPrime_16 rfl (lv_at hl 0 rfl) ?_
  refine q_get (C := RX7) (T := TX7) (N := 5) S0 hK (hfz _ _ _ hW) hinX7 0 rfl rfl 2 (by decide) (List.mem_of_getElem? (i := 8) rfl) rfl rfl dX7_withPrime_17 ?_
  refine lv_aload_n S0.1 S0.2.1 dX7_withPrime_20 rfl (lv_at hl 0 rfl) ?_
  refine q_get (C := RX7) (T := TX7) (N := 5) S0 hK (hfz _ _ _ hW) hinX7 0 rfl rfl 3 (by decide) (List.mem_of_getElem? (i := 9) rfl) rfl rfl dX7_withPrime_21 ?_
  refine lv_aload_n S0.1 S0.2.1 dX7_withPrime_24 rfl (lv_at hl 0 rfl) ?_
  refine q_get (C := RX7) (T := TX7) (N := 5) S0 hK (hfz _ _ _ hW) hinX7 0 rfl rfl 4 (by decide) (List.mem_of_getElem? (i := 10) rfl) rfl rfl dX7_withPrime_25 ?_
  refine q_cI (n := 5) (rest := [.ref sb_]) (wr := [(rb_, .inr (6, [.int (iI p_)]))]) S0 hK hA hW (c_X7_init l g sb_ rb_ f0 f1 f2 f3) gX7_withPrime_X7_init rfl rfl rfl (List.mem_of_getElem? (i := 18) rfl) (List.mem_of_getElem? (i := 3) rfl) (List.mem_of_getElem? (i := 19) rfl) rfl (by decide +kernel) ⟨Nat.le_of_ble_eq_true rfl, Nat.le_of_ble_eq_true rfl⟩ [0] [1] rfl rfl rfl rfl (by decide) (fun _ _ => trivial) (trivial) rfl rfl hl.1 (Nat.le_of_ble_eq_true rfl) ⟨Nat.le_of_ble_eq_true rfl, Nat.le_of_ble_eq_true rfl⟩ dX7_withPrime_28 (fun _ H locs _ hW => ?_)
  have hW : gW g A s.heap H _ [(rb_, .inr (6, [.int (iI p_)])), (sb_, .inr (7, [.ref rb_, .ref f0, .ref f1, .ref f2, .ref f3]))] := hW
  refine W.eq (g2 := F0 m 31 ls [.ref sb_]) rfl ?_
  exact q_aret S0 hr (Or.inl ⟨_, rfl⟩) hlocks (sb_, rb_) (trivial) (Or.inr ⟨_, rfl⟩) (rfl) (hW.sub [1, 0] rfl (rfl)) (Nat.le_of_ble_eq_true rfl) (Nat.le_of_ble_eq_true rfl) dX7_withPrime_31
