theorem cuU_keep : ∀ (k : Nat) (B : BT) (j u : Int), bN (cuU k B j u).1 = bN B ∧ bZ (cuU k B j u).1 = bZ B
  | 0, _, _, _ => ⟨rfl, rfl⟩
  | k + 1, B, j, u => by
    have h := cuU_keep k (sLike B j) (j + 1) (if flv B j = j then u + 1 else u)
    exact h
theorem sUn_keep (B : BT) : bN (sUn B) = bN B ∧ bZ (sUn B) = bZ B := cuU_keep _ _ _ _
theorem cuU_r : ∀ (k : Nat) (B : BT) (j u : Int), 0 ≤ u → 0 ≤ (cuU k B j u).2 ∧ (cuU k B j u).2 ≤ u + k
  | 0, _, _, u, h => by show 0 ≤ u ∧ u ≤ u + (0 : Nat); omega
  | k + 1, B, j, u, h => by
    have q := cuU_r k (sLike B j) (j + 1) (if flv B j = j then u + 1 else u) (by split <;> omega)
    have e : cuU (k + 1) B j u = cuU k (sLike B j) (j + 1) (if flv B j = j then u + 1 else u) := rfl
    rw [e]
    by_cases hc : flv B j = j
    · rw [if_pos hc] at q ⊢; omega
    · rw [if_neg hc] at q ⊢; omega
theorem nUn_r {B : BT} (h : WFB B) : 0 ≤ nUn B ∧ nUn B ≤ 40 := by
  have h1 := h.1
  have q := cuU_r (bN B).toNat B 0 0 (by omega)
  unfold nUn
  omega

set_option maxHeartbeats 4000000 in
set_option maxRecDepth 100000 in
/-- Arrays.copyOf, of no more than the row has -/
theorem c_J7_copyOf (l : Launch) (g : GG) (a n : Nat) (f : Nat → Int) (z : Int) (hz : 0 ≤ z ∧ z ≤ n ∧ n < 1000) : qMet l yJ7_copyOf_59c91 wsJ7_copyOf_59c91 ({ frames := 1, cells := 1, slots := z.toNat, locals := 40 }) g [.ref a, .int (iI z)] [(a, gI g n f)] (fun _ => True) (fun _ => True) (S := Nat) (fun u_ => some (.ref u_)) (fun u_ => [(a, gI g n f), (u_, gI g z.toNat f)]) (fun _ => True) 1 z.toNat := by
  refine q_ofW (cc := cJ7_copyOf_59c91) (maxL := 3) (ret := (some (.array .int))) (fun sz h => h.self) (by decide) rfl (Nat.le_of_ble_eq_true rfl) ?_
  intro p e s m args below meth c A ls S0 hr hlocks hnme hK hA hAe hW hD0 hX hl
  have hW : gW g A s.heap s.heap [] [(a, gI g n f)] := hW
  have hl : lv_has ls 3 [(0, .ref a), (1, .int (iI z))] := hl
  refine lv_iload_n S0.1 S0.2.1 dJ7_copyOf_59c91_0 rfl (lv_at hl 1 rfl) ?_
  refine lv_aload_n S0.1 S0.2.1 dJ7_copyOf_59c91_1 rfl (lv_at hl 0 rfl) ?_
  refine q_alen (z := ((n : Nat) : Int)) S0 hK hW.1 0 rfl rfl dJ7_copyOf_59c91_2 ?_
  refine q_icmp_ne (tgt := 14) S0 (by omega) dJ7_copyOf_59c91_3 (by decide) (fun c3 => ?_) (fun c3 => ?_)
  · skip
    refine lv_iload_n S0.1 S0.2.1 dJ7_copyOf_59c91_14 rfl (lv_at hl 1 rfl) ?_
    refine q_newI (N := z.toNat) S0 hK hA hW (List.mem_of_getElem? (i := 7) rfl) (by omega) (Nat.le_of_ble_eq_true rfl) (by show 0 + z.toNat ≤ z.toNat; omega) dJ7_copyOf_59c91_15 (fun q1 H hW => ?_)
    have hW : gW g A s.heap H _ [(a, gI g n f), (q1, gI g z.toNat (fun _ => 0))] := hW
    refine lv_astore_n (lv' := [(2, .ref q1), (0, .ref a), (1, .int (iI z))]) S0.1 S0.2.1 dJ7_copyOf_59c91_17 rfl hl (by decide) rfl (fun ls hl => ?_)
    refine lv_aload_n S0.1 S0.2.1 dJ7_copyOf_59c91_18 rfl (lv_at hl 1 rfl) ?_
    refine q_iconst S0 dJ7_copyOf_59c91_19 ?_
    refine lv_aload_n S0.1 S0.2.1 dJ7_copyOf_59c91_20 rfl (lv_at hl 0 rfl) ?_
    refine q_iconst S0 dJ7_copyOf_59c91_21 ?_
    refine lv_aload_n S0.1 S0.2.1 dJ7_copyOf_59c91_22 rfl (lv_at hl 1 rfl) ?_
    refine q_alen (z := ((n : Nat) : Int)) S0 hK hW.1 0 rfl rfl dJ7_copyOf_59c91_23 ?_
    refine lv_iload_n S0.1 S0.2.1 dJ7_copyOf_59c91_24 rfl (lv_at hl 2 rfl) ?_
    refine q_mmin S0 (by omega) (List.mem_of_getElem? (i := 8) rfl) (List.mem_of_getElem? (i := 9) rfl) (List.mem_of_getElem? (i := 10) rfl) (List.mem_of_getElem? (i := 11) rfl) hl.1 (Nat.le_of_ble_eq_true rfl) (Nat.le_of_ble_eq_true rfl) (Nat.le_of_ble_eq_true rfl) (by show 0 + z.toNat ≤ z.toNat; omega) dJ7_copyOf_59c91_25 ?_
    refine q_topI (b := z) (by omega) ?_
    refine q_copyI S0 hK hW (List.mem_of_getElem? (i := 12) rfl) (List.mem_of_getElem? (i := 13) rfl) (List.mem_of_getElem? (i := 14) rfl) (List.mem_of_getElem? (i := 15) rfl) 0 1 rfl rfl (by omega) hl.1 (Nat.le_of_ble_eq_true rfl) (Nat.le_of_ble_eq_true rfl) dJ7_copyOf_59c91_28 (fun H locs hW => ?_)
    have hW : gW g A s.heap H _ [(a, gI g n f), (q1, gI g z.toNat (fun j => if j < (z).toNat then f j else (fun _ => 0) j))] := hW
    refine lv_aload_n S0.1 S0.2.1 dJ7_copyOf_59c91_31 rfl (lv_at hl 0 rfl) ?_
    have hW := hW.cut 1 rfl f (fun j hj => if_pos hj)
    exact q_aret S0 hr (Or.inr ⟨_, rfl⟩) hlocks q1 (trivial) (Or.inr ⟨_, rfl⟩) (rfl) (hW.sub [0, 1] rfl (rfl)) (Nat.le_of_ble_eq_true rfl) (by omega) dJ7_copyOf_59c91_32
  · skip
    refine lv_aload_n S0.1 S0.2.1 dJ7_copyOf_59c91_6 rfl (lv_at hl 0 rfl) ?_
    refine q_cloneI S0 hK hA hW (List.mem_of_getElem? (i := 1) rfl) (List.mem_of_getElem? (i := 2) rfl) (List.mem_of_getElem? (i := 3) rfl) (List.mem_of_getElem? (i := 4) rfl) (List.mem_of_getElem? (i := 5) rfl) 0 rfl hl.1 (Nat.le_of_ble_eq_true rfl) (Nat.le_of_ble_eq_true rfl) (Nat.le_of_ble_eq_true rfl) (by show 0 + n ≤ z.toNat; omega) dJ7_copyOf_59c91_7 (fun q1 H hW => ?_)
    have hW : gW g A s.heap H _ [(a, gI g n f), (q1, gI g n f)] := hW
    refine q_castI S0 hK hW.1 (List.mem_of_getElem? (i := 6) rfl) 1 rfl dJ7_copyOf_59c91_10 ?_
    exact q_aret S0 hr (Or.inr ⟨_, rfl⟩) hlocks q1 (trivial) (Or.inr ⟨_, rfl⟩) (rfl) (hW.sub [0, 1] rfl (by rw [show z.toNat = n by omega]; rfl)) (Nat.le_of_ble_eq_true rfl) (by omega) dJ7_copyOf_59c91_13
set_option maxHeartbeats 4000000 in
set_option maxRecDepth 100000 in
theorem c_X0_filled (l : Launch) (g : GG) (b k1 k2 k3 k4 k5 k6 s1 s2 ra : Nat) (B : BT) (f : Nat → Int) (hn : 0 ≤ bN B ∧ bN B ≤ 40) : qMet l yX0_filled wsX0_filled ({ frames := 2, cells := 1, slots := (bN B).toNat, locals := 62 }) g [.ref b, .ref ra] [(b, .inr (0, [.ref k1, .ref k2, .ref k3, .ref k4, .ref k5, .ref k6, .int (iI (bN B)), .int (iI (bZ B)), .ref s1, .ref s2])), (ra, gI g 40 f)] (fun _ => True) (fun _ => True) (S := Nat) (fun u_ => some (.ref u_)) (fun u_ => [(b, .inr (0, [.ref k1, .ref k2, .ref k3, .ref k4, .ref k5, .ref k6, .int (iI (bN B)), .int (iI (bZ B)), .ref s1, .ref s2])), (ra, gI g 40 f), (u_, gI g ((bN B).toNat) f)]) (fun _ => True) 1 ((bN B).toNat) := by
  refine q_ofW (cc := cX0_filled) (maxL := 2) (ret := (some (.array .int))) (fun sz h => h.self) (by decide) rfl (Nat.le_of_ble_eq_true rfl) ?_
  intro p e s m args below meth c A ls S0 hr hlocks hnme hK hA hAe hW hD0 hX hl
  have hW : gW g A s.heap s.heap [] [(b, .inr (0, [.ref k1, .ref k2, .ref k3, .ref k4, .ref k5, .ref k6, .int (iI (bN B)), .int (iI (bZ B)), .ref s1, .ref s2])), (ra, gI g 40 f)] := hW
  have hl : lv_has ls 2 [(0, .ref b), (1, .ref ra)] := hl
  have hinX0 : ∀ w ∈ wsX00, w ∈ wsX0_filled := fun w h => List.mem_cons_of_mem _ (List.mem_append_right _ h)
  refine lv_aload_n S0.1 S0.2.1 dX0_filled_0 rfl (lv_at hl 1 rfl) ?_
  refine q_iconst S0 dX0_filled_1 ?_
  refine lv_aload_n S0.1 S0.2.1 dX0_filled_2 rfl (lv_at hl 0 rfl) ?_
  refine q_get (C := RX0) (T := TX0) (N := 10) S0 hK hW.1 hinX0 0 rfl rfl 6 (by decide) (List.mem_of_getElem? (i := 1) rfl) rfl rfl dX0_filled_3 ?_
  refine q_mmax S0 (by omega) (List.mem_of_getElem? (i := 2) rfl) (List.mem_of_getElem? (i := 3) rfl) (List.mem_of_getElem? (i := 4) rfl) (List.mem_of_getElem? (i := 5) rfl) hl.1 (Nat.le_of_ble_eq_true rfl) (Nat.le_of_ble_eq_true rfl) (Nat.le_of_ble_eq_true rfl) (Nat.le_of_ble_eq_true rfl) dX0_filled_6 ?_
  refine q_topI (b := bN B) (by omega) ?_
  refine q_cS (n := 2) (rest := []) (wr := [(b, .inr (0, [.ref k1, .ref k2, .ref k3, .ref k4, .ref k5, .ref k6, .int (iI (bN B)), .int (iI (bZ B)), .ref s1, .ref s2]))]) S0 hK hA hW (c_J7_copyOf l g ra 40 f (bN B) (by omega)) gX0_filled_J7_copyOf_59c91 rfl rfl rfl (by decide +kernel) ⟨Nat.le_of_ble_eq_true rfl, Nat.le_of_ble_eq_true rfl⟩ [1] [0] rfl rfl rfl rfl (by decide) (fun _ _ => trivial) (trivial) rfl rfl hl.1 (Nat.le_of_ble_eq_true rfl) ⟨Nat.le_of_ble_eq_true rfl, by show 0 + (bN B).toNat ≤ (bN B).toNat; omega⟩ dX0_filled_9 ?_
  rintro q1 H locs _ hW
  have hW : gW g A s.heap H _ [(b, .inr (0, [.ref k1, .ref k2, .ref k3, .ref k4, .ref k5, .ref k6, .int (iI (bN B)), .int (iI (bZ B)), .ref s1, .ref s2])), (ra, gI g 40 f), (q1, gI g ((bN B).toNat) f)] := hW
  refine W.eq (g2 := F0 m 12 ls [.ref q1]) rfl ?_
  exact q_aret S0 hr (Or.inr ⟨_, rfl⟩) hlocks q1 (trivial) (Or.inr ⟨_, rfl⟩) (rfl) (hW.sub [0, 1, 2] rfl (rfl)) (Nat.le_of_ble_eq_true rfl) (by omega) dX0_filled_12
set_option maxHeartbeats 4000000 in
set_option maxRecDepth 100000 in
theorem c_X0_areAlike (l : Launch) (g : GG) (b k1 k2 k3 k4 k5 k6 s1 s2 : Nat) (B : BT) (x y : Int) (hB : WFB B) (hx : 0 ≤ x ∧ x < 40) (hy : 0 ≤ y ∧ y < 40) : qPure l yX0_areAlike wsX0_areAlike ({ frames := 1, cells := 0, slots := 0, locals := 21 }) g [.ref b, .int (iI x), .int (iI y)] [(b, .inr (0, [.ref k1, .ref k2, .ref k3, .ref k4, .ref k5, .ref k6, .int (iI (bN B)), .int (iI (bZ B)), .ref s1, .ref s2])), (k1, gI g 40 (bK B)), (k2, gI g 40 (bU B)), (k3, gI g 40 (bL B)), (k4, gI g 40 (bV B)), (k6, gI g 40 (bE B))] (fun _ => True) (some (.int (iI (if aAl B x y then (1 : Int) else 0)))) := by
  refine q_ofP (cc := cX0_areAlike) (maxL := 3) (ret := (some .boolean)) (by decide) rfl (Nat.le_of_ble_eq_true rfl) ?_
  intro p e s m args below meth c ls S0 hr hlocks hK hP hX hl
  have hP : va_P g.1 vwCl [(b, .inr (0, [.ref k1, .ref k2, .ref k3, .ref k4, .ref k5, .ref k6, .int (iI (bN B)), .int (iI (bZ B)), .ref s1, .ref s2])), (k1, gI g 40 (bK B)), (k2, gI g 40 (bU B)), (k3, gI g 40 (bL B)), (k4, gI g 40 (bV B)), (k6, gI g 40 (bE B))] s.heap := hP
  have hl : lv_has ls 3 [(0, .ref b), (1, .int (iI x)), (2, .int (iI y))] := hl
  have hinX0 : ∀ w ∈ wsX00, w ∈ wsX0_areAlike := fun w h => List.mem_cons_of_mem _ (List.mem_append_right _ h)
  obtain ⟨h1, h2, h3, h4, h5, h6, h7, h8, h9⟩ := id hB
  have a1 := at0_bnd (n := 40) (i := x) (P := fun v => -1 ≤ v ∧ v ≤ 65535) h5 (by omega)
  have a2 := at0_bnd (n := 40) (i := y) (P := fun v => -1 ≤ v ∧ v ≤ 65535) h5 (by omega)
  have a3 := at0_bnd (n := 40) (i := x) (P := fun v => 0 ≤ v ∧ v ≤ 999) h4 (by omega)
  have a4 := at0_bnd (n := 40) (i := y) (P := fun v => 0 ≤ v ∧ v ≤ 999) h4 (by omega)
  have a5 := at0_bnd (n := 40) (i := x) (P := fun v => -1 ≤ v ∧ v ≤ 65535) h6 (by omega)
  have a6 := at0_bnd (n := 40) (i := y) (P := fun v => -1 ≤ v ∧ v ≤ 65535) h6 (by omega)
  have a7 := at0_bnd (n := 40) (i := x) (P := fun v => -1 ≤ v ∧ v ≤ 65535) h7 (by omega)
  have a8 := at0_bnd (n := 40) (i := y) (P := fun v => -1 ≤ v ∧ v ≤ 65535) h7 (by omega)
  have a9 := at0_bnd (n := 40) (i := at0 40 (bL B) x) (P := fun v => -1 ≤ v ∧ v ≤ 65535) h8 (by omega)
  have b1 := at0_bnd (n := 40) (i := at0 40 (bL B) y) (P := fun v => -1 ≤ v ∧ v ≤ 65535) h8 (by omega)
  have b2 := at0_bnd (n := 40) (i := at0 40 (bV B) x) (P := fun v => -1 ≤ v ∧ v ≤ 65535) h8 (by omega)
  have b3 := at0_bnd (n := 40) (i := at0 40 (bV B) y) (P := fun v => -1 ≤ v ∧ v ≤ 65535) h8 (by omega)
  refine lv_aload_n S0.1 S0.2.1 dX0_areAlike_0 rfl (lv_at hl 0 rfl) ?_
  refine q_get (C := RX0) (T := TX0) (N := 10) S0 hK hP hinX0 0 rfl rfl 0 (by decide) (List.mem_of_getElem? (i := 1) rfl) rfl rfl dX0_areAlike_1 ?_
  refine lv_iload_n S0.1 S0.2.1 dX0_areAlike_4 rfl (lv_at hl 1 rfl) ?_
  refine q_pSN (n := 2) (rest := []) S0 hK (c_X10_at l g k1 40 (bK B) x (by omega) (by omega)) (subP hP [1] rfl) (trivial) gX0_areAlike_X10_at_n61 rfl rfl rfl 7 rfl (List.mem_of_getElem? (i := 7) rfl) (List.mem_of_getElem? (i := 6) rfl) (by decide +kernel) ⟨Nat.le_of_ble_eq_true rfl, Nat.le_of_ble_eq_true rfl⟩ rfl rfl hl.1 (Nat.le_of_ble_eq_true rfl) ⟨Nat.le_of_ble_eq_true rfl, Nat.le_of_ble_eq_true rfl⟩ dX0_areAlike_5 ?_
  refine W.eq (g2 := F0 m 8 ls [.int (iI (at0 40 (bK B) x))]) rfl ?_
  refine lv_aload_n S0.1 S0.2.1 dX0_areAlike_8 rfl (lv_at hl 0 rfl) ?_
  refine q_get (C := RX0) (T := TX0) (N := 10) S0 hK hP hinX0 0 rfl rfl 0 (by decide) (List.mem_of_getElem? (i := 1) rfl) rfl rfl dX0_areAlike_9 ?_
  refine lv_iload_n S0.1 S0.2.1 dX0_areAlike_12 rfl (lv_at hl 2 rfl) ?_
  refine q_pSN (n := 2) (rest := [.int (iI (at0 40 (bK B) x))]) S0 hK (c_X10_at l g k1 40 (bK B) y (by omega) (by omega)) (subP hP [1] rfl) (trivial) gX0_areAlike_X10_at_n61 rfl rfl rfl 7 rfl (List.mem_of_getElem? (i := 7) rfl) (List.mem_of_getElem? (i := 6) rfl) (by decide +kernel) ⟨Nat.le_of_ble_eq_true rfl, Nat.le_of_ble_eq_true rfl⟩ rfl rfl hl.1 (Nat.le_of_ble_eq_true rfl) ⟨Nat.le_of_ble_eq_true rfl, Nat.le_of_ble_eq_true rfl⟩ dX0_areAlike_13 ?_
  refine W.eq (g2 := F0 m 16 ls [.int (iI (at0 40 (bK B) y)), .int (iI (at0 40 (bK B) x))]) rfl ?_
  refine q_icmp_ne (tgt := 108) S0 (by omega) dX0_areAlike_16 (by decide) (fun c16 => ?_) (fun c16 => ?_)
  · skip
    refine q_iconst S0 dX0_areAlike_108 ?_
    exact qp_zret S0 hr hlocks (by first | exact Or.inl rfl | exact Or.inr rfl | omega) (by first | (rw [if_pos (by refine ⟨?_, ?_, ?_, ?_⟩ <;> assumption)]; done) | (rw [if_neg (by rintro ⟨z1, z2, z3, z4⟩; contradiction)]; done)) dX0_areAlike_109
  · skip
    refine lv_aload_n S0.1 S0.2.1 dX0_areAlike_19 rfl (lv_at hl 0 rfl) ?_
    refine q_get (C := RX0) (T := TX0) (N := 10) S0 hK hP hinX0 0 rfl rfl 1 (by decide) (List.mem_of_getElem? (i := 2) rfl) rfl rfl dX0_areAlike_20 ?_
    refine lv_iload_n S0.1 S0.2.1 dX0_areAlike_23 rfl (lv_at hl 1 rfl) ?_
    refine q_pSN (n := 2) (rest := []) S0 hK (c_X10_at l g k2 40 (bU B) x (by omega) (by omega)) (subP hP [2] rfl) (trivial) gX0_areAlike_X10_at_n61 rfl rfl rfl 7 rfl (List.mem_of_getElem? (i := 7) rfl) (List.mem_of_getElem? (i := 6) rfl) (by decide +kernel) ⟨Nat.le_of_ble_eq_true rfl, Nat.le_of_ble_eq_true rfl⟩ rfl rfl hl.1 (Nat.le_of_ble_eq_true rfl) ⟨Nat.le_of_ble_eq_true rfl, Nat.le_of_ble_eq_true rfl⟩ dX0_areAlike_24 ?_
    refine W.eq (g2 := F0 m 27 ls [.int (iI (at0 40 (bU B) x))]) rfl ?_
    refine lv_aload_n S0.1 S0.2.1 dX0_areAlike_27 rfl (lv_at hl 0 rfl) ?_
    refine q_get (C := RX0) (T := TX0) (N := 10) S0 hK hP hinX0 0 rfl rfl 1 (by decide) (List.mem_of_getElem? (i := 2) rfl) rfl rfl dX0_areAlike_28 ?_
    refine lv_iload_n S0.1 S0.2.1 dX0_areAlike_31 rfl (lv_at hl 2 rfl) ?_
    refine q_pSN (n := 2) (rest := [.int (iI (at0 40 (bU B) x))]) S0 hK (c_X10_at l g k2 40 (bU B) y (by omega) (by omega)) (subP hP [2] rfl) (trivial) gX0_areAlike_X10_at_n61 rfl rfl rfl 7 rfl (List.mem_of_getElem? (i := 7) rfl) (List.mem_of_getElem? (i := 6) rfl) (by decide +kernel) ⟨Nat.le_of_ble_eq_true rfl, Nat.le_of_ble_eq_true rfl⟩ rfl rfl hl.1 (Nat.le_of_ble_eq_true rfl) ⟨Nat.le_of_ble_eq_true rfl, Nat.le_of_ble_eq_true rfl⟩ dX0_areAlike_32 ?_
    refine W.eq (g2 := F0 m 35 ls [.int (iI (at0 40 (bU B) y)), .int (iI (at0 40 (bU B) x))]) rfl ?_
    refine q_icmp_ne (tgt := 108) S0 (by omega) dX0_areAlike_35 (by decide) (fun c35 => ?_) (fun c35 => ?_)
    · skip
      refine q_iconst S0 dX0_areAlike_108 ?_
      exact qp_zret S0 hr hlocks (by first | exact Or.inl rfl | exact Or.inr rfl | omega) (by first | (rw [if_pos (by refine ⟨?_, ?_, ?_, ?_⟩ <;> assumption)]; done) | (rw [if_neg (by rintro ⟨z1, z2, z3, z4⟩; contradiction)]; done)) dX0_areAlike_109
    · skip
      refine lv_aload_n S0.1 S0.2.1 dX0_areAlike_38 rfl (lv_at hl 0 rfl) ?_
      refine q_get (C := RX0) (T := TX0) (N := 10) S0 hK hP hinX0 0 rfl rfl 5 (by decide) (List.mem_of_getElem? (i := 3) rfl) rfl rfl dX0_areAlike_39 ?_
      refine lv_aload_n S0.1 S0.2.1 dX0_areAlike_42 rfl (lv_at hl 0 rfl) ?_
      refine q_get (C := RX0) (T := TX0) (N := 10) S0 hK hP hinX0 0 rfl rfl 2 (by decide) (List.mem_of_getElem? (i := 4) rfl) rfl rfl dX0_areAlike_43 ?_
      refine lv_iload_n S0.1 S0.2.1 dX0_areAlike_46 rfl (lv_at hl 1 rfl) ?_
      refine q_pSN (n := 2) (rest := [.ref k6]) S0 hK (c_X10_at l g k3 40 (bL B) x (by omega) (by omega)) (subP hP [3] rfl) (trivial) gX0_areAlike_X10_at_n61 rfl rfl rfl 7 rfl (List.mem_of_getElem? (i := 7) rfl) (List.mem_of_getElem? (i := 6) rfl) (by decide +kernel) ⟨Nat.le_of_ble_eq_true rfl, Nat.le_of_ble_eq_true rfl⟩ rfl rfl hl.1 (Nat.le_of_ble_eq_true rfl) ⟨Nat.le_of_ble_eq_true rfl, Nat.le_of_ble_eq_true rfl⟩ dX0_areAlike_47 ?_
      refine W.eq (g2 := F0 m 50 ls [.int (iI (at0 40 (bL B) x)), .ref k6]) rfl ?_
      refine q_pSN (n := 2) (rest := []) S0 hK (c_X10_at l g k6 40 (bE B) (at0 40 (bL B) x) (by omega) (by omega)) (subP hP [5] rfl) (trivial) gX0_areAlike_X10_at_n61 rfl rfl rfl 7 rfl (List.mem_of_getElem? (i := 7) rfl) (List.mem_of_getElem? (i := 6) rfl) (by decide +kernel) ⟨Nat.le_of_ble_eq_true rfl, Nat.le_of_ble_eq_true rfl⟩ rfl rfl hl.1 (Nat.le_of_ble_eq_true rfl) ⟨Nat.le_of_ble_eq_true rfl, Nat.le_of_ble_eq_true rfl⟩ dX0_areAlike_50 ?_
      refine W.eq (g2 := F0 m 53 ls [.int (iI (at0 40 (bE B) (at0 40 (bL B) x)))]) rfl ?_
      refine lv_aload_n S0.1 S0.2.1 dX0_areAlike_53 rfl (lv_at hl 0 rfl) ?_
      refine q_get (C := RX0) (T := TX0) (N := 10) S0 hK hP hinX0 0 rfl rfl 5 (by decide) (List.mem_of_getElem? (i := 3) rfl) rfl rfl dX0_areAlike_54 ?_
      refine lv_aload_n S0.1 S0.2.1 dX0_areAlike_57 rfl (lv_at hl 0 rfl) ?_
      refine q_get (C := RX0) (T := TX0) (N := 10) S0 hK hP hinX0 0 rfl rfl 2 (by decide) (List.mem_of_getElem? (i := 4) rfl) rfl rfl dX0_areAlike_58 ?_
      refine lv_iload_n S0.1 S0.2.1 dX0_areAlike_61 rfl (lv_at hl 2 rfl) ?_
      refine q_pSN (n := 2) (rest := [.ref k6, .int (iI (at0 40 (bE B) (at0 40 (bL B) x)))]) S0 hK (c_X10_at l g k3 40 (bL B) y (by omega) (by omega)) (subP hP [3] rfl) (trivial) gX0_areAlike_X10_at_n61 rfl rfl rfl 7 rfl (List.mem_of_getElem? (i := 7) rfl) (List.mem_of_getElem? (i := 6) rfl) (by decide +kernel) ⟨Nat.le_of_ble_eq_true rfl, Nat.le_of_ble_eq_true rfl⟩ rfl rfl hl.1 (Nat.le_of_ble_eq_true rfl) ⟨Nat.le_of_ble_eq_true rfl, Nat.le_of_ble_eq_true rfl⟩ dX0_areAlike_62 ?_
      refine W.eq (g2 := F0 m 65 ls [.int (iI (at0 40 (bL B) y)), .ref k6, .int (iI (at0 40 (bE B) (at0 40 (bL B) x)))]) rfl ?_
      refine q_pSN (n := 2) (rest := [.int (iI (at0 40 (bE B) (at0 40 (bL B) x)))]) S0 hK (c_X10_at l g k6 40 (bE B) (at0 40 (bL B) y) (by omega) (by omega)) (subP hP [5] rfl) (trivial) gX0_areAlike_X10_at_n61 rfl rfl rfl 7 rfl (List.mem_of_getElem? (i := 7) rfl) (List.mem_of_getElem? (i := 6) rfl) (by decide +kernel) ⟨Nat.le_of_ble_eq_true rfl, Nat.le_of_ble_eq_true rfl⟩ rfl rfl hl.1 (Nat.le_of_ble_eq_true rfl) ⟨Nat.le_of_ble_eq_true rfl, Nat.le_of_ble_eq_true rfl⟩ dX0_areAlike_65 ?_
      refine W.eq (g2 := F0 m 68 ls [.int (iI (at0 40 (bE B) (at0 40 (bL B) y))), .int (iI (at0 40 (bE B) (at0 40 (bL B) x)))]) rfl ?_
      refine q_icmp_ne (tgt := 108) S0 (by omega) dX0_areAlike_68 (by decide) (fun c68 => ?_) (fun c68 => ?_)
      · skip
        refine q_iconst S0 dX0_areAlike_108 ?_
        exact qp_zret S0 hr hlocks (by first | exact Or.inl rfl | exact Or.inr rfl | omega) (by first | (rw [if_pos (by refine ⟨?_, ?_, ?_, ?_⟩ <;> assumption)]; done) | (rw [if_neg (by rintro ⟨z1, z2, z3, z4⟩; contradiction)]; done)) dX0_areAlike_109
      · skip
        refine lv_aload_n S0.1 S0.2.1 dX0_areAlike_71 rfl (lv_at hl 0 rfl) ?_
        refine q_get (C := RX0) (T := TX0) (N := 10) S0 hK hP hinX0 0 rfl rfl 5 (by decide) (List.mem_of_getElem? (i := 3) rfl) rfl rfl dX0_areAlike_72 ?_
        refine lv_aload_n S0.1 S0.2.1 dX0_areAlike_75 rfl (lv_at hl 0 rfl) ?_
        refine q_get (C := RX0) (T := TX0) (N := 10) S0 hK hP hinX0 0 rfl rfl 3 (by decide) (List.mem_of_getElem? (i := 5) rfl) rfl rfl dX0_areAlike_76 ?_
        refine lv_iload_n S0.1 S0.2.1 dX0_areAlike_79 rfl (lv_at hl 1 rfl) ?_
        refine q_pSN (n := 2) (rest := [.ref k6]) S0 hK (c_X10_at l g k4 40 (bV B) x (by omega) (by omega)) (subP hP [4] rfl) (trivial) gX0_areAlike_X10_at_n61 rfl rfl rfl 7 rfl (List.mem_of_getElem? (i := 7) rfl) (List.mem_of_getElem? (i := 6) rfl) (by decide +kernel) ⟨Nat.le_of_ble_eq_true rfl, Nat.le_of_ble_eq_true rfl⟩ rfl rfl hl.1 (Nat.le_of_ble_eq_true rfl) ⟨Nat.le_of_ble_eq_true rfl, Nat.le_of_ble_eq_true rfl⟩ dX0_areAlike_80 ?_
        refine W.eq (g2 := F0 m 83 ls [.int (iI (at0 40 (bV B) x)), .ref k6]) rfl ?_
        refine q_pSN (n := 2) (rest := []) S0 hK (c_X10_at l g k6 40 (bE B) (at0 40 (bV B) x) (by omega) (by omega)) (subP hP [5] rfl) (trivial) gX0_areAlike_X10_at_n61 rfl rfl rfl 7 rfl (List.mem_of_getElem? (i := 7) rfl) (List.mem_of_getElem? (i := 6) rfl) (by decide +kernel) ⟨Nat.le_of_ble_eq_true rfl, Nat.le_of_ble_eq_true rfl⟩ rfl rfl hl.1 (Nat.le_of_ble_eq_true rfl) ⟨Nat.le_of_ble_eq_true rfl, Nat.le_of_ble_eq_true rfl⟩ dX0_areAlike_83 ?_
        refine W.eq (g2 := F0 m 86 ls [.int (iI (at0 40 (bE B) (at0 40 (bV B) x)))]) rfl ?_
        refine lv_aload_n S0.1 S0.2.1 dX0_areAlike_86 rfl (lv_at hl 0 rfl) ?_
        refine q_get (C := RX0) (T := TX0) (N := 10) S0 hK hP hinX0 0 rfl rfl 5 (by decide) (List.mem_of_getElem? (i := 3) rfl) rfl rfl dX0_areAlike_87 ?_
        refine lv_aload_n S0.1 S0.2.1 dX0_areAlike_90 rfl (lv_at hl 0 rfl) ?_
        refine q_get (C := RX0) (T := TX0) (N := 10) S0 hK hP hinX0 0 rfl rfl 3 (by decide) (List.mem_of_getElem? (i := 5) rfl) rfl rfl dX0_areAlike_91 ?_
        refine lv_iload_n S0.1 S0.2.1 dX0_areAlike_94 rfl (lv_at hl 2 rfl) ?_
        refine q_pSN (n := 2) (rest := [.ref k6, .int (iI (at0 40 (bE B) (at0 40 (bV B) x)))]) S0 hK (c_X10_at l g k4 40 (bV B) y (by omega) (by omega)) (subP hP [4] rfl) (trivial) gX0_areAlike_X10_at_n61 rfl rfl rfl 7 rfl (List.mem_of_getElem? (i := 7) rfl) (List.mem_of_getElem? (i := 6) rfl) (by decide +kernel) ⟨Nat.le_of_ble_eq_true rfl, Nat.le_of_ble_eq_true rfl⟩ rfl rfl hl.1 (Nat.le_of_ble_eq_true rfl) ⟨Nat.le_of_ble_eq_true rfl, Nat.le_of_ble_eq_true rfl⟩ dX0_areAlike_95 ?_
        refine W.eq (g2 := F0 m 98 ls [.int (iI (at0 40 (bV B) y)), .ref k6, .int (iI (at0 40 (bE B) (at0 40 (bV B) x)))]) rfl ?_
        refine q_pSN (n := 2) (rest := [.int (iI (at0 40 (bE B) (at0 40 (bV B) x)))]) S0 hK (c_X10_at l g k6 40 (bE B) (at0 40 (bV B) y) (by omega) (by omega)) (subP hP [5] rfl) (trivial) gX0_areAlike_X10_at_n61 rfl rfl rfl 7 rfl (List.mem_of_getElem? (i := 7) rfl) (List.mem_of_getElem? (i := 6) rfl) (by decide +kernel) ⟨Nat.le_of_ble_eq_true rfl, Nat.le_of_ble_eq_true rfl⟩ rfl rfl hl.1 (Nat.le_of_ble_eq_true rfl) ⟨Nat.le_of_ble_eq_true rfl, Nat.le_of_ble_eq_true rfl⟩ dX0_areAlike_98 ?_
        refine W.eq (g2 := F0 m 101 ls [.int (iI (at0 40 (bE B) (at0 40 (bV B) y))), .int (iI (at0 40 (bE B) (at0 40 (bV B) x)))]) rfl ?_
        refine q_icmp_ne (tgt := 108) S0 (by omega) dX0_areAlike_101 (by decide) (fun c101 => ?_) (fun c101 => ?_)
        · skip
          refine q_iconst S0 dX0_areAlike_108 ?_
          exact qp_zret S0 hr hlocks (by first | exact Or.inl rfl | exact Or.inr rfl | omega) (by first | (rw [if_pos (by refine ⟨?_, ?_, ?_, ?_⟩ <;> assumption)]; done) | (rw [if_neg (by rintro ⟨z1, z2, z3, z4⟩; contradiction)]; done)) dX0_areAlike_109
        · skip
          refine q_iconst S0 dX0_areAlike_104 ?_
          refine lv_goto (tgt := 109) S0.1 S0.2.1 dX0_areAlike_105 (by decide) ?_
          exact qp_zret S0 hr hlocks (by first | exact Or.inl rfl | exact Or.inr rfl | omega) (by first | (rw [if_pos (by refine ⟨?_, ?_, ?_, ?_⟩ <;> assumption)]; done) | (rw [if_neg (by rintro ⟨z1, z2, z3, z4⟩; contradiction)]; done)) dX0_areAlike_109
set_option maxHeartbeats 4000000 in
set_option maxRecDepth 100000 in
theorem c_X0_firstLike (l : Launch) (g : GG) (b k1 k2 k3 k4 k5 k6 s1 s2 : Nat) (B : BT) (y : Int) (hB : WFB B) (hy : 0 ≤ y ∧ y < 40) : qPure l yX0_firstLike wsX0_firstLike ({ frames := 2, cells := 0, slots := 0, locals := 43 }) g [.ref b, .int (iI y)] [(b, .inr (0, [.ref k1, .ref k2, .ref k3, .ref k4, .ref k5, .ref k6, .int (iI (bN B)), .int (iI (bZ B)), .ref s1, .ref s2])), (k1, gI g 40 (bK B)), (k2, gI g 40 (bU B)), (k3, gI g 40 (bL B)), (k4, gI g 40 (bV B)), (k6, gI g 40 (bE B))] (fun _ => True) (some (.int (iI (flv B y)))) := by
  refine q_ofP (cc := cX0_firstLike) (maxL := 3) (ret := (some .int)) (by decide) rfl (Nat.le_of_ble_eq_true rfl) ?_
  intro p e s m args below meth c ls S0 hr hlocks hK hP hX hl
  have hP : va_P g.1 vwCl [(b, .inr (0, [.ref k1, .ref k2, .ref k3, .ref k4, .ref k5, .ref k6, .int (iI (bN B)), .int (iI (bZ B)), .ref s1, .ref s2])), (k1, gI g 40 (bK B)), (k2, gI g 40 (bU B)), (k3, gI g 40 (bL B)), (k4, gI g 40 (bV B)), (k6, gI g 40 (bE B))] s.heap := hP
  have hl : lv_has ls 3 [(0, .ref b), (1, .int (iI y))] := hl
  refine q_iconst S0 dX0_firstLike_0 ?_
  refine lv_istore_n (lv' := [(2, .int (iI 0)), (0, .ref b), (1, .int (iI y))]) S0.1 S0.2.1 dX0_firstLike_1 rfl hl (by decide) rfl (fun ls hl => ?_)
  refine q_loopP (α := Int) (fun (i : Int) => 0 ≤ i ∧ i ≤ y ∧ flk B y (y - i).toNat i = flv B y) (fun (i : Int) => (y - i).toNat) (fun (i : Int) => [(2, .int (iI i)), (0, .ref b), (1, .int (iI y))]) ?_ 0 (by refine ⟨by omega, by omega, by rw [show y - 0 = y by omega]; rfl⟩) (lv_sub hl [0, 1, 2] rfl)
  rintro i hinv IHl ls hl
  try dsimp only at hinv
  have hl : lv_has ls 3 [(2, .int (iI i)), (0, .ref b), (1, .int (iI y))] := hl
  obtain ⟨hi1, hi2, heq⟩ := hinv
  refine lv_iload_n S0.1 S0.2.1 dX0_firstLike_2 rfl (lv_at hl 0 rfl) ?_
  refine lv_iload_n S0.1 S0.2.1 dX0_firstLike_3 rfl (lv_at hl 2 rfl) ?_
  refine q_icmp_ge (tgt := 24) S0 (by omega) dX0_firstLike_4 (by decide) (fun c4 => ?_) (fun c4 => ?_)
  · skip
    refine lv_iload_n S0.1 S0.2.1 dX0_firstLike_24 rfl (lv_at hl 2 rfl) ?_
    exact qp_iret S0 hr hlocks (by rw [← heq, show (y - i).toNat = 0 by omega]; rfl) dX0_firstLike_25
  · skip
    refine lv_aload_n S0.1 S0.2.1 dX0_firstLike_7 rfl (lv_at hl 1 rfl) ?_
    refine lv_iload_n S0.1 S0.2.1 dX0_firstLike_8 rfl (lv_at hl 0 rfl) ?_
    refine lv_iload_n S0.1 S0.2.1 dX0_firstLike_9 rfl (lv_at hl 2 rfl) ?_
    refine q_pV (n := 2) (rest := []) S0 hK (c_X0_areAlike l g b k1 k2 k3 k4 k5 k6 s1 s2 B i y (hB) (by omega) (by omega)) (subP hP [0, 1, 2, 3, 4, 5] rfl) (trivial) gX0_firstLike_X0_areAlike rfl rfl rfl (by decide +kernel) ⟨Nat.le_of_ble_eq_true rfl, Nat.le_of_ble_eq_true rfl⟩ (q_recv hK hP (ci := 0) (q0 := 0) rfl rfl) rfl rfl hl.1 (Nat.le_of_ble_eq_true rfl) ⟨Nat.le_of_ble_eq_true rfl, Nat.le_of_ble_eq_true rfl⟩ dX0_firstLike_10 ?_
    refine W.eq (g2 := F0 m 13 ls [.int (iI (if aAl B i y then (1 : Int) else 0))]) rfl ?_
    refine q_if_eqP (tgt := 18) S0 dX0_firstLike_13 (by decide) (fun c13 => ?_) (fun c13 => ?_)
    · skip
      refine q_iinc (lv' := [(2, .int (iI (i + 1))), (0, .ref b), (1, .int (iI y))]) S0 dX0_firstLike_18 hl (k := 0) rfl (by decide) rfl (fun ls hl => ?_)
      refine lv_goto (tgt := 2) S0.1 S0.2.1 dX0_firstLike_21 (by decide) ?_
      exact IHl (i + 1) ls (by refine ⟨by omega, by omega, ?_⟩; rw [← heq, show (y - i).toNat = (y - (i + 1)).toNat + 1 by omega, flk_step _ c13]) (by (try dsimp only); omega) (lv_sub hl [0, 1, 2] rfl)
    · skip
      refine lv_iload_n S0.1 S0.2.1 dX0_firstLike_16 rfl (lv_at hl 0 rfl) ?_
      exact qp_iret S0 hr hlocks (by rw [← heq, show (y - i).toNat = (y - (i + 1)).toNat + 1 by omega, flk_hit _ c13]) dX0_firstLike_17
