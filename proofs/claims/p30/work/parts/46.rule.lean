def RSLP (l : Launch) (g : GG) (F : FT) (d : Nat) : Prop := ∀ (rk t0 q0 t1 q1 t2 q2 t3 q3 t4 q4 t5 q5 : Nat) (r : RT) (u x : Int), 0 ≤ u → u < d → u < 4 → 0 ≤ x ∧ x < fP F → RI F r → qMet l yX5_ruleSlope wsX5_ruleSlope ({ frames := 4 * d + 20, cells := 0, slots := 0, locals := 120 * d + 600 }) g [.ref rk, .int (iI u), .int (iI x)] [(rk, .inr (5, [.ref t0, .ref t1, .ref t2, .ref t3, .ref t4, .ref t5, .ref (fS F)])), (t0, .inr (8, [.int (iI 199), .ref q0])), (q0, gI g 796 (rV r)), (t1, .inr (8, [.int (iI 199), .ref q1])), (q1, gI g 796 (rH r)), (t2, .inr (8, [.int (iI 199), .ref q2])), (q2, gI g 796 (rR r)), (t3, .inr (8, [.int (iI 40), .ref q3])), (q3, gI g 160 (nV r)), (t4, .inr (8, [.int (iI 40), .ref q4])), (q4, gI g 160 (nS r)), (t5, .inr (8, [.int (iI 40), .ref q5])), (q5, gI g 160 (nW r))] (fun q => ¬ fzA F q) (FX g F) (S := RT) (fun u_ => some (.int (iI (hh (fP F) (fE F) u.toNat x)))) (fun u_ => [(rk, .inr (5, [.ref t0, .ref t1, .ref t2, .ref t3, .ref t4, .ref t5, .ref (fS F)])), (t0, .inr (8, [.int (iI 199), .ref q0])), (q0, gI g 796 (rV u_)), (t1, .inr (8, [.int (iI 199), .ref q1])), (q1, gI g 796 (rH u_)), (t2, .inr (8, [.int (iI 199), .ref q2])), (q2, gI g 796 (rR u_)), (t3, .inr (8, [.int (iI 40), .ref q3])), (q3, gI g 160 (nV u_)), (t4, .inr (8, [.int (iI 40), .ref q4])), (q4, gI g 160 (nS u_)), (t5, .inr (8, [.int (iI 40), .ref q5])), (q5, gI g 160 (nW u_))]) (fun u_ => RI F u_ ∧ KP u r u_) 0 0
def s40 (T : Nat → Int) (u k x : Int) : Nat → Int := if 0 ≤ k ∧ k < 40 then up T (u * 40 + k).toNat x else T
theorem s40_congr {T S : Nat → Int} {u k x : Int} (h : ∀ j : Nat, u * 40 ≤ (j : Int) → T j = S j) : ∀ j : Nat, u * 40 ≤ (j : Int) → s40 T u k x j = s40 S u k x j := by
  intro j hj
  unfold s40
  split
  · unfold up
    split
    · rfl
    · exact h j hj
  · exact h j hj
theorem s40_out {T : Nat → Int} {u k x : Int} {j : Nat} (h0 : 0 ≤ u) (h : (u + 1) * 40 ≤ (j : Int)) : s40 T u k x j = T j := by
  unfold s40
  split
  · rw [up_n (by omega)]
  · rfl
theorem s40_at {T : Nat → Int} {u k x : Int} {j : Nat} (h0 : 0 ≤ u) (hj : (j : Int) < 40) : s40 T u k x (u * 40 + j).toNat = if (j : Int) = k then x else T (u * 40 + j).toNat := by
  unfold s40
  by_cases e : (j : Int) = k
  · rw [if_pos (by omega), if_pos e, show (u * 40 + (j : Int)).toNat = (u * 40 + k).toNat by omega, up_s]
  · rw [if_neg e]
    split
    · rw [up_n (by omega)]
    · rfl
theorem s40_two {T : Nat → Int} {u k l x y : Int} {j : Nat} (h0 : 0 ≤ u) (hj : (j : Int) < 40) : s40 (s40 T u k x) u l y (u * 40 + j).toNat = if (j : Int) = l then y else if (j : Int) = k then x else T (u * 40 + j).toNat := by
  rw [s40_at h0 hj, s40_at h0 hj]
theorem rsh_rng {F : FT} {u : Nat} {w : Nat → Int} {k : Nat} (hp : 2 ≤ fP F ∧ fP F ≤ 199) (hu : 0 ≤ gv w (eL (fE F u) k) ∧ gv w (eL (fE F u) k) < fP F) (hw : 0 ≤ gv w (eV (fE F u) k) ∧ gv w (eV (fE F u) k) < fP F) : 0 ≤ rsh F u w k ∧ rsh F u w k < 200 := by
  have e1 := emod_rng (0 - 1) (p := fP F) (by omega)
  have e2 := emod_rng ((0 - gv w (eL (fE F u) k)) % fP F * inv' (fP F) (gv w (eV (fE F u) k) * gv w (eV (fE F u) k) % fP F)) (p := fP F) (by omega)
  unfold rsh
  repeat' split
  all_goals omega
theorem VI_lt {F : FT} (h : GF F) {u x : Int} {r : RT} {i : Nat} (hu : 0 ≤ u ∧ u < 4) (hx : 0 ≤ x ∧ x < fP F) (hv : VI F u x (eN (fE F u.toNat)) r) (hi : i < eN (fE F u.toNat)) : ∀ j, j < i → 0 ≤ row (nV r) u j ∧ row (nV r) u j < fP F := fun j hj => VI_rng h hu hx (by omega) hv j (by omega)
/-- the left share is a number: what is called isn't banned -/
theorem lsh_rng {F : FT} (h : GF F) {u x i : Int} {r : RT} (hu : 0 ≤ u ∧ u < 4) (hi : 0 ≤ i ∧ i < eN (fE F u.toNat)) (hx : 0 ≤ x ∧ x < fP F) (hv : VI F u x (eN (fE F u.toNat)) r) : 0 ≤ lsh F u.toNat (row (nV r) u) i.toNat ∧ lsh F u.toNat (row (nV r) u) i.toNat < 200 := by
  have hp := GF_p h
  have hE := h.2 u.toNat (by omega)
  have hEi := hE.2.1 i.toNat (by omega)
  have hn := hE.1
  have hvl := VI_lt h hu hx hv (i := i.toNat) (by omega)
  have gu := gv_rng (w := row (nV r) u) (p := fP F) (i := eL (fE F u.toNat) i.toNat) (k := i.toNat) (by omega) hvl (by omega) (WFK_L hEi)
  have gw := gv_rng (w := row (nV r) u) (p := fP F) (i := eV (fE F u.toNat) i.toNat) (k := i.toNat) (by omega) hvl (by omega) (WFK_V hEi)
  have e1 := emod_rng (0 - 1) (p := fP F) (by omega)
  have e2 := emod_rng (gv (row (nV r) u) (eV (fE F u.toNat) i.toNat) * inv' (fP F) (gv (row (nV r) u) (eV (fE F u.toNat) i.toNat) * gv (row (nV r) u) (eV (fE F u.toNat) i.toNat) % fP F)) (p := fP F) (by omega)
  have e3 := emod_rng (eU (fE F u.toNat) i.toNat * (gv (row (nV r) u) (eL (fE F u.toNat) i.toNat) ^ (eU (fE F u.toNat) i.toNat - 1).toNat % fP F)) (p := fP F) (by omega)
  by_cases hc : eK (fE F u.toNat) i.toNat = 99
  · have hU := WFK_U hEi (by omega)
    have hU9 := hU.2.2.2 hc
    have hok := hv.1
    rw [show ((eN (fE F u.toNat) : Nat) : Int).toNat = eN (fE F u.toNat) by omega] at hok
    have hnb := evs_nb (evs_ok (eN (fE F u.toNat)) (i.toNat + 1) (by omega) hok)
    have hv2 : VI F u x i r := ⟨evs_ok (eN (fE F u.toNat)) i.toNat (by omega) hok, fun j hj => by rw [hv.2 j (by omega), show ((eN (fE F u.toNat) : Nat) : Int).toNat = eN (fE F u.toNat) by omega, evs_keep (eN (fE F u.toNat)) (by omega), evs_keep i.toNat (by omega)]⟩
    rw [VI_call h hu hi hv2 hc] at hnb
    have hb := hh_bad_iff h (f := (eU (fE F u.toNat) i.toNat).toNat) (x := gv (row (nV r) u) (eL (fE F u.toNat) i.toNat)) (by omega) gu
    have hr := GF_hh h (f := (eU (fE F u.toNat) i.toNat).toNat) (x := gv (row (nV r) u) (eL (fE F u.toNat) i.toNat)) (by omega)
    have e : lsh F u.toNat (row (nV r) u) i.toNat = hh (fP F) (fE F) (eU (fE F u.toNat) i.toNat).toNat (gv (row (nV r) u) (eL (fE F u.toNat) i.toNat)) := by
      unfold lsh
      repeat (first | rw [if_pos (by omega)] | rw [if_neg (by omega)])
    rw [e]
    rcases hr with q | q
    · exact absurd (hb.mp q) hnb
    · omega
  · unfold lsh
    rw [if_neg hc]
    repeat' split
    all_goals omega

set_option maxHeartbeats 4000000 in
set_option maxRecDepth 100000 in
theorem c_X5_rightShare (l : Launch) (g : GG) (rk t0 t1 t2 t3 q3 t4 t5 : Nat) (F : FT) (N : Nat → Int) (u k : Int) (hp : 2 ≤ fP F ∧ fP F ≤ 199) (hu : 0 ≤ u ∧ u < 4) (hn : eN (fE F u.toNat) ≤ 40) (hk : 0 ≤ k ∧ k < eN (fE F u.toNat)) (hE : WFK (fE F u.toNat) u.toNat k.toNat) (hv : ∀ j, j < k.toNat → 0 ≤ row N u j ∧ row N u j < fP F) : qPure l yX5_rightShare wsX5_rightShare ({ frames := 2, cells := 0, slots := 0, locals := 47 }) g [.ref rk, .int (iI u), .int (iI k)] [(rk, .inr (5, [.ref t0, .ref t1, .ref t2, .ref t3, .ref t4, .ref t5, .ref (fS F)])), (t3, .inr (8, [.int (iI 40), .ref q3])), (q3, gI g 160 N)] (FX g F) (some (.int (iI (rsh F u.toNat (row N u) k.toNat)))) := by
  refine q_ofP (cc := cX5_rightShare) (maxL := 7) (ret := (some .int)) (by decide) rfl (Nat.le_of_ble_eq_true rfl) ?_
  intro p e s m args below meth c ls S0 hr hlocks hK hP hX hl
  have hP : va_P g.1 vwCl [(rk, .inr (5, [.ref t0, .ref t1, .ref t2, .ref t3, .ref t4, .ref t5, .ref (fS F)])), (t3, .inr (8, [.int (iI 40), .ref q3])), (q3, gI g 160 N)] s.heap := hP
  have hl : lv_has ls 7 [(0, .ref rk), (1, .int (iI u)), (2, .int (iI k))] := hl
  have hinX5 : ∀ w ∈ wsX50, w ∈ wsX5_rightShare := fun w h => List.mem_cons_of_mem _ (List.mem_append_left _ (List.mem_append_left _ (List.mem_append_left _ (List.mem_append_left _ (List.mem_append_right _ h)))))
  have hL := WFK_L hE
  have hV := WFK_V hE
  have hU := WFK_U hE (by omega)
  have gu := gv_rng (w := row N u) (p := fP F) (i := eL (fE F u.toNat) k.toNat) (k := k.toNat) (by omega) hv (by omega) hL
  have gw := gv_rng (w := row N u) (p := fP F) (i := eV (fE F u.toNat) k.toNat) (k := k.toNat) (by omega) hv (by omega) hV
  have hKK := WFK_K hE
  refine lv_aload_n S0.1 S0.2.1 dX5_rightShare_0 rfl (lv_at hl 0 rfl) ?_
  refine q_get (C := RX5) (T := TX5) (N := 7) S0 hK hP hinX5 0 rfl rfl 6 (by decide) (List.mem_of_getElem? (i := 1) rfl) rfl rfl dX5_rightShare_1 ?_
  refine lv_iload_n S0.1 S0.2.1 dX5_rightShare_4 rfl (lv_at hl 1 rfl) ?_
  refine q_pV (n := 1) (rest := []) S0 hK (c_X7_exprOf l g (fS F) (fR F) (fX F) u (by omega)) (subP (hX).1 [0] rfl) (trivial) gX5_rightShare_X7_expressionOf rfl rfl rfl (by decide +kernel) ⟨Nat.le_of_ble_eq_true rfl, Nat.le_of_ble_eq_true rfl⟩ (q_recv hK (hX).1 (ci := 7) (q0 := 0) rfl rfl) rfl rfl hl.1 (Nat.le_of_ble_eq_true rfl) ⟨Nat.le_of_ble_eq_true rfl, Nat.le_of_ble_eq_true rfl⟩ dX5_rightShare_5 ?_
  refine W.eq (g2 := F0 m 8 ls [.ref (fX F u.toNat)]) rfl ?_
  refine lv_astore_n (lv' := [(3, .ref (fX F u.toNat)), (0, .ref rk), (1, .int (iI u)), (2, .int (iI k))]) S0.1 S0.2.1 dX5_rightShare_8 rfl hl (by decide) rfl (fun ls hl => ?_)
  refine lv_aload_n S0.1 S0.2.1 dX5_rightShare_9 rfl (lv_at hl 1 rfl) ?_
  refine q_get (C := RX5) (T := TX5) (N := 7) S0 hK hP hinX5 0 rfl rfl 6 (by decide) (List.mem_of_getElem? (i := 1) rfl) rfl rfl dX5_rightShare_10 ?_
  refine q_pV (n := 0) (rest := []) S0 hK (c_X7_numbers l g (fS F) (fR F) (fX F 0) (fX F 1) (fX F 2) (fX F 3)) (subP (hX).1 [0] rfl) (trivial) gX5_rightShare_X7_numbers rfl rfl rfl (by decide +kernel) ⟨Nat.le_of_ble_eq_true rfl, Nat.le_of_ble_eq_true rfl⟩ (q_recv hK (hX).1 (ci := 7) (q0 := 0) rfl rfl) rfl rfl hl.1 (Nat.le_of_ble_eq_true rfl) ⟨Nat.le_of_ble_eq_true rfl, Nat.le_of_ble_eq_true rfl⟩ dX5_rightShare_13 ?_
  refine W.eq (g2 := F0 m 16 ls [.ref (fR F)]) rfl ?_
  refine lv_astore (lv' := [(4, .ref (fR F)), (3, .ref (fX F u.toNat)), (0, .ref rk), (1, .int (iI u)), (2, .int (iI k))]) S0.1 S0.2.1 dX5_rightShare_16 hl (by decide) rfl (fun ls hl => ?_)
  refine lv_aload_n S0.1 S0.2.1 dX5_rightShare_18 rfl (lv_at hl 2 rfl) ?_
  refine q_get (C := RX5) (T := TX5) (N := 7) S0 hK hP hinX5 0 rfl rfl 3 (by decide) (List.mem_of_getElem? (i := 2) rfl) rfl rfl dX5_rightShare_19 ?_
  refine lv_iload_n S0.1 S0.2.1 dX5_rightShare_22 rfl (lv_at hl 3 rfl) ?_
  refine lv_aload_n S0.1 S0.2.1 dX5_rightShare_23 rfl (lv_at hl 1 rfl) ?_
  refine lv_iload_n S0.1 S0.2.1 dX5_rightShare_24 rfl (lv_at hl 4 rfl) ?_
  refine q_pV (n := 1) (rest := [.int (iI u), .ref t3]) S0 hK (c_X1_leftI l g (fX F u.toNat) (fK F u.toNat 1) (fK F u.toNat 2) (fK F u.toNat 3) (fK F u.toNat 4) (fD F u.toNat) (fU F u.toNat) (fL F u.toNat) (eN (fE F u.toNat)) (eL (fE F u.toNat)) k (by omega) (by omega)) (subP ((hX).2 u.toNat (by omega)) [0, 3] rfl) (trivial) gX5_rightShare_X1_left rfl rfl rfl (by decide +kernel) ⟨Nat.le_of_ble_eq_true rfl, Nat.le_of_ble_eq_true rfl⟩ (q_recv hK ((hX).2 u.toNat (by omega)) (ci := 1) (q0 := 0) rfl rfl) rfl rfl hl.1 (Nat.le_of_ble_eq_true rfl) ⟨Nat.le_of_ble_eq_true rfl, Nat.le_of_ble_eq_true rfl⟩ dX5_rightShare_25 ?_
  refine W.eq (g2 := F0 m 28 ls [.int (iI ((eL (fE F u.toNat)) k.toNat)), .int (iI u), .ref t3]) rfl ?_
  refine q_pV (n := 2) (rest := []) S0 hK (c_X8_get40 l g t3 q3 N u ((eL (fE F u.toNat)) k.toNat) (by omega) (by omega)) (subP hP [1, 2] rfl) (trivial) gX5_rightShare_X8_get rfl rfl rfl (by decide +kernel) ⟨Nat.le_of_ble_eq_true rfl, Nat.le_of_ble_eq_true rfl⟩ (q_recv hK hP (ci := 8) (q0 := 1) rfl rfl) rfl rfl hl.1 (Nat.le_of_ble_eq_true rfl) ⟨Nat.le_of_ble_eq_true rfl, Nat.le_of_ble_eq_true rfl⟩ dX5_rightShare_28 ?_
  refine W.eq (g2 := F0 m 31 ls [.int (iI (gv (row N u) ((eL (fE F u.toNat)) k.toNat)))]) rfl ?_
  refine lv_istore (lv' := [(5, .int (iI (gv (row N u) ((eL (fE F u.toNat)) k.toNat)))), (4, .ref (fR F)), (3, .ref (fX F u.toNat)), (0, .ref rk), (1, .int (iI u)), (2, .int (iI k))]) S0.1 S0.2.1 dX5_rightShare_31 hl (by decide) rfl (fun ls hl => ?_)
  refine lv_aload_n S0.1 S0.2.1 dX5_rightShare_33 rfl (lv_at hl 3 rfl) ?_
  refine q_get (C := RX5) (T := TX5) (N := 7) S0 hK hP hinX5 0 rfl rfl 3 (by decide) (List.mem_of_getElem? (i := 2) rfl) rfl rfl dX5_rightShare_34 ?_
  refine lv_iload_n S0.1 S0.2.1 dX5_rightShare_37 rfl (lv_at hl 4 rfl) ?_
  refine lv_aload_n S0.1 S0.2.1 dX5_rightShare_38 rfl (lv_at hl 2 rfl) ?_
  refine lv_iload_n S0.1 S0.2.1 dX5_rightShare_39 rfl (lv_at hl 5 rfl) ?_
  refine q_pV (n := 1) (rest := [.int (iI u), .ref t3]) S0 hK (c_X1_rightI l g (fX F u.toNat) (fK F u.toNat 1) (fK F u.toNat 2) (fK F u.toNat 3) (fK F u.toNat 4) (fD F u.toNat) (fU F u.toNat) (fL F u.toNat) (eN (fE F u.toNat)) (eV (fE F u.toNat)) k (by omega) (by omega)) (subP ((hX).2 u.toNat (by omega)) [0, 4] rfl) (trivial) gX5_rightShare_X1_right rfl rfl rfl (by decide +kernel) ⟨Nat.le_of_ble_eq_true rfl, Nat.le_of_ble_eq_true rfl⟩ (q_recv hK ((hX).2 u.toNat (by omega)) (ci := 1) (q0 := 0) rfl rfl) rfl rfl hl.1 (Nat.le_of_ble_eq_true rfl) ⟨Nat.le_of_ble_eq_true rfl, Nat.le_of_ble_eq_true rfl⟩ dX5_rightShare_40 ?_
  refine W.eq (g2 := F0 m 43 ls [.int (iI ((eV (fE F u.toNat)) k.toNat)), .int (iI u), .ref t3]) rfl ?_
  refine q_pV (n := 2) (rest := []) S0 hK (c_X8_get40 l g t3 q3 N u ((eV (fE F u.toNat)) k.toNat) (by omega) (by omega)) (subP hP [1, 2] rfl) (trivial) gX5_rightShare_X8_get rfl rfl rfl (by decide +kernel) ⟨Nat.le_of_ble_eq_true rfl, Nat.le_of_ble_eq_true rfl⟩ (q_recv hK hP (ci := 8) (q0 := 1) rfl rfl) rfl rfl hl.1 (Nat.le_of_ble_eq_true rfl) ⟨Nat.le_of_ble_eq_true rfl, Nat.le_of_ble_eq_true rfl⟩ dX5_rightShare_43 ?_
  refine W.eq (g2 := F0 m 46 ls [.int (iI (gv (row N u) ((eV (fE F u.toNat)) k.toNat)))]) rfl ?_
  refine lv_istore (lv' := [(6, .int (iI (gv (row N u) ((eV (fE F u.toNat)) k.toNat)))), (5, .int (iI (gv (row N u) ((eL (fE F u.toNat)) k.toNat)))), (4, .ref (fR F)), (3, .ref (fX F u.toNat)), (0, .ref rk), (1, .int (iI u)), (2, .int (iI k))]) S0.1 S0.2.1 dX5_rightShare_46 hl (by decide) rfl (fun ls hl => ?_)
  refine lv_aload_n S0.1 S0.2.1 dX5_rightShare_48 rfl (lv_at hl 3 rfl) ?_
  refine lv_iload_n S0.1 S0.2.1 dX5_rightShare_49 rfl (lv_at hl 6 rfl) ?_
  refine q_pV (n := 1) (rest := []) S0 hK (c_X1_kindI l g (fX F u.toNat) (fK F u.toNat 1) (fK F u.toNat 2) (fK F u.toNat 3) (fK F u.toNat 4) (fD F u.toNat) (fU F u.toNat) (fL F u.toNat) (eN (fE F u.toNat)) (eK (fE F u.toNat)) k (by omega) (by omega)) (subP ((hX).2 u.toNat (by omega)) [0, 1] rfl) (trivial) gX5_rightShare_X1_kind rfl rfl rfl (by decide +kernel) ⟨Nat.le_of_ble_eq_true rfl, Nat.le_of_ble_eq_true rfl⟩ (q_recv hK ((hX).2 u.toNat (by omega)) (ci := 1) (q0 := 0) rfl rfl) rfl rfl hl.1 (Nat.le_of_ble_eq_true rfl) ⟨Nat.le_of_ble_eq_true rfl, Nat.le_of_ble_eq_true rfl⟩ dX5_rightShare_50 ?_
  refine W.eq (g2 := F0 m 53 ls [.int (iI ((eK (fE F u.toNat)) k.toNat))]) rfl ?_
  by_cases k53_42 : (eK (fE F u.toNat)) k.toNat = 42
  · refine q_topI k53_42 ?_
    refine lv_tableIn (off := 49) (tgt := 102) S0.1 S0.2.1 dX5_rightShare_53 (by decide) (by decide) (by decide) (by decide) ?_
    refine lv_iload S0.1 S0.2.1 dX5_rightShare_102 (lv_at hl 1 rfl) ?_
    exact qp_iret S0 hr hlocks (by first | (exfalso; omega) | (unfold rsh; (repeat (first | rw [if_pos (by omega)] | rw [if_neg (by omega)])); first | done | rfl | (unfold inv'; rfl))) dX5_rightShare_104
  by_cases k53_43 : (eK (fE F u.toNat)) k.toNat = 43
  · refine q_topI k53_43 ?_
    refine lv_tableIn (off := 39) (tgt := 92) S0.1 S0.2.1 dX5_rightShare_53 (by decide) (by decide) (by decide) (by decide) ?_
    refine q_iconst S0 dX5_rightShare_92 ?_
    exact qp_iret S0 hr hlocks (by first | (exfalso; omega) | (unfold rsh; (repeat (first | rw [if_pos (by omega)] | rw [if_neg (by omega)])); first | done | rfl | (unfold inv'; rfl))) dX5_rightShare_93
  by_cases k53_44 : (eK (fE F u.toNat)) k.toNat = 44
  · refine q_topI k53_44 ?_
    refine lv_tableIn (off := 75) (tgt := 128) S0.1 S0.2.1 dX5_rightShare_53 (by decide) (by decide) (by decide) (by decide) ?_
    refine q_iconst S0 dX5_rightShare_128 ?_
    exact qp_iret S0 hr hlocks (by first | (exfalso; omega) | (unfold rsh; (repeat (first | rw [if_pos (by omega)] | rw [if_neg (by omega)])); first | done | rfl | (unfold inv'; rfl))) dX5_rightShare_129
  by_cases k53_45 : (eK (fE F u.toNat)) k.toNat = 45
  · refine q_topI k53_45 ?_
    refine lv_tableIn (off := 41) (tgt := 94) S0.1 S0.2.1 dX5_rightShare_53 (by decide) (by decide) (by decide) (by decide) ?_
    refine lv_aload S0.1 S0.2.1 dX5_rightShare_94 (lv_at hl 2 rfl) ?_
    refine q_iconst S0 dX5_rightShare_96 ?_
    refine q_iconst S0 dX5_rightShare_97 ?_
    refine q_pV (n := 2) (rest := []) S0 hK (c_X6_subtract l g (fR F) (fP F) 0 1 (by omega) (by omega)) (subP (hX).1 [1] rfl) (trivial) gX5_rightShare_X6_subtract rfl rfl rfl (by decide +kernel) ⟨Nat.le_of_ble_eq_true rfl, Nat.le_of_ble_eq_true rfl⟩ (q_recv hK (hX).1 (ci := 6) (q0 := 1) rfl rfl) rfl rfl hl.1 (Nat.le_of_ble_eq_true rfl) ⟨Nat.le_of_ble_eq_true rfl, Nat.le_of_ble_eq_true rfl⟩ dX5_rightShare_98 ?_
    refine W.eq (g2 := F0 m 101 ls [.int (iI ((0 - 1) % (fP F)))]) rfl ?_
    exact qp_iret S0 hr hlocks (by first | (exfalso; omega) | (unfold rsh; (repeat (first | rw [if_pos (by omega)] | rw [if_neg (by omega)])); first | done | rfl | (unfold inv'; rfl))) dX5_rightShare_101
  by_cases k53_46 : (eK (fE F u.toNat)) k.toNat = 46
  · refine q_topI k53_46 ?_
    refine lv_tableIn (off := 75) (tgt := 128) S0.1 S0.2.1 dX5_rightShare_53 (by decide) (by decide) (by decide) (by decide) ?_
    refine q_iconst S0 dX5_rightShare_128 ?_
    exact qp_iret S0 hr hlocks (by first | (exfalso; omega) | (unfold rsh; (repeat (first | rw [if_pos (by omega)] | rw [if_neg (by omega)])); first | done | rfl | (unfold inv'; rfl))) dX5_rightShare_129
  by_cases k53_47 : (eK (fE F u.toNat)) k.toNat = 47
  · refine q_topI k53_47 ?_
    refine lv_tableIn (off := 52) (tgt := 105) S0.1 S0.2.1 dX5_rightShare_53 (by decide) (by decide) (by decide) (by decide) ?_
    refine lv_aload S0.1 S0.2.1 dX5_rightShare_105 (lv_at hl 2 rfl) ?_
    refine lv_aload S0.1 S0.2.1 dX5_rightShare_107 (lv_at hl 2 rfl) ?_
    refine q_iconst S0 dX5_rightShare_109 ?_
    refine lv_iload S0.1 S0.2.1 dX5_rightShare_110 (lv_at hl 1 rfl) ?_
    refine q_pV (n := 2) (rest := [.ref (fR F)]) S0 hK (c_X6_subtract l g (fR F) (fP F) 0 (gv (row N u) ((eL (fE F u.toNat)) k.toNat)) (by omega) (by omega)) (subP (hX).1 [1] rfl) (trivial) gX5_rightShare_X6_subtract rfl rfl rfl (by decide +kernel) ⟨Nat.le_of_ble_eq_true rfl, Nat.le_of_ble_eq_true rfl⟩ (q_recv hK (hX).1 (ci := 6) (q0 := 1) rfl rfl) rfl rfl hl.1 (Nat.le_of_ble_eq_true rfl) ⟨Nat.le_of_ble_eq_true rfl, Nat.le_of_ble_eq_true rfl⟩ dX5_rightShare_112 ?_
    refine W.eq (g2 := F0 m 115 ls [.int (iI ((0 - (gv (row N u) ((eL (fE F u.toNat)) k.toNat))) % (fP F))), .ref (fR F)]) rfl ?_
    refine lv_aload S0.1 S0.2.1 dX5_rightShare_115 (lv_at hl 2 rfl) ?_
    refine lv_iload S0.1 S0.2.1 dX5_rightShare_117 (lv_at hl 0 rfl) ?_
    refine lv_iload S0.1 S0.2.1 dX5_rightShare_119 (lv_at hl 0 rfl) ?_
    have hm3 := mul_rng (a := gv (row N u) (eV (fE F u.toNat) k.toNat)) (b := gv (row N u) (eV (fE F u.toNat) k.toNat)) (n := 200) (k := 200) (by omega) (by omega)
    refine q_pV (n := 2) (rest := [.int (iI ((0 - (gv (row N u) ((eL (fE F u.toNat)) k.toNat))) % (fP F))), .ref (fR F)]) S0 hK (c_X6_multiply l g (fR F) (fP F) (gv (row N u) ((eV (fE F u.toNat)) k.toNat)) (gv (row N u) ((eV (fE F u.toNat)) k.toNat)) (by omega) (by omega)) (subP (hX).1 [1] rfl) (trivial) gX5_rightShare_X6_multiply rfl rfl rfl (by decide +kernel) ⟨Nat.le_of_ble_eq_true rfl, Nat.le_of_ble_eq_true rfl⟩ (q_recv hK (hX).1 (ci := 6) (q0 := 1) rfl rfl) rfl rfl hl.1 (Nat.le_of_ble_eq_true rfl) ⟨Nat.le_of_ble_eq_true rfl, Nat.le_of_ble_eq_true rfl⟩ dX5_rightShare_121 ?_
    refine W.eq (g2 := F0 m 124 ls [.int (iI (((gv (row N u) ((eV (fE F u.toNat)) k.toNat)) * (gv (row N u) ((eV (fE F u.toNat)) k.toNat))) % (fP F))), .int (iI ((0 - (gv (row N u) ((eL (fE F u.toNat)) k.toNat))) % (fP F))), .ref (fR F)]) rfl ?_
    have he1 := emod_rng (0 - gv (row N u) (eL (fE F u.toNat) k.toNat)) (p := fP F) (by omega)
    have he2 := emod_rng (gv (row N u) (eV (fE F u.toNat) k.toNat) * gv (row N u) (eV (fE F u.toNat) k.toNat)) (p := fP F) (by omega)
    refine q_pV (n := 2) (rest := []) S0 hK (c_X6_divide l g (fR F) (fP F) ((0 - (gv (row N u) ((eL (fE F u.toNat)) k.toNat))) % (fP F)) (((gv (row N u) ((eV (fE F u.toNat)) k.toNat)) * (gv (row N u) ((eV (fE F u.toNat)) k.toNat))) % (fP F)) (by omega) (by omega) (by omega)) (subP (hX).1 [1] rfl) (trivial) gX5_rightShare_X6_divide rfl rfl rfl (by decide +kernel) ⟨Nat.le_of_ble_eq_true rfl, Nat.le_of_ble_eq_true rfl⟩ (q_recv hK (hX).1 (ci := 6) (q0 := 1) rfl rfl) rfl rfl hl.1 (Nat.le_of_ble_eq_true rfl) ⟨Nat.le_of_ble_eq_true rfl, Nat.le_of_ble_eq_true rfl⟩ dX5_rightShare_124 ?_
    refine W.eq (g2 := F0 m 127 ls [.int (iI (((0 - (gv (row N u) ((eL (fE F u.toNat)) k.toNat))) % (fP F)) * ((((gv (row N u) ((eV (fE F u.toNat)) k.toNat)) * (gv (row N u) ((eV (fE F u.toNat)) k.toNat))) % (fP F)) ^ ((fP F) - 2).toNat % (fP F)) % (fP F)))]) rfl ?_
    exact qp_iret S0 hr hlocks (by first | (exfalso; omega) | (unfold rsh; (repeat (first | rw [if_pos (by omega)] | rw [if_neg (by omega)])); first | done | rfl | (unfold inv'; rfl))) dX5_rightShare_127
  refine lv_tableOut (tgt := 128) S0.1 S0.2.1 dX5_rightShare_53 (by rw [iI_t (by omega) (by omega)]; omega) (by decide) ?_
  refine q_iconst S0 dX5_rightShare_128 ?_
  exact qp_iret S0 hr hlocks (by first | (exfalso; omega) | (unfold rsh; (repeat (first | rw [if_pos (by omega)] | rw [if_neg (by omega)])); first | done | rfl | (unfold inv'; rfl))) dX5_rightShare_129
set_option maxHeartbeats 4000000 in
set_option maxRecDepth 100000 in
theorem c_X8_set40n (l : Launch) (g : GG) (t q : Nat) (f : Nat → Int) (u k x : Int) (hu : 0 ≤ u ∧ u < 4) (hk : -1 ≤ k ∧ k < 40) : qMet l yX8_set wsX8_set ({ frames := 1, cells := 0, slots := 0, locals := 22 }) g [.ref t, .int (iI u), .int (iI k), .int (iI x)] [(t, .inr (8, [.int (iI 40), .ref q])), (q, gI g 160 f)] (fun _ => True) (fun _ => True) (S := Unit) (fun _ => none) (fun _ => [(t, .inr (8, [.int (iI 40), .ref q])), (q, gI g 160 (s40 f u k x))]) (fun _ => True) 0 0 := by
  refine q_ofW (cc := cX8_set) (maxL := 4) (ret := none) (fun sz h => h.self) (by decide) rfl (Nat.le_of_ble_eq_true rfl) ?_
  intro p e s m args below meth c A ls S0 hr hlocks hnme hK hA hAe hW hD0 hX hl
  have hW : gW g A s.heap s.heap [] [(t, .inr (8, [.int (iI 40), .ref q])), (q, gI g 160 f)] := hW
  have hl : lv_has ls 4 [(0, .ref t), (1, .int (iI u)), (2, .int (iI k)), (3, .int (iI x))] := hl
  have hinX8 : ∀ w ∈ wsX80, w ∈ wsX8_set := fun w h => List.mem_cons_of_mem _ (List.mem_append_right _ h)
  refine lv_iload_n S0.1 S0.2.1 dX8_set_0 rfl (lv_at hl 2 rfl) ?_
  refine q_if_lt (tgt := 28) S0 (by omega) dX8_set_1 (by decide) (fun c1 => ?_) (fun c1 => ?_)
  · skip
    exact q_vret S0 hr hlocks () (trivial) rfl (hW.sub [0, 1] rfl (by unfold s40; first | (rw [if_neg (by omega)]; rfl) | (rw [if_pos (by omega)]; simp only [put0]; rw [if_pos (by omega)]; rfl))) (Nat.le_of_ble_eq_true rfl) (Nat.le_of_ble_eq_true rfl) dX8_set_28
  · skip
    refine lv_iload_n S0.1 S0.2.1 dX8_set_4 rfl (lv_at hl 2 rfl) ?_
    refine lv_aload_n S0.1 S0.2.1 dX8_set_5 rfl (lv_at hl 0 rfl) ?_
    refine q_get (C := RX8) (T := TX8) (N := 2) S0 hK hW.1 hinX8 0 rfl rfl 0 (by decide) (List.mem_of_getElem? (i := 1) rfl) rfl rfl dX8_set_6 ?_
    refine q_icmp_ge (tgt := 28) S0 (by omega) dX8_set_9 (by decide) (fun c9 => ?_) (fun c9 => ?_)
    · skip
      exact q_vret S0 hr hlocks () (trivial) rfl (hW.sub [0, 1] rfl (by unfold s40; first | (rw [if_neg (by omega)]; rfl) | (rw [if_pos (by omega)]; simp only [put0]; rw [if_pos (by omega)]; rfl))) (Nat.le_of_ble_eq_true rfl) (Nat.le_of_ble_eq_true rfl) dX8_set_28
    · skip
      refine lv_aload_n S0.1 S0.2.1 dX8_set_12 rfl (lv_at hl 0 rfl) ?_
      refine q_get (C := RX8) (T := TX8) (N := 2) S0 hK hW.1 hinX8 0 rfl rfl 1 (by decide) (List.mem_of_getElem? (i := 2) rfl) rfl rfl dX8_set_13 ?_
      refine lv_iload_n S0.1 S0.2.1 dX8_set_16 rfl (lv_at hl 1 rfl) ?_
      refine lv_aload_n S0.1 S0.2.1 dX8_set_17 rfl (lv_at hl 0 rfl) ?_
      refine q_get (C := RX8) (T := TX8) (N := 2) S0 hK hW.1 hinX8 0 rfl rfl 0 (by decide) (List.mem_of_getElem? (i := 1) rfl) rfl rfl dX8_set_18 ?_
      refine q_imul S0 dX8_set_21 ?_
      refine lv_iload_n S0.1 S0.2.1 dX8_set_22 rfl (lv_at hl 2 rfl) ?_
      refine q_iadd S0 dX8_set_23 ?_
      refine lv_iload_n S0.1 S0.2.1 dX8_set_24 rfl (lv_at hl 3 rfl) ?_
      refine q_cSN (n := 3) (rest := []) (wr := [(t, .inr (8, [.int (iI 40), .ref q]))]) S0 hK hA hW (c_X10_put l g q 160 f ((u * 40) + k) x (by omega) (by omega)) gX8_set_X10_put_n38 rfl rfl rfl 0 rfl (List.mem_of_getElem? (i := 4) rfl) (List.mem_of_getElem? (i := 3) rfl) (by decide +kernel) ⟨Nat.le_of_ble_eq_true rfl, Nat.le_of_ble_eq_true rfl⟩ [1] [0] rfl rfl rfl rfl (by decide) (fun _ _ => trivial) (trivial) rfl rfl hl.1 (Nat.le_of_ble_eq_true rfl) ⟨Nat.le_of_ble_eq_true rfl, Nat.le_of_ble_eq_true rfl⟩ dX8_set_25 (fun _ H locs _ hW => ?_)
      have hW : gW g A s.heap H _ [(t, .inr (8, [.int (iI 40), .ref q])), (q, gI g 160 (put0 160 f ((u * 40) + k) x))] := hW
      refine W.eq (g2 := F0 m 28 ls []) rfl ?_
      exact q_vret S0 hr hlocks () (trivial) rfl (hW.sub [0, 1] rfl (by unfold s40; first | (rw [if_neg (by omega)]; rfl) | (rw [if_pos (by omega)]; simp only [put0]; rw [if_pos (by omega)]; rfl))) (Nat.le_of_ble_eq_true rfl) (Nat.le_of_ble_eq_true rfl) dX8_set_28
set_option maxHeartbeats 4000000 in
set_option maxRecDepth 100000 in
theorem c_X5_leftShare (l : Launch) (g : GG) (F : FT) (d : Nat) (rk t0 q0 t1 q1 t2 q2 t3 q3 t4 q4 t5 q5 : Nat) (r : RT) (u k : Int) (IH : RSLP l g F d) (hud : u ≤ d) (hG : GF F) (hI : RI F r) (hu : 0 ≤ u ∧ u < 4) (hk : 0 ≤ k ∧ k < eN (fE F u.toNat)) (hv : ∀ j, j < k.toNat → 0 ≤ row (nV r) u j ∧ row (nV r) u j < fP F) : qMet l yX5_leftShare wsX5_leftShare ({ frames := 4 * d + 21, cells := 0, slots := 0, locals := 120 * d + 630 }) g [.ref rk, .int (iI u), .int (iI k)] [(rk, .inr (5, [.ref t0, .ref t1, .ref t2, .ref t3, .ref t4, .ref t5, .ref (fS F)])), (t0, .inr (8, [.int (iI 199), .ref q0])), (q0, gI g 796 (rV r)), (t1, .inr (8, [.int (iI 199), .ref q1])), (q1, gI g 796 (rH r)), (t2, .inr (8, [.int (iI 199), .ref q2])), (q2, gI g 796 (rR r)), (t3, .inr (8, [.int (iI 40), .ref q3])), (q3, gI g 160 (nV r)), (t4, .inr (8, [.int (iI 40), .ref q4])), (q4, gI g 160 (nS r)), (t5, .inr (8, [.int (iI 40), .ref q5])), (q5, gI g 160 (nW r))] (fun q => ¬ fzA F q) (FX g F) (S := RT) (fun u_ => some (.int (iI (lsh F u.toNat (row (nV r) u) k.toNat)))) (fun u_ => [(rk, .inr (5, [.ref t0, .ref t1, .ref t2, .ref t3, .ref t4, .ref t5, .ref (fS F)])), (t0, .inr (8, [.int (iI 199), .ref q0])), (q0, gI g 796 (rV u_)), (t1, .inr (8, [.int (iI 199), .ref q1])), (q1, gI g 796 (rH u_)), (t2, .inr (8, [.int (iI 199), .ref q2])), (q2, gI g 796 (rR u_)), (t3, .inr (8, [.int (iI 40), .ref q3])), (q3, gI g 160 (nV u_)), (t4, .inr (8, [.int (iI 40), .ref q4])), (q4, gI g 160 (nS u_)), (t5, .inr (8, [.int (iI 40), .ref q5])), (q5, gI g 160 (nW u_))]) (fun u_ => RI F u_ ∧ ∀ j : Nat, u * 40 ≤ (j : Int) → nV u_ j = nV r j ∧ nS u_ j = nS r j ∧ nW u_ j = nW r j) 0 0 := by
  refine q_ofW (cc := cX5_leftShare) (maxL := 8) (ret := (some .int)) (fun sz h => h.self) (by decide) rfl (Nat.le_of_ble_eq_true rfl) ?_
  intro p e s m args below meth c A ls S0 hr hlocks hnme hK hA hAe hW hD0 hX hl
  have hW : gW g A s.heap s.heap [] [(rk, .inr (5, [.ref t0, .ref t1, .ref t2, .ref t3, .ref t4, .ref t5, .ref (fS F)])), (t0, .inr (8, [.int (iI 199), .ref q0])), (q0, gI g 796 (rV r)), (t1, .inr (8, [.int (iI 199), .ref q1])), (q1, gI g 796 (rH r)), (t2, .inr (8, [.int (iI 199), .ref q2])), (q2, gI g 796 (rR r)), (t3, .inr (8, [.int (iI 40), .ref q3])), (q3, gI g 160 (nV r)), (t4, .inr (8, [.int (iI 40), .ref q4])), (q4, gI g 160 (nS r)), (t5, .inr (8, [.int (iI 40), .ref q5])), (q5, gI g 160 (nW r))] := hW
  have hl : lv_has ls 8 [(0, .ref rk), (1, .int (iI u)), (2, .int (iI k))] := hl
  have hinX5 : ∀ w ∈ wsX50, w ∈ wsX5_leftShare := fun w h => List.mem_cons_of_mem _ (List.mem_append_left _ (List.mem_append_left _ (List.mem_append_left _ (List.mem_append_left _ (List.mem_append_right _ h)))))
  have hpr := GF_p hG
  have hO := fz_out hX hD0 hAe
  have hfz : ∀ (H : Heap) (locs : List Loc) (ws : va_W), gW g A s.heap H locs ws → FX g F H := fun H locs ws h => fz_stay hX hO h
  have hE := (hG.2 u.toNat (by omega)).2.1 k.toNat (by omega)
  have hn := (hG.2 u.toNat (by omega)).1
  have hL := WFK_L hE
  have hV := WFK_V hE
  have hKK := WFK_K hE
  have hU := WFK_U hE (by omega)
  have gu := gv_rng (w := row (nV r) u) (p := fP F) (i := eL (fE F u.toNat) k.toNat) (k := k.toNat) (by omega) hv (by omega) hL
  have gw := gv_rng (w := row (nV r) u) (p := fP F) (i := eV (fE F u.toNat) k.toNat) (k := k.toNat) (by omega) hv (by omega) hV
  refine lv_aload_n S0.1 S0.2.1 dX5_leftShare_0 rfl (lv_at hl 0 rfl) ?_
  refine q_get (C := RX5) (T := TX5) (N := 7) S0 hK hW.1 hinX5 0 rfl rfl 6 (by decide) (List.mem_of_getElem? (i := 1) rfl) rfl rfl dX5_leftShare_1 ?_
  refine lv_iload_n S0.1 S0.2.1 dX5_leftShare_4 rfl (lv_at hl 1 rfl) ?_
  refine q_pV (n := 1) (rest := []) S0 hK (c_X7_exprOf l g (fS F) (fR F) (fX F) u (by omega)) (subP ((hfz _ _ _ hW)).1 [0] rfl) (trivial) gX5_leftShare_X7_expressionOf rfl rfl rfl (by decide +kernel) ⟨by dsimp only; omega, by dsimp only; omega⟩ (q_recv hK ((hfz _ _ _ hW)).1 (ci := 7) (q0 := 0) rfl rfl) rfl rfl hl.1 (Nat.le_of_ble_eq_true rfl) ⟨Nat.le_of_ble_eq_true rfl, Nat.le_of_ble_eq_true rfl⟩ dX5_leftShare_5 ?_
  refine W.eq (g2 := F0 m 8 ls [.ref (fX F u.toNat)]) rfl ?_
  refine lv_astore_n (lv' := [(3, .ref (fX F u.toNat)), (0, .ref rk), (1, .int (iI u)), (2, .int (iI k))]) S0.1 S0.2.1 dX5_leftShare_8 rfl hl (by decide) rfl (fun ls hl => ?_)
  refine lv_aload_n S0.1 S0.2.1 dX5_leftShare_9 rfl (lv_at hl 1 rfl) ?_
  refine q_get (C := RX5) (T := TX5) (N := 7) S0 hK hW.1 hinX5 0 rfl rfl 6 (by decide) (List.mem_of_getElem? (i := 1) rfl) rfl rfl dX5_leftShare_10 ?_
  refine q_pV (n := 0) (rest := []) S0 hK (c_X7_numbers l g (fS F) (fR F) (fX F 0) (fX F 1) (fX F 2) (fX F 3)) (subP ((hfz _ _ _ hW)).1 [0] rfl) (trivial) gX5_leftShare_X7_numbers rfl rfl rfl (by decide +kernel) ⟨by dsimp only; omega, by dsimp only; omega⟩ (q_recv hK ((hfz _ _ _ hW)).1 (ci := 7) (q0 := 0) rfl rfl) rfl rfl hl.1 (Nat.le_of_ble_eq_true rfl) ⟨Nat.le_of_ble_eq_true rfl, Nat.le_of_ble_eq_true rfl⟩ dX5_leftShare_13 ?_
  refine W.eq (g2 := F0 m 16 ls [.ref (fR F)]) rfl ?_
  refine lv_astore (lv' := [(4, .ref (fR F)), (3, .ref (fX F u.toNat)), (0, .ref rk), (1, .int (iI u)), (2, .int (iI k))]) S0.1 S0.2.1 dX5_leftShare_16 hl (by decide) rfl (fun ls hl => ?_)
  refine lv_aload_n S0.1 S0.2.1 dX5_leftShare_18 rfl (lv_at hl 1 rfl) ?_
  refine lv_iload_n S0.1 S0.2.1 dX5_leftShare_19 rfl (lv_at hl 4 rfl) ?_
  refine q_pV (n := 1) (rest := []) S0 hK (c_X1_numberI l g (fX F u.toNat) (fK F u.toNat 1) (fK F u.toNat 2) (fK F u.toNat 3) (fK F u.toNat 4) (fD F u.toNat) (fU F u.toNat) (fL F u.toNat) (eN (fE F u.toNat)) (eU (fE F u.toNat)) k (by omega) (by omega)) (subP (((hfz _ _ _ hW)).2 u.toNat (by omega)) [0, 2] rfl) (trivial) gX5_leftShare_X1_number rfl rfl rfl (by decide +kernel) ⟨by dsimp only; omega, by dsimp only; omega⟩ (q_recv hK (((hfz _ _ _ hW)).2 u.toNat (by omega)) (ci := 1) (q0 := 0) rfl rfl) rfl rfl hl.1 (Nat.le_of_ble_eq_true rfl) ⟨Nat.le_of_ble_eq_true rfl, Nat.le_of_ble_eq_true rfl⟩ dX5_leftShare_20 ?_
  refine W.eq (g2 := F0 m 23 ls [.int (iI ((eU (fE F u.toNat)) k.toNat))]) rfl ?_
  refine lv_istore (lv' := [(5, .int (iI ((eU (fE F u.toNat)) k.toNat))), (4, .ref (fR F)), (3, .ref (fX F u.toNat)), (0, .ref rk), (1, .int (iI u)), (2, .int (iI k))]) S0.1 S0.2.1 dX5_leftShare_23 hl (by decide) rfl (fun ls hl => ?_)
  refine lv_aload_n S0.1 S0.2.1 dX5_leftShare_25 rfl (lv_at hl 3 rfl) ?_
  refine q_get (C := RX5) (T := TX5) (N := 7) S0 hK hW.1 hinX5 0 rfl rfl 3 (by decide) (List.mem_of_getElem? (i := 2) rfl) rfl rfl dX5_leftShare_26 ?_
  refine lv_iload_n S0.1 S0.2.1 dX5_leftShare_29 rfl (lv_at hl 4 rfl) ?_
  refine lv_aload_n S0.1 S0.2.1 dX5_leftShare_30 rfl (lv_at hl 2 rfl) ?_
  refine lv_iload_n S0.1 S0.2.1 dX5_leftShare_31 rfl (lv_at hl 5 rfl) ?_
  refine q_pV (n := 1) (rest := [.int (iI u), .ref t3]) S0 hK (c_X1_leftI l g (fX F u.toNat) (fK F u.toNat 1) (fK F u.toNat 2) (fK F u.toNat 3) (fK F u.toNat 4) (fD F u.toNat) (fU F u.toNat) (fL F u.toNat) (eN (fE F u.toNat)) (eL (fE F u.toNat)) k (by omega) (by omega)) (subP (((hfz _ _ _ hW)).2 u.toNat (by omega)) [0, 3] rfl) (trivial) gX5_leftShare_X1_left rfl rfl rfl (by decide +kernel) ⟨by dsimp only; omega, by dsimp only; omega⟩ (q_recv hK (((hfz _ _ _ hW)).2 u.toNat (by omega)) (ci := 1) (q0 := 0) rfl rfl) rfl rfl hl.1 (Nat.le_of_ble_eq_true rfl) ⟨Nat.le_of_ble_eq_true rfl, Nat.le_of_ble_eq_true rfl⟩ dX5_leftShare_32 ?_
  refine W.eq (g2 := F0 m 35 ls [.int (iI ((eL (fE F u.toNat)) k.toNat)), .int (iI u), .ref t3]) rfl ?_
  refine q_pV (n := 2) (rest := []) S0 hK (c_X8_get40 l g t3 q3 (nV r) u ((eL (fE F u.toNat)) k.toNat) (by omega) (by omega)) (subP hW.1 [7, 8] rfl) (trivial) gX5_leftShare_X8_get rfl rfl rfl (by decide +kernel) ⟨by dsimp only; omega, by dsimp only; omega⟩ (q_recv hK hW.1 (ci := 8) (q0 := 7) rfl rfl) rfl rfl hl.1 (Nat.le_of_ble_eq_true rfl) ⟨Nat.le_of_ble_eq_true rfl, Nat.le_of_ble_eq_true rfl⟩ dX5_leftShare_35 ?_
  refine W.eq (g2 := F0 m 38 ls [.int (iI (gv (row (nV r) u) ((eL (fE F u.toNat)) k.toNat)))]) rfl ?_
  refine lv_istore (lv' := [(6, .int (iI (gv (row (nV r) u) ((eL (fE F u.toNat)) k.toNat)))), (5, .int (iI ((eU (fE F u.toNat)) k.toNat))), (4, .ref (fR F)), (3, .ref (fX F u.toNat)), (0, .ref rk), (1, .int (iI u)), (2, .int (iI k))]) S0.1 S0.2.1 dX5_leftShare_38 hl (by decide) rfl (fun ls hl => ?_)
  refine lv_aload_n S0.1 S0.2.1 dX5_leftShare_40 rfl (lv_at hl 4 rfl) ?_
  refine q_get (C := RX5) (T := TX5) (N := 7) S0 hK hW.1 hinX5 0 rfl rfl 3 (by decide) (List.mem_of_getElem? (i := 2) rfl) rfl rfl dX5_leftShare_41 ?_
  refine lv_iload_n S0.1 S0.2.1 dX5_leftShare_44 rfl (lv_at hl 5 rfl) ?_
  refine lv_aload_n S0.1 S0.2.1 dX5_leftShare_45 rfl (lv_at hl 3 rfl) ?_
  refine lv_iload_n S0.1 S0.2.1 dX5_leftShare_46 rfl (lv_at hl 6 rfl) ?_
  refine q_pV (n := 1) (rest := [.int (iI u), .ref t3]) S0 hK (c_X1_rightI l g (fX F u.toNat) (fK F u.toNat 1) (fK F u.toNat 2) (fK F u.toNat 3) (fK F u.toNat 4) (fD F u.toNat) (fU F u.toNat) (fL F u.toNat) (eN (fE F u.toNat)) (eV (fE F u.toNat)) k (by omega) (by omega)) (subP (((hfz _ _ _ hW)).2 u.toNat (by omega)) [0, 4] rfl) (trivial) gX5_leftShare_X1_right rfl rfl rfl (by decide +kernel) ⟨by dsimp only; omega, by dsimp only; omega⟩ (q_recv hK (((hfz _ _ _ hW)).2 u.toNat (by omega)) (ci := 1) (q0 := 0) rfl rfl) rfl rfl hl.1 (Nat.le_of_ble_eq_true rfl) ⟨Nat.le_of_ble_eq_true rfl, Nat.le_of_ble_eq_true rfl⟩ dX5_leftShare_47 ?_
  refine W.eq (g2 := F0 m 50 ls [.int (iI ((eV (fE F u.toNat)) k.toNat)), .int (iI u), .ref t3]) rfl ?_
  refine q_pV (n := 2) (rest := []) S0 hK (c_X8_get40 l g t3 q3 (nV r) u ((eV (fE F u.toNat)) k.toNat) (by omega) (by omega)) (subP hW.1 [7, 8] rfl) (trivial) gX5_leftShare_X8_get rfl rfl rfl (by decide +kernel) ⟨by dsimp only; omega, by dsimp only; omega⟩ (q_recv hK hW.1 (ci := 8) (q0 := 7) rfl rfl) rfl rfl hl.1 (Nat.le_of_ble_eq_true rfl) ⟨Nat.le_of_ble_eq_true rfl, Nat.le_of_ble_eq_true rfl⟩ dX5_leftShare_50 ?_
  refine W.eq (g2 := F0 m 53 ls [.int (iI (gv (row (nV r) u) ((eV (fE F u.toNat)) k.toNat)))]) rfl ?_
  refine lv_istore (lv' := [(7, .int (iI (gv (row (nV r) u) ((eV (fE F u.toNat)) k.toNat)))), (6, .int (iI (gv (row (nV r) u) ((eL (fE F u.toNat)) k.toNat)))), (5, .int (iI ((eU (fE F u.toNat)) k.toNat))), (4, .ref (fR F)), (3, .ref (fX F u.toNat)), (0, .ref rk), (1, .int (iI u)), (2, .int (iI k))]) S0.1 S0.2.1 dX5_leftShare_53 hl (by decide) rfl (fun ls hl => ?_)
  refine lv_aload_n S0.1 S0.2.1 dX5_leftShare_55 rfl (lv_at hl 4 rfl) ?_
  refine lv_iload_n S0.1 S0.2.1 dX5_leftShare_56 rfl (lv_at hl 7 rfl) ?_
  refine q_pV (n := 1) (rest := []) S0 hK (c_X1_kindI l g (fX F u.toNat) (fK F u.toNat 1) (fK F u.toNat 2) (fK F u.toNat 3) (fK F u.toNat 4) (fD F u.toNat) (fU F u.toNat) (fL F u.toNat) (eN (fE F u.toNat)) (eK (fE F u.toNat)) k (by omega) (by omega)) (subP (((hfz _ _ _ hW)).2 u.toNat (by omega)) [0, 1] rfl) (trivial) gX5_leftShare_X1_kind rfl rfl rfl (by decide +kernel) ⟨by dsimp only; omega, by dsimp only; omega⟩ (q_recv hK (((hfz _ _ _ hW)).2 u.toNat (by omega)) (ci := 1) (q0 := 0) rfl rfl) rfl rfl hl.1 (Nat.le_of_ble_eq_true rfl) ⟨Nat.le_of_ble_eq_true rfl, Nat.le_of_ble_eq_true rfl⟩ dX5_leftShare_57 ?_
  refine W.eq (g2 := F0 m 60 ls [.int (iI ((eK (fE F u.toNat)) k.toNat))]) rfl ?_
  by_cases k60_42 : (eK (fE F u.toNat)) k.toNat = 42
  · refine q_topI k60_42 ?_
    refine lv_lookup (off := 78) (tgt := 138) S0.1 S0.2.1 dX5_leftShare_60 (by decide) (by decide) (by decide) ?_
    refine lv_iload S0.1 S0.2.1 dX5_leftShare_138 (lv_at hl 0 rfl) ?_
    exact q_iret S0 hr hlocks r (by first | exact hlast | exact ⟨hI, fun j _ => ⟨rfl, rfl, rfl⟩⟩) (by unfold lsh; (repeat (first | rw [if_pos (by omega)] | rw [if_neg (by omega)])); first | done | rfl | (unfold inv'; rfl)) (hW.sub [0, 1, 2, 3, 4, 5, 6, 7, 8, 9, 10, 11, 12] rfl (rfl)) (Nat.le_of_ble_eq_true rfl) (Nat.le_of_ble_eq_true rfl) dX5_leftShare_140
  by_cases k60_43 : (eK (fE F u.toNat)) k.toNat = 43
  · refine q_topI k60_43 ?_
    refine lv_lookup (off := 76) (tgt := 136) S0.1 S0.2.1 dX5_leftShare_60 (by decide) (by decide) (by decide) ?_
    refine q_iconst S0 dX5_leftShare_136 ?_
    exact q_iret S0 hr hlocks r (by first | exact hlast | exact ⟨hI, fun j _ => ⟨rfl, rfl, rfl⟩⟩) (by unfold lsh; (repeat (first | rw [if_pos (by omega)] | rw [if_neg (by omega)])); first | done | rfl | (unfold inv'; rfl)) (hW.sub [0, 1, 2, 3, 4, 5, 6, 7, 8, 9, 10, 11, 12] rfl (rfl)) (Nat.le_of_ble_eq_true rfl) (Nat.le_of_ble_eq_true rfl) dX5_leftShare_137
  by_cases k60_45 : (eK (fE F u.toNat)) k.toNat = 45
  · refine q_topI k60_45 ?_
    refine lv_lookup (off := 76) (tgt := 136) S0.1 S0.2.1 dX5_leftShare_60 (by decide) (by decide) (by decide) ?_
    refine q_iconst S0 dX5_leftShare_136 ?_
    exact q_iret S0 hr hlocks r (by first | exact hlast | exact ⟨hI, fun j _ => ⟨rfl, rfl, rfl⟩⟩) (by unfold lsh; (repeat (first | rw [if_pos (by omega)] | rw [if_neg (by omega)])); first | done | rfl | (unfold inv'; rfl)) (hW.sub [0, 1, 2, 3, 4, 5, 6, 7, 8, 9, 10, 11, 12] rfl (rfl)) (Nat.le_of_ble_eq_true rfl) (Nat.le_of_ble_eq_true rfl) dX5_leftShare_137
  by_cases k60_47 : (eK (fE F u.toNat)) k.toNat = 47
  · refine q_topI k60_47 ?_
    refine lv_lookup (off := 81) (tgt := 141) S0.1 S0.2.1 dX5_leftShare_60 (by decide) (by decide) (by decide) ?_
    refine lv_aload S0.1 S0.2.1 dX5_leftShare_141 (lv_at hl 3 rfl) ?_
    refine lv_iload S0.1 S0.2.1 dX5_leftShare_143 (lv_at hl 0 rfl) ?_
    refine lv_aload S0.1 S0.2.1 dX5_leftShare_145 (lv_at hl 3 rfl) ?_
    refine lv_iload S0.1 S0.2.1 dX5_leftShare_147 (lv_at hl 0 rfl) ?_
    refine lv_iload S0.1 S0.2.1 dX5_leftShare_149 (lv_at hl 0 rfl) ?_
    have hm3 := mul_rng (a := gv (row (nV r) u) (eV (fE F u.toNat) k.toNat)) (b := gv (row (nV r) u) (eV (fE F u.toNat) k.toNat)) (n := 200) (k := 200) (by omega) (by omega)
    refine q_pV (n := 2) (rest := [.int (iI (gv (row (nV r) u) ((eV (fE F u.toNat)) k.toNat))), .ref (fR F)]) S0 hK (c_X6_multiply l g (fR F) (fP F) (gv (row (nV r) u) ((eV (fE F u.toNat)) k.toNat)) (gv (row (nV r) u) ((eV (fE F u.toNat)) k.toNat)) (by omega) (by omega)) (subP ((hfz _ _ _ hW)).1 [1] rfl) (trivial) gX5_leftShare_X6_multiply rfl rfl rfl (by decide +kernel) ⟨by dsimp only; omega, by dsimp only; omega⟩ (q_recv hK ((hfz _ _ _ hW)).1 (ci := 6) (q0 := 1) rfl rfl) rfl rfl hl.1 (Nat.le_of_ble_eq_true rfl) ⟨Nat.le_of_ble_eq_true rfl, Nat.le_of_ble_eq_true rfl⟩ dX5_leftShare_151 ?_
    refine W.eq (g2 := F0 m 154 ls [.int (iI (((gv (row (nV r) u) ((eV (fE F u.toNat)) k.toNat)) * (gv (row (nV r) u) ((eV (fE F u.toNat)) k.toNat))) % (fP F))), .int (iI (gv (row (nV r) u) ((eV (fE F u.toNat)) k.toNat))), .ref (fR F)]) rfl ?_
    have he2 := emod_rng (gv (row (nV r) u) (eV (fE F u.toNat) k.toNat) * gv (row (nV r) u) (eV (fE F u.toNat) k.toNat)) (p := fP F) (by omega)
    refine q_pV (n := 2) (rest := []) S0 hK (c_X6_divide l g (fR F) (fP F) (gv (row (nV r) u) ((eV (fE F u.toNat)) k.toNat)) (((gv (row (nV r) u) ((eV (fE F u.toNat)) k.toNat)) * (gv (row (nV r) u) ((eV (fE F u.toNat)) k.toNat))) % (fP F)) (by omega) (by omega) (by omega)) (subP ((hfz _ _ _ hW)).1 [1] rfl) (trivial) gX5_leftShare_X6_divide rfl rfl rfl (by decide +kernel) ⟨by dsimp only; omega, by dsimp only; omega⟩ (q_recv hK ((hfz _ _ _ hW)).1 (ci := 6) (q0 := 1) rfl rfl) rfl rfl hl.1 (Nat.le_of_ble_eq_true rfl) ⟨Nat.le_of_ble_eq_true rfl, Nat.le_of_ble_eq_true rfl⟩ dX5_leftShare_154 ?_
    refine W.eq (g2 := F0 m 157 ls [.int (iI ((gv (row (nV r) u) ((eV (fE F u.toNat)) k.toNat)) * ((((gv (row (nV r) u) ((eV (fE F u.toNat)) k.toNat)) * (gv (row (nV r) u) ((eV (fE F u.toNat)) k.toNat))) % (fP F)) ^ ((fP F) - 2).toNat % (fP F)) % (fP F)))]) rfl ?_
    exact q_iret S0 hr hlocks r (by first | exact hlast | exact ⟨hI, fun j _ => ⟨rfl, rfl, rfl⟩⟩) (by unfold lsh; (repeat (first | rw [if_pos (by omega)] | rw [if_neg (by omega)])); first | done | rfl | (unfold inv'; rfl)) (hW.sub [0, 1, 2, 3, 4, 5, 6, 7, 8, 9, 10, 11, 12] rfl (rfl)) (Nat.le_of_ble_eq_true rfl) (Nat.le_of_ble_eq_true rfl) dX5_leftShare_157
  by_cases k60_94 : (eK (fE F u.toNat)) k.toNat = 94
  · refine q_topI k60_94 ?_
    refine lv_lookup (off := 98) (tgt := 158) S0.1 S0.2.1 dX5_leftShare_60 (by decide) (by decide) (by decide) ?_
    refine lv_aload S0.1 S0.2.1 dX5_leftShare_158 (lv_at hl 3 rfl) ?_
    refine lv_iload S0.1 S0.2.1 dX5_leftShare_160 (lv_at hl 1 rfl) ?_
    refine lv_iload S0.1 S0.2.1 dX5_leftShare_162 (lv_at hl 2 rfl) ?_
    refine q_pV (n := 2) (rest := []) S0 hK (c_X6_powerSlope l g (fR F) (fP F) (gv (row (nV r) u) ((eL (fE F u.toNat)) k.toNat)) ((eU (fE F u.toNat)) k.toNat) (by omega) (by omega) (by omega)) (subP ((hfz _ _ _ hW)).1 [1] rfl) (trivial) gX5_leftShare_X6_powerSlope rfl rfl rfl (by decide +kernel) ⟨by dsimp only; omega, by dsimp only; omega⟩ (q_recv hK ((hfz _ _ _ hW)).1 (ci := 6) (q0 := 1) rfl rfl) rfl rfl hl.1 (Nat.le_of_ble_eq_true rfl) ⟨Nat.le_of_ble_eq_true rfl, Nat.le_of_ble_eq_true rfl⟩ dX5_leftShare_164 ?_
    refine W.eq (g2 := F0 m 167 ls [.int (iI (((eU (fE F u.toNat)) k.toNat) * ((gv (row (nV r) u) ((eL (fE F u.toNat)) k.toNat)) ^ (((eU (fE F u.toNat)) k.toNat) - 1).toNat % (fP F)) % (fP F)))]) rfl ?_
    exact q_iret S0 hr hlocks r (by first | exact hlast | exact ⟨hI, fun j _ => ⟨rfl, rfl, rfl⟩⟩) (by unfold lsh; (repeat (first | rw [if_pos (by omega)] | rw [if_neg (by omega)])); first | done | rfl | (unfold inv'; rfl)) (hW.sub [0, 1, 2, 3, 4, 5, 6, 7, 8, 9, 10, 11, 12] rfl (rfl)) (Nat.le_of_ble_eq_true rfl) (Nat.le_of_ble_eq_true rfl) dX5_leftShare_167
  by_cases k60_99 : (eK (fE F u.toNat)) k.toNat = 99
  · refine q_topI k60_99 ?_
    refine lv_lookup (off := 108) (tgt := 168) S0.1 S0.2.1 dX5_leftShare_60 (by decide) (by decide) (by decide) ?_
    refine lv_iload_n S0.1 S0.2.1 dX5_leftShare_168 rfl (lv_at hl 6 rfl) ?_
    refine lv_iload S0.1 S0.2.1 dX5_leftShare_169 (lv_at hl 2 rfl) ?_
    refine q_pS (n := 2) (rest := []) S0 hK (c_X5_mayUse l g u ((eU (fE F u.toNat)) k.toNat) (by omega) (by omega)) (subP hW.1 [] rfl) (trivial) gX5_leftShare_X5_mayUse rfl rfl rfl (by decide +kernel) ⟨by dsimp only; omega, by dsimp only; omega⟩ rfl rfl hl.1 (Nat.le_of_ble_eq_true rfl) ⟨Nat.le_of_ble_eq_true rfl, Nat.le_of_ble_eq_true rfl⟩ dX5_leftShare_171 ?_
    refine W.eq (g2 := F0 m 174 ls [.int (iI (if 0 ≤ ((eU (fE F u.toNat)) k.toNat) ∧ ((eU (fE F u.toNat)) k.toNat) < u then (1 : Int) else 0))]) rfl ?_
    refine q_if_eqP (tgt := 188) S0 dX5_leftShare_174 (by decide) (fun c174 => ?_) (fun c174 => ?_)
    · skip
      exact absurd ⟨hU.1, (by have := hU.2.2.2 k60_99; omega)⟩ c174
    · skip
      refine lv_aload_n S0.1 S0.2.1 dX5_leftShare_177 rfl (lv_at hl 5 rfl) ?_
      refine lv_iload S0.1 S0.2.1 dX5_leftShare_178 (lv_at hl 2 rfl) ?_
      refine lv_iload S0.1 S0.2.1 dX5_leftShare_180 (lv_at hl 1 rfl) ?_
      have hU9 := hU.2.2.2 k60_99
      refine q_cV (n := 2) (rest := []) (wr := []) S0 hK hA hW (IH rk t0 q0 t1 q1 t2 q2 t3 q3 t4 q4 t5 q5 r ((eU (fE F u.toNat)) k.toNat) (gv (row (nV r) u) ((eL (fE F u.toNat)) k.toNat)) (by omega) (by omega) (by omega) (gu) (hI)) gX5_leftShare_X5_ruleSlope rfl rfl rfl (by decide +kernel) ⟨by dsimp only; omega, by dsimp only; omega⟩ [0, 1, 2, 3, 4, 5, 6, 7, 8, 9, 10, 11, 12] [] rfl rfl rfl rfl (by decide) (q_recv hK hW.1 (ci := 5) (q0 := 0) rfl rfl) (hO) (hfz _ _ _ hW) rfl rfl hl.1 (Nat.le_of_ble_eq_true rfl) ⟨Nat.le_of_ble_eq_true rfl, Nat.le_of_ble_eq_true rfl⟩ dX5_leftShare_182 ?_
      rintro r2 H locs hp hW
      try dsimp only at hp
      have hW : gW g A s.heap H _ [(rk, .inr (5, [.ref t0, .ref t1, .ref t2, .ref t3, .ref t4, .ref t5, .ref (fS F)])), (t0, .inr (8, [.int (iI 199), .ref q0])), (q0, gI g 796 (rV r2)), (t1, .inr (8, [.int (iI 199), .ref q1])), (q1, gI g 796 (rH r2)), (t2, .inr (8, [.int (iI 199), .ref q2])), (q2, gI g 796 (rR r2)), (t3, .inr (8, [.int (iI 40), .ref q3])), (q3, gI g 160 (nV r2)), (t4, .inr (8, [.int (iI 40), .ref q4])), (q4, gI g 160 (nS r2)), (t5, .inr (8, [.int (iI 40), .ref q5])), (q5, gI g 160 (nW r2))] := hW
      refine W.eq (g2 := F0 m 185 ls [.int (iI (hh (fP F) (fE F) ((eU (fE F u.toNat)) k.toNat).toNat (gv (row (nV r) u) ((eL (fE F u.toNat)) k.toNat))))]) rfl ?_
      have hlast : RI F r2 ∧ ∀ j : Nat, u * 40 ≤ (j : Int) → nV r2 j = nV r j ∧ nS r2 j = nS r j ∧ nW r2 j = nW r j := ⟨hp.1, fun j hj => hp.2 j (by omega)⟩
      refine lv_goto (tgt := 189) S0.1 S0.2.1 dX5_leftShare_185 (by decide) ?_
      exact q_iret S0 hr hlocks r2 (by first | exact hlast | exact ⟨hI, fun j _ => ⟨rfl, rfl, rfl⟩⟩) (by unfold lsh; (repeat (first | rw [if_pos (by omega)] | rw [if_neg (by omega)])); first | done | rfl | (unfold inv'; rfl)) (hW.sub [0, 1, 2, 3, 4, 5, 6, 7, 8, 9, 10, 11, 12] rfl (rfl)) (Nat.le_of_ble_eq_true rfl) (Nat.le_of_ble_eq_true rfl) dX5_leftShare_189
  by_cases k60_110 : (eK (fE F u.toNat)) k.toNat = 110
  · refine q_topI k60_110 ?_
    refine lv_lookup (off := 68) (tgt := 128) S0.1 S0.2.1 dX5_leftShare_60 (by decide) (by decide) (by decide) ?_
    refine lv_aload S0.1 S0.2.1 dX5_leftShare_128 (lv_at hl 3 rfl) ?_
    refine q_iconst S0 dX5_leftShare_130 ?_
    refine q_iconst S0 dX5_leftShare_131 ?_
    refine q_pV (n := 2) (rest := []) S0 hK (c_X6_subtract l g (fR F) (fP F) 0 1 (by omega) (by omega)) (subP ((hfz _ _ _ hW)).1 [1] rfl) (trivial) gX5_leftShare_X6_subtract rfl rfl rfl (by decide +kernel) ⟨by dsimp only; omega, by dsimp only; omega⟩ (q_recv hK ((hfz _ _ _ hW)).1 (ci := 6) (q0 := 1) rfl rfl) rfl rfl hl.1 (Nat.le_of_ble_eq_true rfl) ⟨Nat.le_of_ble_eq_true rfl, Nat.le_of_ble_eq_true rfl⟩ dX5_leftShare_132 ?_
    refine W.eq (g2 := F0 m 135 ls [.int (iI ((0 - 1) % (fP F)))]) rfl ?_
    exact q_iret S0 hr hlocks r (by first | exact hlast | exact ⟨hI, fun j _ => ⟨rfl, rfl, rfl⟩⟩) (by unfold lsh; (repeat (first | rw [if_pos (by omega)] | rw [if_neg (by omega)])); first | done | rfl | (unfold inv'; rfl)) (hW.sub [0, 1, 2, 3, 4, 5, 6, 7, 8, 9, 10, 11, 12] rfl (rfl)) (Nat.le_of_ble_eq_true rfl) (Nat.le_of_ble_eq_true rfl) dX5_leftShare_135
  refine lv_lookup (off := 130) (tgt := 190) S0.1 S0.2.1 dX5_leftShare_60 (by decide) (by rw [iI_t (by omega) (by omega)]; show Op.lookupswitch.offset [(42, 78), (43, 76), (45, 76), (47, 81), (94, 98), (99, 108), (110, 68)] 130 ((eK (fE F u.toNat)) k.toNat) = 130; (repeat rw [Op.lookupswitch.offset_cons, if_neg (by omega)]); rfl) (by decide) ?_
  refine q_iconst S0 dX5_leftShare_190 ?_
  exact q_iret S0 hr hlocks r (by first | exact hlast | exact ⟨hI, fun j _ => ⟨rfl, rfl, rfl⟩⟩) (by unfold lsh; (repeat (first | rw [if_pos (by omega)] | rw [if_neg (by omega)])); first | done | rfl | (unfold inv'; rfl)) (hW.sub [0, 1, 2, 3, 4, 5, 6, 7, 8, 9, 10, 11, 12] rfl (rfl)) (Nat.le_of_ble_eq_true rfl) (Nat.le_of_ble_eq_true rfl) dX5_leftShare_191
set_option maxHeartbeats 4000000 in
set_option maxRecDepth 100000 in
theorem c_X5_passWeightOn (l : Launch) (g : GG) (F : FT) (d : Nat) (rk t0 q0 t1 q1 t2 q2 t3 q3 t4 q4 t5 q5 : Nat) (r : RT) (u k : Int) (IH : RSLP l g F d) (hud : u ≤ d) (hG : GF F) (hI : RI F r) (hu : 0 ≤ u ∧ u < 4) (hk : 0 ≤ k ∧ k < eN (fE F u.toNat)) (hv : ∀ j, j < k.toNat → 0 ≤ row (nV r) u j ∧ row (nV r) u j < fP F) (hw : 0 ≤ row (nW r) u k.toNat ∧ row (nW r) u k.toNat < fP F) (hls : 0 ≤ lsh F u.toNat (row (nV r) u) k.toNat ∧ lsh F u.toNat (row (nV r) u) k.toNat < 200) : qMet l yX5_passWeightOn wsX5_passWeightOn ({ frames := 4 * d + 22, cells := 0, slots := 0, locals := 120 * d + 660 }) g [.ref rk, .int (iI u), .int (iI k)] [(rk, .inr (5, [.ref t0, .ref t1, .ref t2, .ref t3, .ref t4, .ref t5, .ref (fS F)])), (t0, .inr (8, [.int (iI 199), .ref q0])), (q0, gI g 796 (rV r)), (t1, .inr (8, [.int (iI 199), .ref q1])), (q1, gI g 796 (rH r)), (t2, .inr (8, [.int (iI 199), .ref q2])), (q2, gI g 796 (rR r)), (t3, .inr (8, [.int (iI 40), .ref q3])), (q3, gI g 160 (nV r)), (t4, .inr (8, [.int (iI 40), .ref q4])), (q4, gI g 160 (nS r)), (t5, .inr (8, [.int (iI 40), .ref q5])), (q5, gI g 160 (nW r))] (fun q => ¬ fzA F q) (FX g F) (S := RT) (fun _ => none) (fun u_ => [(rk, .inr (5, [.ref t0, .ref t1, .ref t2, .ref t3, .ref t4, .ref t5, .ref (fS F)])), (t0, .inr (8, [.int (iI 199), .ref q0])), (q0, gI g 796 (rV u_)), (t1, .inr (8, [.int (iI 199), .ref q1])), (q1, gI g 796 (rH u_)), (t2, .inr (8, [.int (iI 199), .ref q2])), (q2, gI g 796 (rR u_)), (t3, .inr (8, [.int (iI 40), .ref q3])), (q3, gI g 160 (nV u_)), (t4, .inr (8, [.int (iI 40), .ref q4])), (q4, gI g 160 (nS u_)), (t5, .inr (8, [.int (iI 40), .ref q5])), (q5, gI g 160 (nW u_))]) (fun u_ => RI F u_ ∧ ∀ j : Nat, u * 40 ≤ (j : Int) → nV u_ j = nV r j ∧ nS u_ j = nS r j ∧ nW u_ j = s40 (s40 (nW r) u (eL (fE F u.toNat) k.toNat) (row (nW r) u k.toNat * lsh F u.toNat (row (nV r) u) k.toNat % fP F)) u (eV (fE F u.toNat) k.toNat) (row (nW r) u k.toNat * rsh F u.toNat (row (nV r) u) k.toNat % fP F) j) 0 0 := by
  refine q_ofW (cc := cX5_passWeightOn) (maxL := 8) (ret := none) (fun sz h => h.self) (by decide) rfl (Nat.le_of_ble_eq_true rfl) ?_
  intro p e s m args below meth c A ls S0 hr hlocks hnme hK hA hAe hW hD0 hX hl
  have hW : gW g A s.heap s.heap [] [(rk, .inr (5, [.ref t0, .ref t1, .ref t2, .ref t3, .ref t4, .ref t5, .ref (fS F)])), (t0, .inr (8, [.int (iI 199), .ref q0])), (q0, gI g 796 (rV r)), (t1, .inr (8, [.int (iI 199), .ref q1])), (q1, gI g 796 (rH r)), (t2, .inr (8, [.int (iI 199), .ref q2])), (q2, gI g 796 (rR r)), (t3, .inr (8, [.int (iI 40), .ref q3])), (q3, gI g 160 (nV r)), (t4, .inr (8, [.int (iI 40), .ref q4])), (q4, gI g 160 (nS r)), (t5, .inr (8, [.int (iI 40), .ref q5])), (q5, gI g 160 (nW r))] := hW
  have hl : lv_has ls 8 [(0, .ref rk), (1, .int (iI u)), (2, .int (iI k))] := hl
  have hinX5 : ∀ w ∈ wsX50, w ∈ wsX5_passWeightOn := fun w h => List.mem_cons_of_mem _ (List.mem_append_left _ (List.mem_append_left _ (List.mem_append_left _ (List.mem_append_left _ (List.mem_append_right _ h)))))
  have hpr := GF_p hG
  have hO := fz_out hX hD0 hAe
  have hfz : ∀ (H : Heap) (locs : List Loc) (ws : va_W), gW g A s.heap H locs ws → FX g F H := fun H locs ws h => fz_stay hX hO h
  have hE := (hG.2 u.toNat (by omega)).2.1 k.toNat (by omega)
  have hn := (hG.2 u.toNat (by omega)).1
  have hL := WFK_L hE
  have hV := WFK_V hE
  have hKK := WFK_K hE
  have hU := WFK_U hE (by omega)
  have gu := gv_rng (w := row (nV r) u) (p := fP F) (i := eL (fE F u.toNat) k.toNat) (k := k.toNat) (by omega) hv (by omega) hL
  have gw := gv_rng (w := row (nV r) u) (p := fP F) (i := eV (fE F u.toNat) k.toNat) (k := k.toNat) (by omega) hv (by omega) hV
  refine lv_aload_n S0.1 S0.2.1 dX5_passWeightOn_0 rfl (lv_at hl 0 rfl) ?_
  refine q_get (C := RX5) (T := TX5) (N := 7) S0 hK hW.1 hinX5 0 rfl rfl 6 (by decide) (List.mem_of_getElem? (i := 1) rfl) rfl rfl dX5_passWeightOn_1 ?_
  refine lv_iload_n S0.1 S0.2.1 dX5_passWeightOn_4 rfl (lv_at hl 1 rfl) ?_
  refine q_pV (n := 1) (rest := []) S0 hK (c_X7_exprOf l g (fS F) (fR F) (fX F) u (by omega)) (subP ((hfz _ _ _ hW)).1 [0] rfl) (trivial) gX5_passWeightOn_X7_expressionOf rfl rfl rfl (by decide +kernel) ⟨by dsimp only; omega, by dsimp only; omega⟩ (q_recv hK ((hfz _ _ _ hW)).1 (ci := 7) (q0 := 0) rfl rfl) rfl rfl hl.1 (Nat.le_of_ble_eq_true rfl) ⟨Nat.le_of_ble_eq_true rfl, Nat.le_of_ble_eq_true rfl⟩ dX5_passWeightOn_5 ?_
  refine W.eq (g2 := F0 m 8 ls [.ref (fX F u.toNat)]) rfl ?_
  refine lv_astore_n (lv' := [(3, .ref (fX F u.toNat)), (0, .ref rk), (1, .int (iI u)), (2, .int (iI k))]) S0.1 S0.2.1 dX5_passWeightOn_8 rfl hl (by decide) rfl (fun ls hl => ?_)
  refine lv_aload_n S0.1 S0.2.1 dX5_passWeightOn_9 rfl (lv_at hl 1 rfl) ?_
  refine q_get (C := RX5) (T := TX5) (N := 7) S0 hK hW.1 hinX5 0 rfl rfl 6 (by decide) (List.mem_of_getElem? (i := 1) rfl) rfl rfl dX5_passWeightOn_10 ?_
  refine q_pV (n := 0) (rest := []) S0 hK (c_X7_numbers l g (fS F) (fR F) (fX F 0) (fX F 1) (fX F 2) (fX F 3)) (subP ((hfz _ _ _ hW)).1 [0] rfl) (trivial) gX5_passWeightOn_X7_numbers rfl rfl rfl (by decide +kernel) ⟨by dsimp only; omega, by dsimp only; omega⟩ (q_recv hK ((hfz _ _ _ hW)).1 (ci := 7) (q0 := 0) rfl rfl) rfl rfl hl.1 (Nat.le_of_ble_eq_true rfl) ⟨Nat.le_of_ble_eq_true rfl, Nat.le_of_ble_eq_true rfl⟩ dX5_passWeightOn_13 ?_
  refine W.eq (g2 := F0 m 16 ls [.ref (fR F)]) rfl ?_
  refine lv_astore (lv' := [(4, .ref (fR F)), (3, .ref (fX F u.toNat)), (0, .ref rk), (1, .int (iI u)), (2, .int (iI k))]) S0.1 S0.2.1 dX5_passWeightOn_16 hl (by decide) rfl (fun ls hl => ?_)
  refine lv_aload_n S0.1 S0.2.1 dX5_passWeightOn_18 rfl (lv_at hl 1 rfl) ?_
  refine lv_iload_n S0.1 S0.2.1 dX5_passWeightOn_19 rfl (lv_at hl 4 rfl) ?_
  refine q_pV (n := 1) (rest := []) S0 hK (c_X1_leftI l g (fX F u.toNat) (fK F u.toNat 1) (fK F u.toNat 2) (fK F u.toNat 3) (fK F u.toNat 4) (fD F u.toNat) (fU F u.toNat) (fL F u.toNat) (eN (fE F u.toNat)) (eL (fE F u.toNat)) k (by omega) (by omega)) (subP (((hfz _ _ _ hW)).2 u.toNat (by omega)) [0, 3] rfl) (trivial) gX5_passWeightOn_X1_left rfl rfl rfl (by decide +kernel) ⟨by dsimp only; omega, by dsimp only; omega⟩ (q_recv hK (((hfz _ _ _ hW)).2 u.toNat (by omega)) (ci := 1) (q0 := 0) rfl rfl) rfl rfl hl.1 (Nat.le_of_ble_eq_true rfl) ⟨Nat.le_of_ble_eq_true rfl, Nat.le_of_ble_eq_true rfl⟩ dX5_passWeightOn_20 ?_
  refine W.eq (g2 := F0 m 23 ls [.int (iI ((eL (fE F u.toNat)) k.toNat))]) rfl ?_
  refine lv_istore (lv' := [(5, .int (iI ((eL (fE F u.toNat)) k.toNat))), (4, .ref (fR F)), (3, .ref (fX F u.toNat)), (0, .ref rk), (1, .int (iI u)), (2, .int (iI k))]) S0.1 S0.2.1 dX5_passWeightOn_23 hl (by decide) rfl (fun ls hl => ?_)
  refine lv_aload_n S0.1 S0.2.1 dX5_passWeightOn_25 rfl (lv_at hl 2 rfl) ?_
  refine lv_iload_n S0.1 S0.2.1 dX5_passWeightOn_26 rfl (lv_at hl 5 rfl) ?_
  refine q_pV (n := 1) (rest := []) S0 hK (c_X1_rightI l g (fX F u.toNat) (fK F u.toNat 1) (fK F u.toNat 2) (fK F u.toNat 3) (fK F u.toNat 4) (fD F u.toNat) (fU F u.toNat) (fL F u.toNat) (eN (fE F u.toNat)) (eV (fE F u.toNat)) k (by omega) (by omega)) (subP (((hfz _ _ _ hW)).2 u.toNat (by omega)) [0, 4] rfl) (trivial) gX5_passWeightOn_X1_right rfl rfl rfl (by decide +kernel) ⟨by dsimp only; omega, by dsimp only; omega⟩ (q_recv hK (((hfz _ _ _ hW)).2 u.toNat (by omega)) (ci := 1) (q0 := 0) rfl rfl) rfl rfl hl.1 (Nat.le_of_ble_eq_true rfl) ⟨Nat.le_of_ble_eq_true rfl, Nat.le_of_ble_eq_true rfl⟩ dX5_passWeightOn_27 ?_
  refine W.eq (g2 := F0 m 30 ls [.int (iI ((eV (fE F u.toNat)) k.toNat))]) rfl ?_
  refine lv_istore (lv' := [(6, .int (iI ((eV (fE F u.toNat)) k.toNat))), (5, .int (iI ((eL (fE F u.toNat)) k.toNat))), (4, .ref (fR F)), (3, .ref (fX F u.toNat)), (0, .ref rk), (1, .int (iI u)), (2, .int (iI k))]) S0.1 S0.2.1 dX5_passWeightOn_30 hl (by decide) rfl (fun ls hl => ?_)
  refine lv_aload_n S0.1 S0.2.1 dX5_passWeightOn_32 rfl (lv_at hl 4 rfl) ?_
  refine q_get (C := RX5) (T := TX5) (N := 7) S0 hK hW.1 hinX5 0 rfl rfl 5 (by decide) (List.mem_of_getElem? (i := 2) rfl) rfl rfl dX5_passWeightOn_33 ?_
  refine lv_iload_n S0.1 S0.2.1 dX5_passWeightOn_36 rfl (lv_at hl 5 rfl) ?_
  refine lv_iload_n S0.1 S0.2.1 dX5_passWeightOn_37 rfl (lv_at hl 6 rfl) ?_
  refine q_pV (n := 2) (rest := []) S0 hK (c_X8_get40 l g t5 q5 (nW r) u k (by omega) (by omega)) (subP hW.1 [11, 12] rfl) (trivial) gX5_passWeightOn_X8_get rfl rfl rfl (by decide +kernel) ⟨by dsimp only; omega, by dsimp only; omega⟩ (q_recv hK hW.1 (ci := 8) (q0 := 11) rfl rfl) rfl rfl hl.1 (Nat.le_of_ble_eq_true rfl) ⟨Nat.le_of_ble_eq_true rfl, Nat.le_of_ble_eq_true rfl⟩ dX5_passWeightOn_38 ?_
  refine W.eq (g2 := F0 m 41 ls [.int (iI (gv (row (nW r) u) k))]) rfl ?_
  refine q_topI (b := row (nW r) u k.toNat) (by rw [gv_of (by omega)]) ?_
  refine lv_istore (lv' := [(7, .int (iI (row (nW r) u k.toNat))), (6, .int (iI ((eV (fE F u.toNat)) k.toNat))), (5, .int (iI ((eL (fE F u.toNat)) k.toNat))), (4, .ref (fR F)), (3, .ref (fX F u.toNat)), (0, .ref rk), (1, .int (iI u)), (2, .int (iI k))]) S0.1 S0.2.1 dX5_passWeightOn_41 hl (by decide) rfl (fun ls hl => ?_)
  refine lv_aload_n S0.1 S0.2.1 dX5_passWeightOn_43 rfl (lv_at hl 5 rfl) ?_
  refine q_get (C := RX5) (T := TX5) (N := 7) S0 hK hW.1 hinX5 0 rfl rfl 5 (by decide) (List.mem_of_getElem? (i := 2) rfl) rfl rfl dX5_passWeightOn_44 ?_
  refine lv_iload_n S0.1 S0.2.1 dX5_passWeightOn_47 rfl (lv_at hl 6 rfl) ?_
  refine lv_iload S0.1 S0.2.1 dX5_passWeightOn_48 (lv_at hl 2 rfl) ?_
  refine lv_aload S0.1 S0.2.1 dX5_passWeightOn_50 (lv_at hl 3 rfl) ?_
  refine lv_iload S0.1 S0.2.1 dX5_passWeightOn_52 (lv_at hl 0 rfl) ?_
  refine lv_aload_n S0.1 S0.2.1 dX5_passWeightOn_54 rfl (lv_at hl 5 rfl) ?_
  refine lv_iload_n S0.1 S0.2.1 dX5_passWeightOn_55 rfl (lv_at hl 6 rfl) ?_
  refine lv_iload_n S0.1 S0.2.1 dX5_passWeightOn_56 rfl (lv_at hl 7 rfl) ?_
  refine q_cV (n := 2) (rest := [.int (iI (row (nW r) u k.toNat)), .ref (fR F), .int (iI ((eL (fE F u.toNat)) k.toNat)), .int (iI u), .ref t5]) (wr := []) S0 hK hA hW (c_X5_leftShare l g F d rk t0 q0 t1 q1 t2 q2 t3 q3 t4 q4 t5 q5 r u k (IH) (hud) (hG) (hI) (hu) (hk) (hv)) gX5_passWeightOn_X5_leftShare rfl rfl rfl (by decide +kernel) ⟨by dsimp only; omega, by dsimp only; omega⟩ [0, 1, 2, 3, 4, 5, 6, 7, 8, 9, 10, 11, 12] [] rfl rfl rfl rfl (by decide) (q_recv hK hW.1 (ci := 5) (q0 := 0) rfl rfl) (hO) (hfz _ _ _ hW) rfl rfl hl.1 (Nat.le_of_ble_eq_true rfl) ⟨Nat.le_of_ble_eq_true rfl, Nat.le_of_ble_eq_true rfl⟩ dX5_passWeightOn_57 ?_
  rintro r2 H locs hp hW
  try dsimp only at hp
  have hW : gW g A s.heap H _ [(rk, .inr (5, [.ref t0, .ref t1, .ref t2, .ref t3, .ref t4, .ref t5, .ref (fS F)])), (t0, .inr (8, [.int (iI 199), .ref q0])), (q0, gI g 796 (rV r2)), (t1, .inr (8, [.int (iI 199), .ref q1])), (q1, gI g 796 (rH r2)), (t2, .inr (8, [.int (iI 199), .ref q2])), (q2, gI g 796 (rR r2)), (t3, .inr (8, [.int (iI 40), .ref q3])), (q3, gI g 160 (nV r2)), (t4, .inr (8, [.int (iI 40), .ref q4])), (q4, gI g 160 (nS r2)), (t5, .inr (8, [.int (iI 40), .ref q5])), (q5, gI g 160 (nW r2))] := hW
  refine W.eq (g2 := F0 m 60 ls [.int (iI (lsh F u.toNat (row (nV r) u) k.toNat)), .int (iI (row (nW r) u k.toNat)), .ref (fR F), .int (iI ((eL (fE F u.toNat)) k.toNat)), .int (iI u), .ref t5]) rfl ?_
  have hI2 := hp.1
  have hrw := hp.2
  have hvrow : row (nV r2) u = row (nV r) u := by funext j; exact (hrw (u * 40 + j).toNat (by omega)).1
  have hm := mul_rng (a := row (nW r) u k.toNat) (b := lsh F u.toNat (row (nV r) u) k.toNat) (n := 200) (k := 200) (by omega) (by omega)
  refine q_pV (n := 2) (rest := [.int (iI ((eL (fE F u.toNat)) k.toNat)), .int (iI u), .ref t5]) S0 hK (c_X6_multiply l g (fR F) (fP F) (row (nW r) u k.toNat) (lsh F u.toNat (row (nV r) u) k.toNat) (by omega) (by omega)) (subP ((hfz _ _ _ hW)).1 [1] rfl) (trivial) gX5_passWeightOn_X6_multiply rfl rfl rfl (by decide +kernel) ⟨by dsimp only; omega, by dsimp only; omega⟩ (q_recv hK ((hfz _ _ _ hW)).1 (ci := 6) (q0 := 1) rfl rfl) rfl rfl hl.1 (Nat.le_of_ble_eq_true rfl) ⟨Nat.le_of_ble_eq_true rfl, Nat.le_of_ble_eq_true rfl⟩ dX5_passWeightOn_60 ?_
  refine W.eq (g2 := F0 m 63 ls [.int (iI (((row (nW r) u k.toNat) * (lsh F u.toNat (row (nV r) u) k.toNat)) % (fP F))), .int (iI ((eL (fE F u.toNat)) k.toNat)), .int (iI u), .ref t5]) rfl ?_
  refine q_cV (n := 3) (rest := []) (wr := [(rk, .inr (5, [.ref t0, .ref t1, .ref t2, .ref t3, .ref t4, .ref t5, .ref (fS F)])), (t0, .inr (8, [.int (iI 199), .ref q0])), (q0, gI g 796 (rV r2)), (t1, .inr (8, [.int (iI 199), .ref q1])), (q1, gI g 796 (rH r2)), (t2, .inr (8, [.int (iI 199), .ref q2])), (q2, gI g 796 (rR r2)), (t3, .inr (8, [.int (iI 40), .ref q3])), (q3, gI g 160 (nV r2)), (t4, .inr (8, [.int (iI 40), .ref q4])), (q4, gI g 160 (nS r2))]) S0 hK hA hW (c_X8_set40n l g t5 q5 (nW r2) u ((eL (fE F u.toNat)) k.toNat) (((row (nW r) u k.toNat) * (lsh F u.toNat (row (nV r) u) k.toNat)) % (fP F)) (by omega) (by omega)) gX5_passWeightOn_X8_set rfl rfl rfl (by decide +kernel) ⟨by dsimp only; omega, by dsimp only; omega⟩ [11, 12] [0, 1, 2, 3, 4, 5, 6, 7, 8, 9, 10] rfl rfl rfl rfl (by decide) (q_recv hK hW.1 (ci := 8) (q0 := 11) rfl rfl) (fun _ _ => trivial) (trivial) rfl rfl hl.1 (Nat.le_of_ble_eq_true rfl) ⟨Nat.le_of_ble_eq_true rfl, Nat.le_of_ble_eq_true rfl⟩ dX5_passWeightOn_63 (fun _ H locs _ hW => ?_)
  have hW : gW g A s.heap H _ [(rk, .inr (5, [.ref t0, .ref t1, .ref t2, .ref t3, .ref t4, .ref t5, .ref (fS F)])), (t0, .inr (8, [.int (iI 199), .ref q0])), (q0, gI g 796 (rV r2)), (t1, .inr (8, [.int (iI 199), .ref q1])), (q1, gI g 796 (rH r2)), (t2, .inr (8, [.int (iI 199), .ref q2])), (q2, gI g 796 (rR r2)), (t3, .inr (8, [.int (iI 40), .ref q3])), (q3, gI g 160 (nV r2)), (t4, .inr (8, [.int (iI 40), .ref q4])), (q4, gI g 160 (nS r2)), (t5, .inr (8, [.int (iI 40), .ref q5])), (q5, gI g 160 (s40 (nW r2) u ((eL (fE F u.toNat)) k.toNat) (((row (nW r) u k.toNat) * (lsh F u.toNat (row (nV r) u) k.toNat)) % (fP F))))] := hW
  refine W.eq (g2 := F0 m 66 ls []) rfl ?_
  refine lv_aload_n S0.1 S0.2.1 dX5_passWeightOn_66 rfl (lv_at hl 5 rfl) ?_
  refine q_get (C := RX5) (T := TX5) (N := 7) S0 hK hW.1 hinX5 0 rfl rfl 5 (by decide) (List.mem_of_getElem? (i := 2) rfl) rfl rfl dX5_passWeightOn_67 ?_
  refine lv_iload_n S0.1 S0.2.1 dX5_passWeightOn_70 rfl (lv_at hl 6 rfl) ?_
  refine lv_iload S0.1 S0.2.1 dX5_passWeightOn_71 (lv_at hl 1 rfl) ?_
  refine lv_aload S0.1 S0.2.1 dX5_passWeightOn_73 (lv_at hl 3 rfl) ?_
  refine lv_iload S0.1 S0.2.1 dX5_passWeightOn_75 (lv_at hl 0 rfl) ?_
  refine lv_aload_n S0.1 S0.2.1 dX5_passWeightOn_77 rfl (lv_at hl 5 rfl) ?_
  refine lv_iload_n S0.1 S0.2.1 dX5_passWeightOn_78 rfl (lv_at hl 6 rfl) ?_
  refine lv_iload_n S0.1 S0.2.1 dX5_passWeightOn_79 rfl (lv_at hl 7 rfl) ?_
  refine q_pV (n := 2) (rest := [.int (iI (row (nW r) u k.toNat)), .ref (fR F), .int (iI ((eV (fE F u.toNat)) k.toNat)), .int (iI u), .ref t5]) S0 hK (c_X5_rightShare l g rk t0 t1 t2 t3 q3 t4 t5 F (nV r2) u k (hpr) (hu) (hn.2) (hk) (hE) (by rw [hvrow]; exact hv)) (subP hW.1 [0, 7, 8] rfl) (hfz _ _ _ hW) gX5_passWeightOn_X5_rightShare rfl rfl rfl (by decide +kernel) ⟨by dsimp only; omega, by dsimp only; omega⟩ (q_recv hK hW.1 (ci := 5) (q0 := 0) rfl rfl) rfl rfl hl.1 (Nat.le_of_ble_eq_true rfl) ⟨Nat.le_of_ble_eq_true rfl, Nat.le_of_ble_eq_true rfl⟩ dX5_passWeightOn_80 ?_
  refine W.eq (g2 := F0 m 83 ls [.int (iI (rsh F u.toNat (row (nV r2) u) k.toNat)), .int (iI (row (nW r) u k.toNat)), .ref (fR F), .int (iI ((eV (fE F u.toNat)) k.toNat)), .int (iI u), .ref t5]) rfl ?_
  refine q_topI (b := rsh F u.toNat (row (nV r) u) k.toNat) (by rw [hvrow]) ?_
  have hrr := rsh_rng (F := F) (u := u.toNat) (w := row (nV r) u) (k := k.toNat) hpr (by omega) (by omega)
  have hm2 := mul_rng (a := row (nW r) u k.toNat) (b := rsh F u.toNat (row (nV r) u) k.toNat) (n := 200) (k := 200) (by omega) (by omega)
  refine q_pV (n := 2) (rest := [.int (iI ((eV (fE F u.toNat)) k.toNat)), .int (iI u), .ref t5]) S0 hK (c_X6_multiply l g (fR F) (fP F) (row (nW r) u k.toNat) (rsh F u.toNat (row (nV r) u) k.toNat) (by omega) (by omega)) (subP ((hfz _ _ _ hW)).1 [1] rfl) (trivial) gX5_passWeightOn_X6_multiply rfl rfl rfl (by decide +kernel) ⟨by dsimp only; omega, by dsimp only; omega⟩ (q_recv hK ((hfz _ _ _ hW)).1 (ci := 6) (q0 := 1) rfl rfl) rfl rfl hl.1 (Nat.le_of_ble_eq_true rfl) ⟨Nat.le_of_ble_eq_true rfl, Nat.le_of_ble_eq_true rfl⟩ dX5_passWeightOn_83 ?_
  refine W.eq (g2 := F0 m 86 ls [.int (iI (((row (nW r) u k.toNat) * (rsh F u.toNat (row (nV r) u) k.toNat)) % (fP F))), .int (iI ((eV (fE F u.toNat)) k.toNat)), .int (iI u), .ref t5]) rfl ?_
  refine q_cV (n := 3) (rest := []) (wr := [(rk, .inr (5, [.ref t0, .ref t1, .ref t2, .ref t3, .ref t4, .ref t5, .ref (fS F)])), (t0, .inr (8, [.int (iI 199), .ref q0])), (q0, gI g 796 (rV r2)), (t1, .inr (8, [.int (iI 199), .ref q1])), (q1, gI g 796 (rH r2)), (t2, .inr (8, [.int (iI 199), .ref q2])), (q2, gI g 796 (rR r2)), (t3, .inr (8, [.int (iI 40), .ref q3])), (q3, gI g 160 (nV r2)), (t4, .inr (8, [.int (iI 40), .ref q4])), (q4, gI g 160 (nS r2))]) S0 hK hA hW (c_X8_set40n l g t5 q5 (s40 (nW r2) u ((eL (fE F u.toNat)) k.toNat) (((row (nW r) u k.toNat) * (lsh F u.toNat (row (nV r) u) k.toNat)) % (fP F))) u ((eV (fE F u.toNat)) k.toNat) (((row (nW r) u k.toNat) * (rsh F u.toNat (row (nV r) u) k.toNat)) % (fP F)) (by omega) (by omega)) gX5_passWeightOn_X8_set rfl rfl rfl (by decide +kernel) ⟨by dsimp only; omega, by dsimp only; omega⟩ [11, 12] [0, 1, 2, 3, 4, 5, 6, 7, 8, 9, 10] rfl rfl rfl rfl (by decide) (q_recv hK hW.1 (ci := 8) (q0 := 11) rfl rfl) (fun _ _ => trivial) (trivial) rfl rfl hl.1 (Nat.le_of_ble_eq_true rfl) ⟨Nat.le_of_ble_eq_true rfl, Nat.le_of_ble_eq_true rfl⟩ dX5_passWeightOn_86 (fun _ H locs _ hW => ?_)
  have hW : gW g A s.heap H _ [(rk, .inr (5, [.ref t0, .ref t1, .ref t2, .ref t3, .ref t4, .ref t5, .ref (fS F)])), (t0, .inr (8, [.int (iI 199), .ref q0])), (q0, gI g 796 (rV r2)), (t1, .inr (8, [.int (iI 199), .ref q1])), (q1, gI g 796 (rH r2)), (t2, .inr (8, [.int (iI 199), .ref q2])), (q2, gI g 796 (rR r2)), (t3, .inr (8, [.int (iI 40), .ref q3])), (q3, gI g 160 (nV r2)), (t4, .inr (8, [.int (iI 40), .ref q4])), (q4, gI g 160 (nS r2)), (t5, .inr (8, [.int (iI 40), .ref q5])), (q5, gI g 160 (s40 (s40 (nW r2) u ((eL (fE F u.toNat)) k.toNat) (((row (nW r) u k.toNat) * (lsh F u.toNat (row (nV r) u) k.toNat)) % (fP F))) u ((eV (fE F u.toNat)) k.toNat) (((row (nW r) u k.toNat) * (rsh F u.toNat (row (nV r) u) k.toNat)) % (fP F))))] := hW
  refine W.eq (g2 := F0 m 89 ls []) rfl ?_
  exact q_vret S0 hr hlocks (mkR (rV r2) (rH r2) (rR r2) (nV r2) (nS r2) (s40 (s40 (nW r2) u ((eL (fE F u.toNat)) k.toNat) (((row (nW r) u k.toNat) * (lsh F u.toNat (row (nV r) u) k.toNat)) % (fP F))) u ((eV (fE F u.toNat)) k.toNat) (((row (nW r) u k.toNat) * (rsh F u.toNat (row (nV r) u) k.toNat)) % (fP F)))) (⟨RI_nodes hI2 _ _ _, fun j hj => ⟨(hrw j hj).1, (hrw j hj).2.1, by show s40 (s40 (nW r2) _ _ _) _ _ _ j = _; exact s40_congr (fun i hi => s40_congr (fun i2 h2 => (hrw i2 h2).2.2) i hi) j hj⟩⟩) rfl (hW.sub [0, 1, 2, 3, 4, 5, 6, 7, 8, 9, 10, 11, 12] rfl (rfl)) (Nat.le_of_ble_eq_true rfl) (Nat.le_of_ble_eq_true rfl) dX5_passWeightOn_89
set_option maxHeartbeats 4000000 in
set_option maxRecDepth 100000 in
theorem c_X5_sumOfWeights (l : Launch) (g : GG) (F : FT) (d : Nat) (rk t0 q0 t1 q1 t2 q2 t3 q3 t4 q4 t5 q5 : Nat) (r : RT) (u x : Int) (IH : RSLP l g F d) (hud : u ≤ d) (hG : GF F) (hI : RI F r) (hu : 0 ≤ u ∧ u < 4) (hx : 0 ≤ x ∧ x < fP F) (hVI : VI F u x (eN (fE F u.toNat)) r) : qMet l yX5_sumOfWeights wsX5_sumOfWeights ({ frames := 4 * d + 23, cells := 0, slots := 0, locals := 120 * d + 690 }) g [.ref rk, .int (iI u)] [(rk, .inr (5, [.ref t0, .ref t1, .ref t2, .ref t3, .ref t4, .ref t5, .ref (fS F)])), (t0, .inr (8, [.int (iI 199), .ref q0])), (q0, gI g 796 (rV r)), (t1, .inr (8, [.int (iI 199), .ref q1])), (q1, gI g 796 (rH r)), (t2, .inr (8, [.int (iI 199), .ref q2])), (q2, gI g 796 (rR r)), (t3, .inr (8, [.int (iI 40), .ref q3])), (q3, gI g 160 (nV r)), (t4, .inr (8, [.int (iI 40), .ref q4])), (q4, gI g 160 (nS r)), (t5, .inr (8, [.int (iI 40), .ref q5])), (q5, gI g 160 (nW r))] (fun q => ¬ fzA F q) (FX g F) (S := RT) (fun u_ => some (.int (iI (hh (fP F) (fE F) u.toNat x)))) (fun u_ => [(rk, .inr (5, [.ref t0, .ref t1, .ref t2, .ref t3, .ref t4, .ref t5, .ref (fS F)])), (t0, .inr (8, [.int (iI 199), .ref q0])), (q0, gI g 796 (rV u_)), (t1, .inr (8, [.int (iI 199), .ref q1])), (q1, gI g 796 (rH u_)), (t2, .inr (8, [.int (iI 199), .ref q2])), (q2, gI g 796 (rR u_)), (t3, .inr (8, [.int (iI 40), .ref q3])), (q3, gI g 160 (nV u_)), (t4, .inr (8, [.int (iI 40), .ref q4])), (q4, gI g 160 (nS u_)), (t5, .inr (8, [.int (iI 40), .ref q5])), (q5, gI g 160 (nW u_))]) (fun u_ => RI F u_ ∧ KP u r u_) 0 0 := by
  refine q_ofW (cc := cX5_sumOfWeights) (maxL := 6) (ret := (some .int)) (fun sz h => h.self) (by decide) rfl (Nat.le_of_ble_eq_true rfl) ?_
  intro p e s m args below meth c A ls S0 hr hlocks hnme hK hA hAe hW hD0 hX hl
  have hW : gW g A s.heap s.heap [] [(rk, .inr (5, [.ref t0, .ref t1, .ref t2, .ref t3, .ref t4, .ref t5, .ref (fS F)])), (t0, .inr (8, [.int (iI 199), .ref q0])), (q0, gI g 796 (rV r)), (t1, .inr (8, [.int (iI 199), .ref q1])), (q1, gI g 796 (rH r)), (t2, .inr (8, [.int (iI 199), .ref q2])), (q2, gI g 796 (rR r)), (t3, .inr (8, [.int (iI 40), .ref q3])), (q3, gI g 160 (nV r)), (t4, .inr (8, [.int (iI 40), .ref q4])), (q4, gI g 160 (nS r)), (t5, .inr (8, [.int (iI 40), .ref q5])), (q5, gI g 160 (nW r))] := hW
  have hl : lv_has ls 6 [(0, .ref rk), (1, .int (iI u))] := hl
  have hinX5 : ∀ w ∈ wsX50, w ∈ wsX5_sumOfWeights := fun w h => List.mem_cons_of_mem _ (List.mem_append_left _ (List.mem_append_left _ (List.mem_append_left _ (List.mem_append_left _ (List.mem_append_right _ h)))))
  have hpr := GF_p hG
  have hO := fz_out hX hD0 hAe
  have hfz : ∀ (H : Heap) (locs : List Loc) (ws : va_W), gW g A s.heap H locs ws → FX g F H := fun H locs ws h => fz_stay hX hO h
  have hn := (hG.2 u.toNat (by omega)).1
  refine lv_aload_n S0.1 S0.2.1 dX5_sumOfWeights_0 rfl (lv_at hl 0 rfl) ?_
  refine q_get (C := RX5) (T := TX5) (N := 7) S0 hK hW.1 hinX5 0 rfl rfl 6 (by decide) (List.mem_of_getElem? (i := 1) rfl) rfl rfl dX5_sumOfWeights_1 ?_
  refine lv_iload_n S0.1 S0.2.1 dX5_sumOfWeights_4 rfl (lv_at hl 1 rfl) ?_
  refine q_pV (n := 1) (rest := []) S0 hK (c_X7_exprOf l g (fS F) (fR F) (fX F) u (by omega)) (subP ((hfz _ _ _ hW)).1 [0] rfl) (trivial) gX5_sumOfWeights_X7_expressionOf rfl rfl rfl (by decide +kernel) ⟨by dsimp only; omega, by dsimp only; omega⟩ (q_recv hK ((hfz _ _ _ hW)).1 (ci := 7) (q0 := 0) rfl rfl) rfl rfl hl.1 (Nat.le_of_ble_eq_true rfl) ⟨Nat.le_of_ble_eq_true rfl, Nat.le_of_ble_eq_true rfl⟩ dX5_sumOfWeights_5 ?_
  refine W.eq (g2 := F0 m 8 ls [.ref (fX F u.toNat)]) rfl ?_
  refine lv_astore_n (lv' := [(2, .ref (fX F u.toNat)), (0, .ref rk), (1, .int (iI u))]) S0.1 S0.2.1 dX5_sumOfWeights_8 rfl hl (by decide) rfl (fun ls hl => ?_)
  refine lv_aload_n S0.1 S0.2.1 dX5_sumOfWeights_9 rfl (lv_at hl 0 rfl) ?_
  refine q_pV (n := 0) (rest := []) S0 hK (c_X1_size l g (fX F u.toNat) (fK F u.toNat 1) (fK F u.toNat 2) (fK F u.toNat 3) (fK F u.toNat 4) (fD F u.toNat) (fU F u.toNat) (fL F u.toNat) (eN (fE F u.toNat)) (eK (fE F u.toNat)) (by omega)) (subP (((hfz _ _ _ hW)).2 u.toNat (by omega)) [0, 1] rfl) (trivial) gX5_sumOfWeights_X1_size rfl rfl rfl (by decide +kernel) ⟨by dsimp only; omega, by dsimp only; omega⟩ (q_recv hK (((hfz _ _ _ hW)).2 u.toNat (by omega)) (ci := 1) (q0 := 0) rfl rfl) rfl rfl hl.1 (Nat.le_of_ble_eq_true rfl) ⟨Nat.le_of_ble_eq_true rfl, Nat.le_of_ble_eq_true rfl⟩ dX5_sumOfWeights_10 ?_
  refine W.eq (g2 := F0 m 13 ls [.int (iI (((eN (fE F u.toNat)) : Int)))]) rfl ?_
  refine q_iconst S0 dX5_sumOfWeights_13 ?_
  refine q_isub S0 dX5_sumOfWeights_14 ?_
  refine lv_istore_n (lv' := [(3, .int (iI ((((eN (fE F u.toNat)) : Int)) - 1))), (2, .ref (fX F u.toNat)), (0, .ref rk), (1, .int (iI u))]) S0.1 S0.2.1 dX5_sumOfWeights_15 rfl hl (by decide) rfl (fun ls hl => ?_)
  refine q_iconst S0 dX5_sumOfWeights_16 ?_
  refine lv_istore (lv' := [(4, .int (iI 0)), (3, .int (iI ((((eN (fE F u.toNat)) : Int)) - 1))), (2, .ref (fX F u.toNat)), (0, .ref rk), (1, .int (iI u))]) S0.1 S0.2.1 dX5_sumOfWeights_17 hl (by decide) rfl (fun ls hl => ?_)
  refine lv_aload_n S0.1 S0.2.1 dX5_sumOfWeights_19 rfl (lv_at hl 3 rfl) ?_
  refine q_get (C := RX5) (T := TX5) (N := 7) S0 hK hW.1 hinX5 0 rfl rfl 5 (by decide) (List.mem_of_getElem? (i := 2) rfl) rfl rfl dX5_sumOfWeights_20 ?_
  refine lv_iload_n S0.1 S0.2.1 dX5_sumOfWeights_23 rfl (lv_at hl 4 rfl) ?_
  refine lv_iload_n S0.1 S0.2.1 dX5_sumOfWeights_24 rfl (lv_at hl 1 rfl) ?_
  refine q_iconst S0 dX5_sumOfWeights_25 ?_
  refine q_cV (n := 3) (rest := []) (wr := [(rk, .inr (5, [.ref t0, .ref t1, .ref t2, .ref t3, .ref t4, .ref t5, .ref (fS F)])), (t0, .inr (8, [.int (iI 199), .ref q0])), (q0, gI g 796 (rV r)), (t1, .inr (8, [.int (iI 199), .ref q1])), (q1, gI g 796 (rH r)), (t2, .inr (8, [.int (iI 199), .ref q2])), (q2, gI g 796 (rR r)), (t3, .inr (8, [.int (iI 40), .ref q3])), (q3, gI g 160 (nV r)), (t4, .inr (8, [.int (iI 40), .ref q4])), (q4, gI g 160 (nS r))]) S0 hK hA hW (c_X8_set40 l g t5 q5 (nW r) u ((((eN (fE F u.toNat)) : Int)) - 1) 1 (by omega) (by omega)) gX5_sumOfWeights_X8_set rfl rfl rfl (by decide +kernel) ⟨by dsimp only; omega, by dsimp only; omega⟩ [11, 12] [0, 1, 2, 3, 4, 5, 6, 7, 8, 9, 10] rfl rfl rfl rfl (by decide) (q_recv hK hW.1 (ci := 8) (q0 := 11) rfl rfl) (fun _ _ => trivial) (trivial) rfl rfl hl.1 (Nat.le_of_ble_eq_true rfl) ⟨Nat.le_of_ble_eq_true rfl, Nat.le_of_ble_eq_true rfl⟩ dX5_sumOfWeights_26 (fun _ H locs _ hW => ?_)
  have hW : gW g A s.heap H _ [(rk, .inr (5, [.ref t0, .ref t1, .ref t2, .ref t3, .ref t4, .ref t5, .ref (fS F)])), (t0, .inr (8, [.int (iI 199), .ref q0])), (q0, gI g 796 (rV r)), (t1, .inr (8, [.int (iI 199), .ref q1])), (q1, gI g 796 (rH r)), (t2, .inr (8, [.int (iI 199), .ref q2])), (q2, gI g 796 (rR r)), (t3, .inr (8, [.int (iI 40), .ref q3])), (q3, gI g 160 (nV r)), (t4, .inr (8, [.int (iI 40), .ref q4])), (q4, gI g 160 (nS r)), (t5, .inr (8, [.int (iI 40), .ref q5])), (q5, gI g 160 (up (nW r) (u * 40 + ((((eN (fE F u.toNat)) : Int)) - 1)).toNat 1))] := hW
  refine W.eq (g2 := F0 m 29 ls []) rfl ?_
  refine lv_iload_n S0.1 S0.2.1 dX5_sumOfWeights_29 rfl (lv_at hl 1 rfl) ?_
  refine lv_istore (lv' := [(5, .int (iI ((((eN (fE F u.toNat)) : Int)) - 1))), (4, .int (iI 0)), (3, .int (iI ((((eN (fE F u.toNat)) : Int)) - 1))), (2, .ref (fX F u.toNat)), (0, .ref rk), (1, .int (iI u))]) S0.1 S0.2.1 dX5_sumOfWeights_30 hl (by decide) rfl (fun ls hl => ?_)
  refine q_loop (α := Int × Int × RT) (fun (z_ : Int × Int × RT) => match z_ with | (i, sm_, r1) => RI F r1 ∧ KP u r r1 ∧ VI F u x (eN (fE F u.toNat)) r1 ∧ WI F u x i sm_ r1 ∧ (-1 ≤ i ∧ i < eN (fE F u.toNat))) (fun (z_ : Int × Int × RT) => match z_ with | (i, sm_, r1) => (i + 1).toNat) (fun (z_ : Int × Int × RT) => match z_ with | (i, sm_, r1) => [(rk, .inr (5, [.ref t0, .ref t1, .ref t2, .ref t3, .ref t4, .ref t5, .ref (fS F)])), (t0, .inr (8, [.int (iI 199), .ref q0])), (q0, gI g 796 (rV r1)), (t1, .inr (8, [.int (iI 199), .ref q1])), (q1, gI g 796 (rH r1)), (t2, .inr (8, [.int (iI 199), .ref q2])), (q2, gI g 796 (rR r1)), (t3, .inr (8, [.int (iI 40), .ref q3])), (q3, gI g 160 (nV r1)), (t4, .inr (8, [.int (iI 40), .ref q4])), (q4, gI g 160 (nS r1)), (t5, .inr (8, [.int (iI 40), .ref q5])), (q5, gI g 160 (nW r1))]) (fun (z_ : Int × Int × RT) => match z_ with | (i, sm_, r1) => [(5, .int (iI i)), (4, .int (iI sm_)), (3, .int (iI ((((eN (fE F u.toNat)) : Int)) - 1))), (2, .ref (fX F u.toNat)), (0, .ref rk), (1, .int (iI u))]) ?_ (((eN (fE F u.toNat) : Nat) : Int) - 1, 0, mkR (rV r) (rH r) (rR r) (nV r) (nS r) (up (nW r) (u * 40 + (((eN (fE F u.toNat) : Nat) : Int) - 1)).toNat 1)) (by exact ⟨hI, KP_set (by omega) (by omega) r KP_rfl ⟨0, Or.inr rfl⟩ ⟨0, Or.inr rfl⟩ ⟨1, Or.inl rfl⟩, hVI, WI_init hG hu rfl (by show row (up (nW r) (u * 40 + (((eN (fE F u.toNat) : Nat) : Int) - 1)).toNat 1) u _ = 1; rw [row_up (by omega) (by omega), if_pos (by omega)]), by omega⟩) hW (lv_sub hl [0, 1, 2, 3, 4, 5] rfl)
  rintro ⟨i, sm_, r1⟩ hinv IHl H locs ls hW hl
  try dsimp only at hinv
  have hW : gW g A s.heap H _ [(rk, .inr (5, [.ref t0, .ref t1, .ref t2, .ref t3, .ref t4, .ref t5, .ref (fS F)])), (t0, .inr (8, [.int (iI 199), .ref q0])), (q0, gI g 796 (rV r1)), (t1, .inr (8, [.int (iI 199), .ref q1])), (q1, gI g 796 (rH r1)), (t2, .inr (8, [.int (iI 199), .ref q2])), (q2, gI g 796 (rR r1)), (t3, .inr (8, [.int (iI 40), .ref q3])), (q3, gI g 160 (nV r1)), (t4, .inr (8, [.int (iI 40), .ref q4])), (q4, gI g 160 (nS r1)), (t5, .inr (8, [.int (iI 40), .ref q5])), (q5, gI g 160 (nW r1))] := hW
  have hl : lv_has ls 6 [(5, .int (iI i)), (4, .int (iI sm_)), (3, .int (iI ((((eN (fE F u.toNat)) : Int)) - 1))), (2, .ref (fX F u.toNat)), (0, .ref rk), (1, .int (iI u))] := hl
  obtain ⟨hI1, hKP, hVI1, hWI, hi⟩ := hinv
  have hs01 := hWI.1
  refine lv_iload S0.1 S0.2.1 dX5_sumOfWeights_32 (lv_at hl 0 rfl) ?_
  refine q_if_lt (tgt := 88) S0 (by omega) dX5_sumOfWeights_34 (by decide) (fun c34 => ?_) (fun c34 => ?_)
  · skip
    refine lv_iload S0.1 S0.2.1 dX5_sumOfWeights_88 (lv_at hl 1 rfl) ?_
    have hend : sm_ = hh (fP F) (fE F) u.toNat x := WI_end hG hu hVI1 (by rw [show i = -1 by omega] at hWI; exact hWI)
    exact q_iret S0 hr hlocks r1 (⟨hI1, hKP⟩) (by rw [hend]) (hW.sub [0, 1, 2, 3, 4, 5, 6, 7, 8, 9, 10, 11, 12] rfl (rfl)) (Nat.le_of_ble_eq_true rfl) (Nat.le_of_ble_eq_true rfl) dX5_sumOfWeights_90
  · skip
    refine lv_aload_n S0.1 S0.2.1 dX5_sumOfWeights_37 rfl (lv_at hl 3 rfl) ?_
    refine lv_iload S0.1 S0.2.1 dX5_sumOfWeights_38 (lv_at hl 0 rfl) ?_
    refine q_pV (n := 1) (rest := []) S0 hK (c_X1_kindI l g (fX F u.toNat) (fK F u.toNat 1) (fK F u.toNat 2) (fK F u.toNat 3) (fK F u.toNat 4) (fD F u.toNat) (fU F u.toNat) (fL F u.toNat) (eN (fE F u.toNat)) (eK (fE F u.toNat)) i (by omega) (by omega)) (subP (((hfz _ _ _ hW)).2 u.toNat (by omega)) [0, 1] rfl) (trivial) gX5_sumOfWeights_X1_kind rfl rfl rfl (by decide +kernel) ⟨by dsimp only; omega, by dsimp only; omega⟩ (q_recv hK (((hfz _ _ _ hW)).2 u.toNat (by omega)) (ci := 1) (q0 := 0) rfl rfl) rfl rfl hl.1 (Nat.le_of_ble_eq_true rfl) ⟨Nat.le_of_ble_eq_true rfl, Nat.le_of_ble_eq_true rfl⟩ dX5_sumOfWeights_40 ?_
    refine W.eq (g2 := F0 m 43 ls [.int (iI ((eK (fE F u.toNat)) i.toNat))]) rfl ?_
    have hKd := WFK_K ((hG.2 u.toNat (by omega)).2.1 i.toNat (by omega))
    have hwi := hWI.2.1 i.toNat (by omega) (asg_self hG hu (by omega))
    refine q_bipush S0 (by decide) dX5_sumOfWeights_43 ?_
    refine q_icmp_ne (tgt := 75) S0 (by omega) dX5_sumOfWeights_45 (by decide) (fun c45 => ?_) (fun c45 => ?_)
    · skip
      refine lv_aload_n S0.1 S0.2.1 dX5_sumOfWeights_75 rfl (lv_at hl 4 rfl) ?_
      refine lv_iload_n S0.1 S0.2.1 dX5_sumOfWeights_76 rfl (lv_at hl 5 rfl) ?_
      refine lv_iload S0.1 S0.2.1 dX5_sumOfWeights_77 (lv_at hl 0 rfl) ?_
      have hlr := lsh_rng hG hu (i := i) (by omega) hx hVI1
      refine q_cV (n := 2) (rest := []) (wr := []) S0 hK hA hW (c_X5_passWeightOn l g F d rk t0 q0 t1 q1 t2 q2 t3 q3 t4 q4 t5 q5 r1 u i (IH) (hud) (hG) (hI1) (hu) (by omega) (VI_lt hG hu hx hVI1 (by omega)) (hwi) (hlr)) gX5_sumOfWeights_X5_passWeightOn rfl rfl rfl (by decide +kernel) ⟨by dsimp only; omega, by dsimp only; omega⟩ [0, 1, 2, 3, 4, 5, 6, 7, 8, 9, 10, 11, 12] [] rfl rfl rfl rfl (by decide) (q_recv hK hW.1 (ci := 5) (q0 := 0) rfl rfl) (hO) (hfz _ _ _ hW) rfl rfl hl.1 (Nat.le_of_ble_eq_true rfl) ⟨Nat.le_of_ble_eq_true rfl, Nat.le_of_ble_eq_true rfl⟩ dX5_sumOfWeights_79 ?_
      rintro r2 H locs hp hW
      try dsimp only at hp
      have hW : gW g A s.heap H _ [(rk, .inr (5, [.ref t0, .ref t1, .ref t2, .ref t3, .ref t4, .ref t5, .ref (fS F)])), (t0, .inr (8, [.int (iI 199), .ref q0])), (q0, gI g 796 (rV r2)), (t1, .inr (8, [.int (iI 199), .ref q1])), (q1, gI g 796 (rH r2)), (t2, .inr (8, [.int (iI 199), .ref q2])), (q2, gI g 796 (rR r2)), (t3, .inr (8, [.int (iI 40), .ref q3])), (q3, gI g 160 (nV r2)), (t4, .inr (8, [.int (iI 40), .ref q4])), (q4, gI g 160 (nS r2)), (t5, .inr (8, [.int (iI 40), .ref q5])), (q5, gI g 160 (nW r2))] := hW
      refine W.eq (g2 := F0 m 82 ls []) rfl ?_
      have hKP2 : KP u r r2 := fun j hj => ⟨(hp.2 j (by omega)).1.trans (hKP j hj).1, (hp.2 j (by omega)).2.1.trans (hKP j hj).2.1, by rw [(hp.2 j (by omega)).2.2, s40_out hu.1 hj, s40_out hu.1 hj]; exact (hKP j hj).2.2⟩
      have hVI2 : VI F u x (eN (fE F u.toNat)) r2 := ⟨hVI1.1, fun j hj => ((hp.2 (u * 40 + j).toNat (by omega)).1).trans (hVI1.2 j hj)⟩
      have hnx : RI F r2 ∧ KP u r r2 ∧ VI F u x (eN (fE F u.toNat)) r2 ∧ WI F u x (i + (-1)) sm_ r2 ∧ (-1 ≤ i + (-1) ∧ i + (-1) < eN (fE F u.toNat)) := ⟨hp.1, hKP2, hVI2, WI_dn hG hu (by omega) hVI1 hWI c45 (fun j hj => by show nW r2 (u * 40 + j).toNat = _; rw [(hp.2 (u * 40 + j).toNat (by omega)).2.2]; exact s40_two (by omega) (by have := (hG.2 u.toNat (by omega)).1; omega)), by omega⟩
      refine q_iinc (lv' := [(5, .int (iI (i + (-1)))), (4, .int (iI sm_)), (3, .int (iI ((((eN (fE F u.toNat)) : Int)) - 1))), (2, .ref (fX F u.toNat)), (0, .ref rk), (1, .int (iI u))]) S0 dX5_sumOfWeights_82 hl (k := 0) rfl (by decide) rfl (fun ls hl => ?_)
      refine lv_goto (tgt := 32) S0.1 S0.2.1 dX5_sumOfWeights_85 (by decide) ?_
      exact IHl (i + (-1), sm_, r2) H locs ls (by exact hnx) (by dsimp only; omega) hW (lv_sub hl [0, 1, 2, 3, 4, 5] rfl)
    · skip
      refine lv_aload_n S0.1 S0.2.1 dX5_sumOfWeights_48 rfl (lv_at hl 4 rfl) ?_
      refine q_get (C := RX5) (T := TX5) (N := 7) S0 hK hW.1 hinX5 0 rfl rfl 6 (by decide) (List.mem_of_getElem? (i := 1) rfl) rfl rfl dX5_sumOfWeights_49 ?_
      refine q_pV (n := 0) (rest := []) S0 hK (c_X7_numbers l g (fS F) (fR F) (fX F 0) (fX F 1) (fX F 2) (fX F 3)) (subP ((hfz _ _ _ hW)).1 [0] rfl) (trivial) gX5_sumOfWeights_X7_numbers rfl rfl rfl (by decide +kernel) ⟨by dsimp only; omega, by dsimp only; omega⟩ (q_recv hK ((hfz _ _ _ hW)).1 (ci := 7) (q0 := 0) rfl rfl) rfl rfl hl.1 (Nat.le_of_ble_eq_true rfl) ⟨Nat.le_of_ble_eq_true rfl, Nat.le_of_ble_eq_true rfl⟩ dX5_sumOfWeights_52 ?_
      refine W.eq (g2 := F0 m 55 ls [.ref (fR F)]) rfl ?_
      refine lv_iload S0.1 S0.2.1 dX5_sumOfWeights_55 (lv_at hl 1 rfl) ?_
      refine lv_aload_n S0.1 S0.2.1 dX5_sumOfWeights_57 rfl (lv_at hl 4 rfl) ?_
      refine q_get (C := RX5) (T := TX5) (N := 7) S0 hK hW.1 hinX5 0 rfl rfl 5 (by decide) (List.mem_of_getElem? (i := 2) rfl) rfl rfl dX5_sumOfWeights_58 ?_
      refine lv_iload_n S0.1 S0.2.1 dX5_sumOfWeights_61 rfl (lv_at hl 5 rfl) ?_
      refine lv_iload S0.1 S0.2.1 dX5_sumOfWeights_62 (lv_at hl 0 rfl) ?_
      refine q_pV (n := 2) (rest := [.int (iI sm_), .ref (fR F)]) S0 hK (c_X8_get40 l g t5 q5 (nW r1) u i (by omega) (by omega)) (subP hW.1 [11, 12] rfl) (trivial) gX5_sumOfWeights_X8_get rfl rfl rfl (by decide +kernel) ⟨by dsimp only; omega, by dsimp only; omega⟩ (q_recv hK hW.1 (ci := 8) (q0 := 11) rfl rfl) rfl rfl hl.1 (Nat.le_of_ble_eq_true rfl) ⟨Nat.le_of_ble_eq_true rfl, Nat.le_of_ble_eq_true rfl⟩ dX5_sumOfWeights_64 ?_
      refine W.eq (g2 := F0 m 67 ls [.int (iI (gv (row (nW r1) u) i)), .int (iI sm_), .ref (fR F)]) rfl ?_
      refine q_topI (b := row (nW r1) u i.toNat) (by rw [gv_of (by omega)]) ?_
      refine q_pV (n := 2) (rest := []) S0 hK (c_X6_add l g (fR F) (fP F) sm_ (row (nW r1) u i.toNat) (by omega) (by omega)) (subP ((hfz _ _ _ hW)).1 [1] rfl) (trivial) gX5_sumOfWeights_X6_add rfl rfl rfl (by decide +kernel) ⟨by dsimp only; omega, by dsimp only; omega⟩ (q_recv hK ((hfz _ _ _ hW)).1 (ci := 6) (q0 := 1) rfl rfl) rfl rfl hl.1 (Nat.le_of_ble_eq_true rfl) ⟨Nat.le_of_ble_eq_true rfl, Nat.le_of_ble_eq_true rfl⟩ dX5_sumOfWeights_67 ?_
      refine W.eq (g2 := F0 m 70 ls [.int (iI ((sm_ + (row (nW r1) u i.toNat)) % (fP F)))]) rfl ?_
      refine lv_istore (lv' := [(4, .int (iI ((sm_ + (row (nW r1) u i.toNat)) % (fP F)))), (5, .int (iI i)), (3, .int (iI ((((eN (fE F u.toNat)) : Int)) - 1))), (2, .ref (fX F u.toNat)), (0, .ref rk), (1, .int (iI u))]) S0.1 S0.2.1 dX5_sumOfWeights_70 hl (by decide) rfl (fun ls hl => ?_)
      have hnx : RI F r1 ∧ KP u r r1 ∧ VI F u x (eN (fE F u.toNat)) r1 ∧ WI F u x (i + (-1)) ((sm_ + row (nW r1) u i.toNat) % fP F) r1 ∧ (-1 ≤ i + (-1) ∧ i + (-1) < eN (fE F u.toNat)) := ⟨hI1, hKP, hVI1, WI_x hG hu (by omega) hVI1 hWI c45, by omega⟩
      refine lv_goto (tgt := 82) S0.1 S0.2.1 dX5_sumOfWeights_72 (by decide) ?_
      refine q_iinc (lv' := [(5, .int (iI (i + (-1)))), (4, .int (iI ((sm_ + (row (nW r1) u i.toNat)) % (fP F)))), (3, .int (iI ((((eN (fE F u.toNat)) : Int)) - 1))), (2, .ref (fX F u.toNat)), (0, .ref rk), (1, .int (iI u))]) S0 dX5_sumOfWeights_82 hl (k := 1) rfl (by decide) rfl (fun ls hl => ?_)
      refine lv_goto (tgt := 32) S0.1 S0.2.1 dX5_sumOfWeights_85 (by decide) ?_
      exact IHl (i + (-1), (sm_ + (row (nW r1) u i.toNat)) % (fP F), r1) H locs ls (by exact hnx) (by dsimp only; omega) hW (lv_sub hl [0, 1, 2, 3, 4, 5] rfl)
set_option maxHeartbeats 4000000 in
set_option maxRecDepth 100000 in
theorem c_X5_ruleSlope (l : Launch) (g : GG) (F : FT) (d : Nat) (rk t0 q0 t1 q1 t2 q2 t3 q3 t4 q4 t5 q5 : Nat) (r : RT) (u x : Int) (IH : RSLP l g F d) (hud : u ≤ d) (hd4 : d ≤ 4) (hG : GF F) (hI : RI F r) (hu : 0 ≤ u ∧ u < 4) (hx : 0 ≤ x ∧ x < fP F) : qMet l yX5_ruleSlope wsX5_ruleSlope ({ frames := 4 * d + 24, cells := 0, slots := 0, locals := 120 * d + 720 }) g [.ref rk, .int (iI u), .int (iI x)] [(rk, .inr (5, [.ref t0, .ref t1, .ref t2, .ref t3, .ref t4, .ref t5, .ref (fS F)])), (t0, .inr (8, [.int (iI 199), .ref q0])), (q0, gI g 796 (rV r)), (t1, .inr (8, [.int (iI 199), .ref q1])), (q1, gI g 796 (rH r)), (t2, .inr (8, [.int (iI 199), .ref q2])), (q2, gI g 796 (rR r)), (t3, .inr (8, [.int (iI 40), .ref q3])), (q3, gI g 160 (nV r)), (t4, .inr (8, [.int (iI 40), .ref q4])), (q4, gI g 160 (nS r)), (t5, .inr (8, [.int (iI 40), .ref q5])), (q5, gI g 160 (nW r))] (fun q => ¬ fzA F q) (FX g F) (S := RT) (fun u_ => some (.int (iI (hh (fP F) (fE F) u.toNat x)))) (fun u_ => [(rk, .inr (5, [.ref t0, .ref t1, .ref t2, .ref t3, .ref t4, .ref t5, .ref (fS F)])), (t0, .inr (8, [.int (iI 199), .ref q0])), (q0, gI g 796 (rV u_)), (t1, .inr (8, [.int (iI 199), .ref q1])), (q1, gI g 796 (rH u_)), (t2, .inr (8, [.int (iI 199), .ref q2])), (q2, gI g 796 (rR u_)), (t3, .inr (8, [.int (iI 40), .ref q3])), (q3, gI g 160 (nV u_)), (t4, .inr (8, [.int (iI 40), .ref q4])), (q4, gI g 160 (nS u_)), (t5, .inr (8, [.int (iI 40), .ref q5])), (q5, gI g 160 (nW u_))]) (fun u_ => RI F u_ ∧ KP u r u_) 0 0 := by
  refine q_ofW (cc := cX5_ruleSlope) (maxL := 5) (ret := (some .int)) (fun sz h => h.self) (by decide) rfl (Nat.le_of_ble_eq_true rfl) ?_
  intro p e s m args below meth c A ls S0 hr hlocks hnme hK hA hAe hW hD0 hX hl
  have hW : gW g A s.heap s.heap [] [(rk, .inr (5, [.ref t0, .ref t1, .ref t2, .ref t3, .ref t4, .ref t5, .ref (fS F)])), (t0, .inr (8, [.int (iI 199), .ref q0])), (q0, gI g 796 (rV r)), (t1, .inr (8, [.int (iI 199), .ref q1])), (q1, gI g 796 (rH r)), (t2, .inr (8, [.int (iI 199), .ref q2])), (q2, gI g 796 (rR r)), (t3, .inr (8, [.int (iI 40), .ref q3])), (q3, gI g 160 (nV r)), (t4, .inr (8, [.int (iI 40), .ref q4])), (q4, gI g 160 (nS r)), (t5, .inr (8, [.int (iI 40), .ref q5])), (q5, gI g 160 (nW r))] := hW
  have hl : lv_has ls 5 [(0, .ref rk), (1, .int (iI u)), (2, .int (iI x))] := hl
  have hinX5 : ∀ w ∈ wsX50, w ∈ wsX5_ruleSlope := fun w h => List.mem_cons_of_mem _ (List.mem_append_left _ (List.mem_append_left _ (List.mem_append_left _ (List.mem_append_left _ (List.mem_append_right _ h)))))
  have hpr := GF_p hG
  have hO := fz_out hX hD0 hAe
  have hfz : ∀ (H : Heap) (locs : List Loc) (ws : va_W), gW g A s.heap H locs ws → FX g F H := fun H locs ws h => fz_stay hX hO h
  have hR := hI u x hu.1 hu.2 hx.1 hx.2
  have hhr := GF_hh hG (f := u.toNat) (x := x) (by omega)
  refine lv_aload_n S0.1 S0.2.1 dX5_ruleSlope_0 rfl (lv_at hl 0 rfl) ?_
  refine q_get (C := RX5) (T := TX5) (N := 7) S0 hK hW.1 hinX5 0 rfl rfl 2 (by decide) (List.mem_of_getElem? (i := 1) rfl) rfl rfl dX5_ruleSlope_1 ?_
  refine lv_iload_n S0.1 S0.2.1 dX5_ruleSlope_4 rfl (lv_at hl 1 rfl) ?_
  refine lv_iload_n S0.1 S0.2.1 dX5_ruleSlope_5 rfl (lv_at hl 2 rfl) ?_
  refine q_pV (n := 2) (rest := []) S0 hK (c_X8_get199 l g t2 q2 (rR r) u x (by omega) (by omega)) (subP hW.1 [5, 6] rfl) (trivial) gX5_ruleSlope_X8_get rfl rfl rfl (by decide +kernel) ⟨by dsimp only; omega, by dsimp only; omega⟩ (q_recv hK hW.1 (ci := 8) (q0 := 5) rfl rfl) rfl rfl hl.1 (Nat.le_of_ble_eq_true rfl) ⟨Nat.le_of_ble_eq_true rfl, Nat.le_of_ble_eq_true rfl⟩ dX5_ruleSlope_6 ?_
  refine W.eq (g2 := F0 m 9 ls [.int (iI ((rR r) (u * 199 + x).toNat))]) rfl ?_
  refine q_nm (fun kn hkn => ?_)
  refine lv_istore_n (lv' := [(3, .int (iI kn)), (0, .ref rk), (1, .int (iI u)), (2, .int (iI x))]) S0.1 S0.2.1 dX5_ruleSlope_9 rfl hl (by decide) rfl (fun ls hl => ?_)
  refine lv_iload_n S0.1 S0.2.1 dX5_ruleSlope_10 rfl (lv_at hl 0 rfl) ?_
  refine q_bipush S0 (by decide) dX5_ruleSlope_11 ?_
  refine q_icmp_eq (tgt := 18) S0 (by rcases hR.2.2 with q | q <;> (first | omega | (rw [q] at hkn; omega))) dX5_ruleSlope_13 (by decide) (fun c13 => ?_) (fun c13 => ?_)
  · skip
    refine lv_aload_n S0.1 S0.2.1 dX5_ruleSlope_18 rfl (lv_at hl 1 rfl) ?_
    refine lv_iload_n S0.1 S0.2.1 dX5_ruleSlope_19 rfl (lv_at hl 2 rfl) ?_
    refine lv_iload_n S0.1 S0.2.1 dX5_ruleSlope_20 rfl (lv_at hl 3 rfl) ?_
    refine q_cV (n := 2) (rest := []) (wr := []) S0 hK hA hW (c_X5_reckonValues l g F d rk t0 q0 t1 q1 t2 q2 t3 q3 t4 q4 t5 q5 r u x (VAL_all l g F hG d) (hud) (hG) (hI) (hu) (hx)) gX5_ruleSlope_X5_reckonValues rfl rfl rfl (by decide +kernel) ⟨by dsimp only; omega, by dsimp only; omega⟩ [0, 1, 2, 3, 4, 5, 6, 7, 8, 9, 10, 11, 12] [] rfl rfl rfl rfl (by decide) (q_recv hK hW.1 (ci := 5) (q0 := 0) rfl rfl) (hO) (hfz _ _ _ hW) rfl rfl hl.1 (Nat.le_of_ble_eq_true rfl) ⟨Nat.le_of_ble_eq_true rfl, Nat.le_of_ble_eq_true rfl⟩ dX5_ruleSlope_21 ?_
    rintro r1 H locs hp hW
    try dsimp only at hp
    have hW : gW g A s.heap H _ [(rk, .inr (5, [.ref t0, .ref t1, .ref t2, .ref t3, .ref t4, .ref t5, .ref (fS F)])), (t0, .inr (8, [.int (iI 199), .ref q0])), (q0, gI g 796 (rV r1)), (t1, .inr (8, [.int (iI 199), .ref q1])), (q1, gI g 796 (rH r1)), (t2, .inr (8, [.int (iI 199), .ref q2])), (q2, gI g 796 (rR r1)), (t3, .inr (8, [.int (iI 40), .ref q3])), (q3, gI g 160 (nV r1)), (t4, .inr (8, [.int (iI 40), .ref q4])), (q4, gI g 160 (nS r1)), (t5, .inr (8, [.int (iI 40), .ref q5])), (q5, gI g 160 (nW r1))] := hW
    refine W.eq (g2 := F0 m 24 ls [.int (iI (vv (fP F) (fE F) u.toNat x))]) rfl ?_
    have hI1 := hp.1
    have hKP1 := hp.2.1
    have hVI := hp.2.2
    have hvr := GF_vv hG hu hx
    have hbi := hh_bad_iff hG (f := u.toNat) (by omega) hx
    refine q_iconst S0 dX5_ruleSlope_24 ?_
    refine q_icmp_ne (tgt := 32) S0 (by omega) dX5_ruleSlope_25 (by decide) (fun c25 => ?_) (fun c25 => ?_)
    · skip
      refine lv_aload_n S0.1 S0.2.1 dX5_ruleSlope_32 rfl (lv_at hl 1 rfl) ?_
      refine lv_iload_n S0.1 S0.2.1 dX5_ruleSlope_33 rfl (lv_at hl 2 rfl) ?_
      refine q_cV (n := 1) (rest := []) (wr := []) S0 hK hA hW (c_X5_sumOfWeights l g F d rk t0 q0 t1 q1 t2 q2 t3 q3 t4 q4 t5 q5 r1 u x (IH) (hud) (hG) (hI1) (hu) (hx) (hVI c25)) gX5_ruleSlope_X5_sumOfWeights rfl rfl rfl (by decide +kernel) ⟨by dsimp only; omega, by dsimp only; omega⟩ [0, 1, 2, 3, 4, 5, 6, 7, 8, 9, 10, 11, 12] [] rfl rfl rfl rfl (by decide) (q_recv hK hW.1 (ci := 5) (q0 := 0) rfl rfl) (hO) (hfz _ _ _ hW) rfl rfl hl.1 (Nat.le_of_ble_eq_true rfl) ⟨Nat.le_of_ble_eq_true rfl, Nat.le_of_ble_eq_true rfl⟩ dX5_ruleSlope_34 ?_
      rintro r2 H locs hp hW
      try dsimp only at hp
      have hW : gW g A s.heap H _ [(rk, .inr (5, [.ref t0, .ref t1, .ref t2, .ref t3, .ref t4, .ref t5, .ref (fS F)])), (t0, .inr (8, [.int (iI 199), .ref q0])), (q0, gI g 796 (rV r2)), (t1, .inr (8, [.int (iI 199), .ref q1])), (q1, gI g 796 (rH r2)), (t2, .inr (8, [.int (iI 199), .ref q2])), (q2, gI g 796 (rR r2)), (t3, .inr (8, [.int (iI 40), .ref q3])), (q3, gI g 160 (nV r2)), (t4, .inr (8, [.int (iI 40), .ref q4])), (q4, gI g 160 (nS r2)), (t5, .inr (8, [.int (iI 40), .ref q5])), (q5, gI g 160 (nW r2))] := hW
      refine W.eq (g2 := F0 m 37 ls [.int (iI (hh (fP F) (fE F) u.toNat x))]) rfl ?_
      have hI2 := hp.1
      have hKP2 : KP u r r2 := KP_trans hKP1 hp.2 (by omega)
      refine lv_istore (lv' := [(4, .int (iI (hh (fP F) (fE F) u.toNat x))), (3, .int (iI kn)), (0, .ref rk), (1, .int (iI u)), (2, .int (iI x))]) S0.1 S0.2.1 dX5_ruleSlope_37 hl (by decide) rfl (fun ls hl => ?_)
      refine lv_aload_n S0.1 S0.2.1 dX5_ruleSlope_39 rfl (lv_at hl 2 rfl) ?_
      refine q_get (C := RX5) (T := TX5) (N := 7) S0 hK hW.1 hinX5 0 rfl rfl 2 (by decide) (List.mem_of_getElem? (i := 1) rfl) rfl rfl dX5_ruleSlope_40 ?_
      refine lv_iload_n S0.1 S0.2.1 dX5_ruleSlope_43 rfl (lv_at hl 3 rfl) ?_
      refine lv_iload_n S0.1 S0.2.1 dX5_ruleSlope_44 rfl (lv_at hl 4 rfl) ?_
      refine lv_iload S0.1 S0.2.1 dX5_ruleSlope_45 (lv_at hl 0 rfl) ?_
      refine q_cV (n := 3) (rest := []) (wr := [(rk, .inr (5, [.ref t0, .ref t1, .ref t2, .ref t3, .ref t4, .ref t5, .ref (fS F)])), (t0, .inr (8, [.int (iI 199), .ref q0])), (q0, gI g 796 (rV r2)), (t1, .inr (8, [.int (iI 199), .ref q1])), (q1, gI g 796 (rH r2)), (t3, .inr (8, [.int (iI 40), .ref q3])), (q3, gI g 160 (nV r2)), (t4, .inr (8, [.int (iI 40), .ref q4])), (q4, gI g 160 (nS r2)), (t5, .inr (8, [.int (iI 40), .ref q5])), (q5, gI g 160 (nW r2))]) S0 hK hA hW (c_X8_set199 l g t2 q2 (rR r2) u x (hh (fP F) (fE F) u.toNat x) (by omega) (by omega)) gX5_ruleSlope_X8_set rfl rfl rfl (by decide +kernel) ⟨by dsimp only; omega, by dsimp only; omega⟩ [5, 6] [0, 1, 2, 3, 4, 7, 8, 9, 10, 11, 12] rfl rfl rfl rfl (by decide) (q_recv hK hW.1 (ci := 8) (q0 := 5) rfl rfl) (fun _ _ => trivial) (trivial) rfl rfl hl.1 (Nat.le_of_ble_eq_true rfl) ⟨Nat.le_of_ble_eq_true rfl, Nat.le_of_ble_eq_true rfl⟩ dX5_ruleSlope_47 (fun _ H locs _ hW => ?_)
      have hW : gW g A s.heap H _ [(rk, .inr (5, [.ref t0, .ref t1, .ref t2, .ref t3, .ref t4, .ref t5, .ref (fS F)])), (t0, .inr (8, [.int (iI 199), .ref q0])), (q0, gI g 796 (rV r2)), (t1, .inr (8, [.int (iI 199), .ref q1])), (q1, gI g 796 (rH r2)), (t3, .inr (8, [.int (iI 40), .ref q3])), (q3, gI g 160 (nV r2)), (t4, .inr (8, [.int (iI 40), .ref q4])), (q4, gI g 160 (nS r2)), (t5, .inr (8, [.int (iI 40), .ref q5])), (q5, gI g 160 (nW r2)), (t2, .inr (8, [.int (iI 199), .ref q2])), (q2, gI g 796 (up (rR r2) (u * 199 + x).toNat (hh (fP F) (fE F) u.toNat x)))] := hW
      refine W.eq (g2 := F0 m 50 ls []) rfl ?_
      refine lv_iload S0.1 S0.2.1 dX5_ruleSlope_50 (lv_at hl 0 rfl) ?_
      exact q_iret S0 hr hlocks (mkR (rV r2) (rH r2) (up (rR r2) (u * 199 + x).toNat (hh (fP F) (fE F) u.toNat x)) (nV r2) (nS r2) (nW r2)) (⟨RI_setR hpr.2 hI2 hu hx, hKP2⟩) (rfl) (hW.sub [0, 1, 2, 3, 4, 11, 12, 5, 6, 7, 8, 9, 10] rfl (rfl)) (Nat.le_of_ble_eq_true rfl) (Nat.le_of_ble_eq_true rfl) dX5_ruleSlope_52
    · skip
      refine q_iconst S0 dX5_ruleSlope_28 ?_
      refine q_topI (b := hh (fP F) (fE F) u.toNat x) ((hbi.mpr c25).symm) ?_
      obtain ⟨r2, er2⟩ : ∃ z, z = r1 := ⟨_, rfl⟩
      rw [← er2] at hW
      have hI2 : RI F r2 := by rw [er2]; exact hI1
      have hKP2 : KP u r r2 := by rw [er2]; exact hKP1
      refine lv_goto (tgt := 37) S0.1 S0.2.1 dX5_ruleSlope_29 (by decide) ?_
      refine lv_istore (lv' := [(4, .int (iI (hh (fP F) (fE F) u.toNat x))), (3, .int (iI kn)), (0, .ref rk), (1, .int (iI u)), (2, .int (iI x))]) S0.1 S0.2.1 dX5_ruleSlope_37 hl (by decide) rfl (fun ls hl => ?_)
      refine lv_aload_n S0.1 S0.2.1 dX5_ruleSlope_39 rfl (lv_at hl 2 rfl) ?_
      refine q_get (C := RX5) (T := TX5) (N := 7) S0 hK hW.1 hinX5 0 rfl rfl 2 (by decide) (List.mem_of_getElem? (i := 1) rfl) rfl rfl dX5_ruleSlope_40 ?_
      refine lv_iload_n S0.1 S0.2.1 dX5_ruleSlope_43 rfl (lv_at hl 3 rfl) ?_
      refine lv_iload_n S0.1 S0.2.1 dX5_ruleSlope_44 rfl (lv_at hl 4 rfl) ?_
      refine lv_iload S0.1 S0.2.1 dX5_ruleSlope_45 (lv_at hl 0 rfl) ?_
      refine q_cV (n := 3) (rest := []) (wr := [(rk, .inr (5, [.ref t0, .ref t1, .ref t2, .ref t3, .ref t4, .ref t5, .ref (fS F)])), (t0, .inr (8, [.int (iI 199), .ref q0])), (q0, gI g 796 (rV r2)), (t1, .inr (8, [.int (iI 199), .ref q1])), (q1, gI g 796 (rH r2)), (t3, .inr (8, [.int (iI 40), .ref q3])), (q3, gI g 160 (nV r2)), (t4, .inr (8, [.int (iI 40), .ref q4])), (q4, gI g 160 (nS r2)), (t5, .inr (8, [.int (iI 40), .ref q5])), (q5, gI g 160 (nW r2))]) S0 hK hA hW (c_X8_set199 l g t2 q2 (rR r2) u x (hh (fP F) (fE F) u.toNat x) (by omega) (by omega)) gX5_ruleSlope_X8_set rfl rfl rfl (by decide +kernel) ⟨by dsimp only; omega, by dsimp only; omega⟩ [5, 6] [0, 1, 2, 3, 4, 7, 8, 9, 10, 11, 12] rfl rfl rfl rfl (by decide) (q_recv hK hW.1 (ci := 8) (q0 := 5) rfl rfl) (fun _ _ => trivial) (trivial) rfl rfl hl.1 (Nat.le_of_ble_eq_true rfl) ⟨Nat.le_of_ble_eq_true rfl, Nat.le_of_ble_eq_true rfl⟩ dX5_ruleSlope_47 (fun _ H locs _ hW => ?_)
      have hW : gW g A s.heap H _ [(rk, .inr (5, [.ref t0, .ref t1, .ref t2, .ref t3, .ref t4, .ref t5, .ref (fS F)])), (t0, .inr (8, [.int (iI 199), .ref q0])), (q0, gI g 796 (rV r2)), (t1, .inr (8, [.int (iI 199), .ref q1])), (q1, gI g 796 (rH r2)), (t3, .inr (8, [.int (iI 40), .ref q3])), (q3, gI g 160 (nV r2)), (t4, .inr (8, [.int (iI 40), .ref q4])), (q4, gI g 160 (nS r2)), (t5, .inr (8, [.int (iI 40), .ref q5])), (q5, gI g 160 (nW r2)), (t2, .inr (8, [.int (iI 199), .ref q2])), (q2, gI g 796 (up (rR r2) (u * 199 + x).toNat (hh (fP F) (fE F) u.toNat x)))] := hW
      refine W.eq (g2 := F0 m 50 ls []) rfl ?_
      refine lv_iload S0.1 S0.2.1 dX5_ruleSlope_50 (lv_at hl 0 rfl) ?_
      exact q_iret S0 hr hlocks (mkR (rV r2) (rH r2) (up (rR r2) (u * 199 + x).toNat (hh (fP F) (fE F) u.toNat x)) (nV r2) (nS r2) (nW r2)) (⟨RI_setR hpr.2 hI2 hu hx, hKP2⟩) (rfl) (hW.sub [0, 1, 2, 3, 4, 11, 12, 5, 6, 7, 8, 9, 10] rfl (rfl)) (Nat.le_of_ble_eq_true rfl) (Nat.le_of_ble_eq_true rfl) dX5_ruleSlope_52
  · skip
    refine lv_iload_n S0.1 S0.2.1 dX5_ruleSlope_16 rfl (lv_at hl 0 rfl) ?_
    exact q_iret S0 hr hlocks r (⟨hI, KP_rfl⟩) (by rcases hR.2.2 with q | q <;> (first | (exfalso; omega) | (rw [hkn, q]))) (hW.sub [0, 1, 2, 3, 4, 5, 6, 7, 8, 9, 10, 11, 12] rfl (rfl)) (Nat.le_of_ble_eq_true rfl) (Nat.le_of_ble_eq_true rfl) dX5_ruleSlope_17
theorem RSL_all (l : Launch) (g : GG) (F : FT) (hG : GF F) : ∀ d, d ≤ 5 → RSLP l g F d
  | 0, _ => fun rk t0 q0 t1 q1 t2 q2 t3 q3 t4 q4 t5 q5 r u x h0 hd h4 hx hI => absurd hd (by omega)
  | d + 1, h => fun rk t0 q0 t1 q1 t2 q2 t3 q3 t4 q4 t5 q5 r u x h0 hd h4 hx hI => c_X5_ruleSlope l g F d rk t0 q0 t1 q1 t2 q2 t3 q3 t4 q4 t5 q5 r u x (RSL_all l g F hG d (by omega)) (by omega) (by omega) hG hI ⟨h0, h4⟩ hx
