/-- the call's number -/
def opv (x : Int32) : Int := (x &&& iI 31).toInt
theorem opv_v (x : Int32) : iI x.toInt &&& iI 31 = iI (opv x) := by
  unfold opv
  rw [← iI_of, ← iI_of]
theorem opv_r (x : Int32) : 0 ≤ opv x ∧ opv x < 32 := by
  have h : (x &&& iI 31).toBitVec.toNat ≤ 31 := by
    rw [Int32.toBitVec_and, BitVec.toNat_and]
    exact Nat.le_trans Nat.and_le_right (by decide)
  have e : (x &&& iI 31).toInt = ((x &&& iI 31).toBitVec.toNat : Int) := BitVec.toInt_eq_toNat_of_lt (by omega)
  unfold opv
  omega
theorem law_turn {p : Program} {l : Launch} {e : Env} {s : State} {m : MethodId} {below : List Frame} {meth : Method} {c : Code} {H : Heap} {locs : List Loc} {cells slots : Nat} {Q : State → Prop} {ls : Array Slot} {g : GG} {b0 L : Nat} {xs : Nat → Int32} (hC : LC p l s m b0 L xs meth c g) {i : Int} (hi0 : 0 ≤ i ∧ i ≤ 2052) (ob tx tc ps b k1 k2 k3 k4 k5 k6 s1 i1 s2 i2 ho ha rk t0 q0 t1 q1 t2 q2 t3 q3 t4 q4 t5 q5 mo az ap ak ax a1 a2 a3 a4 a5 a6 v1 v2 v3 v4 v5 v6 o9 : Nat) (hI : LInv g (fun q => s.heap.size ≤ q) s.heap H locs ob tx tc ps b k1 k2 k3 k4 k5 k6 s1 i1 s2 i2 ho ha rk t0 q0 t1 q1 t2 q2 t3 q3 t4 q4 t5 q5 mo az ap ak ax a1 a2 a3 a4 a5 a6 v1 v2 v3 v4 v5 v6 o9) (hl : lv_has ls 7 [(4, .int (iI i)), (3, .ref o9), (2, .ref mo), (1, .ref ob), (0, .ref b0)]) (hR : i + 4 ≤ L → cells + 7 ≤ 600000 ∧ slots + 200 ≤ 7290000) (kend : W p l e room_1 s m #[.ref b0] below meth c H locs cells slots Q (F0 m 1568 ls [])) (kk : i + 4 ≤ L → ∀ (H1 : Heap) (locs1 : List Loc) (ls1 : Array Slot), LInv g (fun q => s.heap.size ≤ q) s.heap H1 locs1 ob tx tc ps b k1 k2 k3 k4 k5 k6 s1 i1 s2 i2 ho ha rk t0 q0 t1 q1 t2 q2 t3 q3 t4 q4 t5 q5 mo az ap ak ax a1 a2 a3 a4 a5 a6 v1 v2 v3 v4 v5 v6 o9 → lv_has ls1 7 [(4, .int (iI i)), (3, .ref o9), (2, .ref mo), (1, .ref ob), (0, .ref b0)] → W p l e room_1 s m #[.ref b0] below meth c H1 locs1 (cells + 7) (slots + 200) Q (F0 m 1562 ls1 [])) : W p l e room_1 s m #[.ref b0] below meth c H locs cells slots Q (F0 m 23 ls []) := by
  have S0 := hC.1
  have hL8 := hC.2.2.2.2.2.2.2
  have hbA : ¬ (fun q : Nat => s.heap.size ≤ q) b0 := Nat.not_le.mpr hC.2.2.2.1
  have hS : va_S (fun q : Nat => s.heap.size ≤ q) s.heap H locs := by obtain ⟨Fam, F, r, S, tn, tf, n, f, Fh, so, ik, th, bn, N, Z, P, Kp, K, o, hW, -⟩ := hI; exact hW.1.2.2
  refine lv_iload S0.1 S0.2.1 dL_law_23 (lv_at hl 0 rfl) ?_
  refine lv_aload_n S0.1 S0.2.1 dL_law_25 rfl (lv_at hl 4 rfl) ?_
  refine va_slen S0.1 S0.2.1 hC.2.2.1 hC.2.2.2.1 hbA hS dL_law_26 ?_
  refine q_top (w := .int (iI ((L : Nat) : Int))) (congrArg Value.int (iI_nat L)) ?_
  refine q_iconst S0 dL_law_27 ?_
  refine q_isub S0 dL_law_28 ?_
  refine q_icmp_gt (tgt := 1568) S0 (by omega) dL_law_29 (by decide) (fun c29 => kend) (fun c29 => ?_)
  have hi : 0 ≤ i ∧ i + 4 ≤ L := by omega
  have hR := hR hi.2
  have kk := kk hi.2
  refine lv_aload_n S0.1 S0.2.1 dL_law_32 rfl (lv_at hl 4 rfl) ?_
  refine lv_iload S0.1 S0.2.1 dL_law_33 (lv_at hl 0 rfl) ?_
  refine q_sld S0 hC.2.2.1 hC.2.2.2.1 hbA hS (by omega) dL_law_35 ?_
  refine q_bipush S0 (by decide) dL_law_36 ?_
  refine lv_iand S0.1 S0.2.1 dL_law_38 ?_
  obtain ⟨v, hv⟩ : ∃ v : Int, opv (xs i.toNat) = v := ⟨_, rfl⟩
  have hvr := opv_r (xs i.toNat)
  rw [hv] at hvr
  refine q_top (w := .int (iI v)) (by rw [← hv]; exact congrArg Value.int (opv_v _)) ?_
  by_cases k39 : v = 0
  · refine q_topI k39 ?_
    refine lv_tableIn (off := 121) (tgt := 160) S0.1 S0.2.1 dL_law_39 (by decide) (by decide) (by decide) (by decide) ?_
    exact dk_define hC hi ob tx tc ps b k1 k2 k3 k4 k5 k6 s1 i1 s2 i2 ho ha rk t0 q0 t1 q1 t2 q2 t3 q3 t4 q4 t5 q5 mo az ap ak ax a1 a2 a3 a4 a5 a6 v1 v2 v3 v4 v5 v6 o9 hI hl hR kk
  replace hvr : 1 ≤ v ∧ v < 32 := by omega
  clear k39
  by_cases k39 : v = 1
  · refine q_topI k39 ?_
    refine lv_tableIn (off := 177) (tgt := 216) S0.1 S0.2.1 dL_law_39 (by decide) (by decide) (by decide) (by decide) ?_
    exact dk_copy hC hi ob tx tc ps b k1 k2 k3 k4 k5 k6 s1 i1 s2 i2 ho ha rk t0 q0 t1 q1 t2 q2 t3 q3 t4 q4 t5 q5 mo az ap ak ax a1 a2 a3 a4 a5 a6 v1 v2 v3 v4 v5 v6 o9 hI hl hR kk
  replace hvr : 2 ≤ v ∧ v < 32 := by omega
  clear k39
  by_cases k39 : v = 2
  · refine q_topI k39 ?_
    refine lv_tableIn (off := 245) (tgt := 284) S0.1 S0.2.1 dL_law_39 (by decide) (by decide) (by decide) (by decide) ?_
    exact dk_setModulus hC hi ob tx tc ps b k1 k2 k3 k4 k5 k6 s1 i1 s2 i2 ho ha rk t0 q0 t1 q1 t2 q2 t3 q3 t4 q4 t5 q5 mo az ap ak ax a1 a2 a3 a4 a5 a6 v1 v2 v3 v4 v5 v6 o9 hI hl hR kk
  replace hvr : 3 ≤ v ∧ v < 32 := by omega
  clear k39
  by_cases k39 : v = 3
  · refine q_topI k39 ?_
    refine lv_tableIn (off := 301) (tgt := 340) S0.1 S0.2.1 dL_law_39 (by decide) (by decide) (by decide) (by decide) ?_
    exact dk_type hC hi ob tx tc ps b k1 k2 k3 k4 k5 k6 s1 i1 s2 i2 ho ha rk t0 q0 t1 q1 t2 q2 t3 q3 t4 q4 t5 q5 mo az ap ak ax a1 a2 a3 a4 a5 a6 v1 v2 v3 v4 v5 v6 o9 hI hl hR kk
  replace hvr : 4 ≤ v ∧ v < 32 := by omega
  clear k39
  by_cases k39 : v = 4
  · refine q_topI k39 ?_
    refine lv_tableIn (off := 359) (tgt := 398) S0.1 S0.2.1 dL_law_39 (by decide) (by decide) (by decide) (by decide) ?_
    exact dk_clearText hC hi ob tx tc ps b k1 k2 k3 k4 k5 k6 s1 i1 s2 i2 ho ha rk t0 q0 t1 q1 t2 q2 t3 q3 t4 q4 t5 q5 mo az ap ak ax a1 a2 a3 a4 a5 a6 v1 v2 v3 v4 v5 v6 o9 hI hl hR kk
  replace hvr : 5 ≤ v ∧ v < 32 := by omega
  clear k39
  by_cases k39 : v = 5
  · refine q_topI k39 ?_
    refine lv_tableIn (off := 372) (tgt := 411) S0.1 S0.2.1 dL_law_39 (by decide) (by decide) (by decide) (by decide) ?_
    exact dk_textError hC hi ob tx tc ps b k1 k2 k3 k4 k5 k6 s1 i1 s2 i2 ho ha rk t0 q0 t1 q1 t2 q2 t3 q3 t4 q4 t5 q5 mo az ap ak ax a1 a2 a3 a4 a5 a6 v1 v2 v3 v4 v5 v6 o9 hI hl hR kk
  replace hvr : 6 ≤ v ∧ v < 32 := by omega
  clear k39
  by_cases k39 : v = 6
  · refine q_topI k39 ?_
    refine lv_tableIn (off := 385) (tgt := 424) S0.1 S0.2.1 dL_law_39 (by decide) (by decide) (by decide) (by decide) ?_
    exact dk_leastToDefine hC hi ob tx tc ps b k1 k2 k3 k4 k5 k6 s1 i1 s2 i2 ho ha rk t0 q0 t1 q1 t2 q2 t3 q3 t4 q4 t5 q5 mo az ap ak ax a1 a2 a3 a4 a5 a6 v1 v2 v3 v4 v5 v6 o9 hI hl hR kk
  replace hvr : 7 ≤ v ∧ v < 32 := by omega
  clear k39
  by_cases k39 : v = 7
  · refine q_topI k39 ?_
    refine lv_tableIn (off := 429) (tgt := 468) S0.1 S0.2.1 dL_law_39 (by decide) (by decide) (by decide) (by decide) ?_
    exact dk_undo hC hi ob tx tc ps b k1 k2 k3 k4 k5 k6 s1 i1 s2 i2 ho ha rk t0 q0 t1 q1 t2 q2 t3 q3 t4 q4 t5 q5 mo az ap ak ax a1 a2 a3 a4 a5 a6 v1 v2 v3 v4 v5 v6 o9 hI hl hR kk
  replace hvr : 8 ≤ v ∧ v < 32 := by omega
  clear k39
  by_cases k39 : v = 8
  · refine q_topI k39 ?_
    refine lv_tableIn (off := 473) (tgt := 512) S0.1 S0.2.1 dL_law_39 (by decide) (by decide) (by decide) (by decide) ?_
    exact dk_takeSnapshot hC hi ob tx tc ps b k1 k2 k3 k4 k5 k6 s1 i1 s2 i2 ho ha rk t0 q0 t1 q1 t2 q2 t3 q3 t4 q4 t5 q5 mo az ap ak ax a1 a2 a3 a4 a5 a6 v1 v2 v3 v4 v5 v6 o9 hI hl hR kk
  replace hvr : 9 ≤ v ∧ v < 32 := by omega
  clear k39
  by_cases k39 : v = 9
  · refine q_topI k39 ?_
    refine lv_tableIn (off := 486) (tgt := 525) S0.1 S0.2.1 dL_law_39 (by decide) (by decide) (by decide) (by decide) ?_
    exact dk_restoreSnapshot hC hi ob tx tc ps b k1 k2 k3 k4 k5 k6 s1 i1 s2 i2 ho ha rk t0 q0 t1 q1 t2 q2 t3 q3 t4 q4 t5 q5 mo az ap ak ax a1 a2 a3 a4 a5 a6 v1 v2 v3 v4 v5 v6 o9 hI hl hR kk
  replace hvr : 10 ≤ v ∧ v < 32 := by omega
  clear k39
  by_cases k39 : v = 10
  · refine q_topI k39 ?_
    refine lv_tableIn (off := 530) (tgt := 569) S0.1 S0.2.1 dL_law_39 (by decide) (by decide) (by decide) (by decide) ?_
    exact dk_nodesOf hC hi ob tx tc ps b k1 k2 k3 k4 k5 k6 s1 i1 s2 i2 ho ha rk t0 q0 t1 q1 t2 q2 t3 q3 t4 q4 t5 q5 mo az ap ak ax a1 a2 a3 a4 a5 a6 v1 v2 v3 v4 v5 v6 o9 hI hl hR kk
  replace hvr : 11 ≤ v ∧ v < 32 := by omega
  clear k39
  by_cases k39 : v = 11
  · refine q_topI k39 ?_
    refine lv_tableIn (off := 586) (tgt := 625) S0.1 S0.2.1 dL_law_39 (by decide) (by decide) (by decide) (by decide) ?_
    exact dk_unlikeNodesOf hC hi ob tx tc ps b k1 k2 k3 k4 k5 k6 s1 i1 s2 i2 ho ha rk t0 q0 t1 q1 t2 q2 t3 q3 t4 q4 t5 q5 mo az ap ak ax a1 a2 a3 a4 a5 a6 v1 v2 v3 v4 v5 v6 o9 hI hl hR kk
  replace hvr : 12 ≤ v ∧ v < 32 := by omega
  clear k39
  by_cases k39 : v = 12
  · refine q_topI k39 ?_
    refine lv_tableIn (off := 642) (tgt := 681) S0.1 S0.2.1 dL_law_39 (by decide) (by decide) (by decide) (by decide) ?_
    exact dk_depthOf hC hi ob tx tc ps b k1 k2 k3 k4 k5 k6 s1 i1 s2 i2 ho ha rk t0 q0 t1 q1 t2 q2 t3 q3 t4 q4 t5 q5 mo az ap ak ax a1 a2 a3 a4 a5 a6 v1 v2 v3 v4 v5 v6 o9 hI hl hR kk
  replace hvr : 13 ≤ v ∧ v < 32 := by omega
  clear k39
  by_cases k39 : v = 13
  · refine q_topI k39 ?_
    refine lv_tableIn (off := 698) (tgt := 737) S0.1 S0.2.1 dL_law_39 (by decide) (by decide) (by decide) (by decide) ?_
    exact dk_modulus hC hi ob tx tc ps b k1 k2 k3 k4 k5 k6 s1 i1 s2 i2 ho ha rk t0 q0 t1 q1 t2 q2 t3 q3 t4 q4 t5 q5 mo az ap ak ax a1 a2 a3 a4 a5 a6 v1 v2 v3 v4 v5 v6 o9 hI hl hR kk
  replace hvr : 14 ≤ v ∧ v < 32 := by omega
  clear k39
  by_cases k39 : v = 14
  · refine q_topI k39 ?_
    refine lv_tableIn (off := 711) (tgt := 750) S0.1 S0.2.1 dL_law_39 (by decide) (by decide) (by decide) (by decide) ?_
    exact dk_valueAt hC hi ob tx tc ps b k1 k2 k3 k4 k5 k6 s1 i1 s2 i2 ho ha rk t0 q0 t1 q1 t2 q2 t3 q3 t4 q4 t5 q5 mo az ap ak ax a1 a2 a3 a4 a5 a6 v1 v2 v3 v4 v5 v6 o9 hI hl hR kk
  replace hvr : 15 ≤ v ∧ v < 32 := by omega
  clear k39
  by_cases k39 : v = 15
  · refine q_topI k39 ?_
    refine lv_tableIn (off := 779) (tgt := 818) S0.1 S0.2.1 dL_law_39 (by decide) (by decide) (by decide) (by decide) ?_
    exact dk_slopeByHinges hC hi ob tx tc ps b k1 k2 k3 k4 k5 k6 s1 i1 s2 i2 ho ha rk t0 q0 t1 q1 t2 q2 t3 q3 t4 q4 t5 q5 mo az ap ak ax a1 a2 a3 a4 a5 a6 v1 v2 v3 v4 v5 v6 o9 hI hl hR kk
  replace hvr : 16 ≤ v ∧ v < 32 := by omega
  clear k39
  by_cases k39 : v = 16
  · refine q_topI k39 ?_
    refine lv_tableIn (off := 847) (tgt := 886) S0.1 S0.2.1 dL_law_39 (by decide) (by decide) (by decide) (by decide) ?_
    exact dk_slopeByRules hC hi ob tx tc ps b k1 k2 k3 k4 k5 k6 s1 i1 s2 i2 ho ha rk t0 q0 t1 q1 t2 q2 t3 q3 t4 q4 t5 q5 mo az ap ak ax a1 a2 a3 a4 a5 a6 v1 v2 v3 v4 v5 v6 o9 hI hl hR kk
  replace hvr : 17 ≤ v ∧ v < 32 := by omega
  clear k39
  by_cases k39 : v = 17
  · refine q_topI k39 ?_
    refine lv_tableIn (off := 915) (tgt := 954) S0.1 S0.2.1 dL_law_39 (by decide) (by decide) (by decide) (by decide) ?_
    exact dk_chainByProducts hC hi ob tx tc ps b k1 k2 k3 k4 k5 k6 s1 i1 s2 i2 ho ha rk t0 q0 t1 q1 t2 q2 t3 q3 t4 q4 t5 q5 mo az ap ak ax a1 a2 a3 a4 a5 a6 v1 v2 v3 v4 v5 v6 o9 hI hl hR kk
  replace hvr : 18 ≤ v ∧ v < 32 := by omega
  clear k39
  by_cases k39 : v = 18
  · refine q_topI k39 ?_
    refine lv_tableIn (off := 995) (tgt := 1034) S0.1 S0.2.1 dL_law_39 (by decide) (by decide) (by decide) (by decide) ?_
    exact dk_chainByFeeding hC hi ob tx tc ps b k1 k2 k3 k4 k5 k6 s1 i1 s2 i2 ho ha rk t0 q0 t1 q1 t2 q2 t3 q3 t4 q4 t5 q5 mo az ap ak ax a1 a2 a3 a4 a5 a6 v1 v2 v3 v4 v5 v6 o9 hI hl hR kk
  replace hvr : 19 ≤ v ∧ v < 32 := by omega
  clear k39
  by_cases k39 : v = 19
  · refine q_topI k39 ?_
    refine lv_tableIn (off := 1075) (tgt := 1114) S0.1 S0.2.1 dL_law_39 (by decide) (by decide) (by decide) (by decide) ?_
    exact dk_bansOf hC hi ob tx tc ps b k1 k2 k3 k4 k5 k6 s1 i1 s2 i2 ho ha rk t0 q0 t1 q1 t2 q2 t3 q3 t4 q4 t5 q5 mo az ap ak ax a1 a2 a3 a4 a5 a6 v1 v2 v3 v4 v5 v6 o9 hI hl hR kk
  replace hvr : 20 ≤ v ∧ v < 32 := by omega
  clear k39
  by_cases k39 : v = 20
  · refine q_topI k39 ?_
    refine lv_tableIn (off := 1131) (tgt := 1170) S0.1 S0.2.1 dL_law_39 (by decide) (by decide) (by decide) (by decide) ?_
    exact dk_flatsOf hC hi ob tx tc ps b k1 k2 k3 k4 k5 k6 s1 i1 s2 i2 ho ha rk t0 q0 t1 q1 t2 q2 t3 q3 t4 q4 t5 q5 mo az ap ak ax a1 a2 a3 a4 a5 a6 v1 v2 v3 v4 v5 v6 o9 hI hl hR kk
  replace hvr : 21 ≤ v ∧ v < 32 := by omega
  clear k39
  by_cases k39 : v = 21
  · refine q_topI k39 ?_
    refine lv_tableIn (off := 1187) (tgt := 1226) S0.1 S0.2.1 dL_law_39 (by decide) (by decide) (by decide) (by decide) ?_
    exact dk_firstFlat hC hi ob tx tc ps b k1 k2 k3 k4 k5 k6 s1 i1 s2 i2 ho ha rk t0 q0 t1 q1 t2 q2 t3 q3 t4 q4 t5 q5 mo az ap ak ax a1 a2 a3 a4 a5 a6 v1 v2 v3 v4 v5 v6 o9 hI hl hR kk
  replace hvr : 22 ≤ v ∧ v < 32 := by omega
  clear k39
  by_cases k39 : v = 22
  · refine q_topI k39 ?_
    refine lv_tableIn (off := 1243) (tgt := 1282) S0.1 S0.2.1 dL_law_39 (by decide) (by decide) (by decide) (by decide) ?_
    exact dk_rootsOf hC hi ob tx tc ps b k1 k2 k3 k4 k5 k6 s1 i1 s2 i2 ho ha rk t0 q0 t1 q1 t2 q2 t3 q3 t4 q4 t5 q5 mo az ap ak ax a1 a2 a3 a4 a5 a6 v1 v2 v3 v4 v5 v6 o9 hI hl hR kk
  replace hvr : 23 ≤ v ∧ v < 32 := by omega
  clear k39
  by_cases k39 : v = 23
  · refine q_topI k39 ?_
    refine lv_tableIn (off := 1299) (tgt := 1338) S0.1 S0.2.1 dL_law_39 (by decide) (by decide) (by decide) (by decide) ?_
    exact dk_isSame hC hi ob tx tc ps b k1 k2 k3 k4 k5 k6 s1 i1 s2 i2 ho ha rk t0 q0 t1 q1 t2 q2 t3 q3 t4 q4 t5 q5 mo az ap ak ax a1 a2 a3 a4 a5 a6 v1 v2 v3 v4 v5 v6 o9 hI hl hR kk
  replace hvr : 24 ≤ v ∧ v < 32 := by omega
  clear k39
  by_cases k39 : v = 24
  · refine q_topI k39 ?_
    refine lv_tableIn (off := 1374) (tgt := 1413) S0.1 S0.2.1 dL_law_39 (by decide) (by decide) (by decide) (by decide) ?_
    exact dk_step hC hi ob tx tc ps b k1 k2 k3 k4 k5 k6 s1 i1 s2 i2 ho ha rk t0 q0 t1 q1 t2 q2 t3 q3 t4 q4 t5 q5 mo az ap ak ax a1 a2 a3 a4 a5 a6 v1 v2 v3 v4 v5 v6 o9 hI hl hR kk
  replace hvr : 25 ≤ v ∧ v < 32 := by omega
  clear k39
  by_cases k39 : v = 25
  · refine q_topI k39 ?_
    refine lv_tableIn (off := 1442) (tgt := 1481) S0.1 S0.2.1 dL_law_39 (by decide) (by decide) (by decide) (by decide) ?_
    exact dk_stepsToRoot hC hi ob tx tc ps b k1 k2 k3 k4 k5 k6 s1 i1 s2 i2 ho ha rk t0 q0 t1 q1 t2 q2 t3 q3 t4 q4 t5 q5 mo az ap ak ax a1 a2 a3 a4 a5 a6 v1 v2 v3 v4 v5 v6 o9 hI hl hR kk
  replace hvr : 26 ≤ v ∧ v < 32 := by omega
  clear k39
  by_cases k39 : v = 26
  · refine q_topI k39 ?_
    refine lv_tableIn (off := 1510) (tgt := 1549) S0.1 S0.2.1 dL_law_39 (by decide) (by decide) (by decide) (by decide) ?_
    exact dk_recordedStates hC hi ob tx tc ps b k1 k2 k3 k4 k5 k6 s1 i1 s2 i2 ho ha rk t0 q0 t1 q1 t2 q2 t3 q3 t4 q4 t5 q5 mo az ap ak ax a1 a2 a3 a4 a5 a6 v1 v2 v3 v4 v5 v6 o9 hI hl hR kk
  replace hvr : 27 ≤ v ∧ v < 32 := by omega
  clear k39
  refine lv_tableOut (tgt := 1562) S0.1 S0.2.1 dL_law_39 (by rw [iI_t (by omega) (by omega)]; omega) (by decide) ?_
  refine W.widen (k := cells + 7) (n := slots + 200) (by omega) (by omega) ?_
  exact kk _ _ ls hI hl
/-- the loop: to its end, whatever the script -/
theorem law_loop {p : Program} {l : Launch} {e : Env} {s : State} {m : MethodId} {below : List Frame} {meth : Method} {c : Code} {Q : State → Prop} {g : GG} {b0 L : Nat} {xs : Nat → Int32} (hC : LC p l s m b0 L xs meth c g)
    (hend : ∀ (H : Heap) (locs : List Loc) (ls : Array Slot) (cells slots : Nat), va_S (fun q => s.heap.size ≤ q) s.heap H locs → cells ≤ 600000 → slots ≤ 7290000 → W p l e room_1 s m #[.ref b0] below meth c H locs cells slots Q (F0 m 1568 ls [])) :
    ∀ (k : Nat) (i : Int) (H : Heap) (locs : List Loc) (ls : Array Slot) (cells slots : Nat) (ob tx tc ps b k1 k2 k3 k4 k5 k6 s1 i1 s2 i2 ho ha rk t0 q0 t1 q1 t2 q2 t3 q3 t4 q4 t5 q5 mo az ap ak ax a1 a2 a3 a4 a5 a6 v1 v2 v3 v4 v5 v6 o9 : Nat), 0 ≤ i ∧ i ≤ 2052 → (L : Int) ≤ i + 4 * k → cells + 7 * k ≤ 600000 → slots + 200 * k ≤ 7290000 → LInv g (fun q => s.heap.size ≤ q) s.heap H locs ob tx tc ps b k1 k2 k3 k4 k5 k6 s1 i1 s2 i2 ho ha rk t0 q0 t1 q1 t2 q2 t3 q3 t4 q4 t5 q5 mo az ap ak ax a1 a2 a3 a4 a5 a6 v1 v2 v3 v4 v5 v6 o9 → lv_has ls 7 [(4, .int (iI i)), (3, .ref o9), (2, .ref mo), (1, .ref ob), (0, .ref b0)] → W p l e room_1 s m #[.ref b0] below meth c H locs cells slots Q (F0 m 23 ls []) := by
  have hS : ∀ (H : Heap) (locs : List Loc) (ob tx tc ps b k1 k2 k3 k4 k5 k6 s1 i1 s2 i2 ho ha rk t0 q0 t1 q1 t2 q2 t3 q3 t4 q4 t5 q5 mo az ap ak ax a1 a2 a3 a4 a5 a6 v1 v2 v3 v4 v5 v6 o9 : Nat), LInv g (fun q => s.heap.size ≤ q) s.heap H locs ob tx tc ps b k1 k2 k3 k4 k5 k6 s1 i1 s2 i2 ho ha rk t0 q0 t1 q1 t2 q2 t3 q3 t4 q4 t5 q5 mo az ap ak ax a1 a2 a3 a4 a5 a6 v1 v2 v3 v4 v5 v6 o9 → va_S (fun q : Nat => s.heap.size ≤ q) s.heap H locs := by
    intro H locs ob tx tc ps b k1 k2 k3 k4 k5 k6 s1 i1 s2 i2 ho ha rk t0 q0 t1 q1 t2 q2 t3 q3 t4 q4 t5 q5 mo az ap ak ax a1 a2 a3 a4 a5 a6 v1 v2 v3 v4 v5 v6 o9 hI
    obtain ⟨Fam, F, r, S, tn, tf, n, f, Fh, so, ik, th, bn, N, Z, P, Kp, K, o, hW, -⟩ := hI
    exact hW.1.2.2
  have S0 := hC.1
  have hL8 := hC.2.2.2.2.2.2.2
  intro k
  induction k with
  | zero =>
    intro i H locs ls cells slots ob tx tc ps b k1 k2 k3 k4 k5 k6 s1 i1 s2 i2 ho ha rk t0 q0 t1 q1 t2 q2 t3 q3 t4 q4 t5 q5 mo az ap ak ax a1 a2 a3 a4 a5 a6 v1 v2 v3 v4 v5 v6 o9 hi hk hc hs hI hl
    exact law_turn hC hi ob tx tc ps b k1 k2 k3 k4 k5 k6 s1 i1 s2 i2 ho ha rk t0 q0 t1 q1 t2 q2 t3 q3 t4 q4 t5 q5 mo az ap ak ax a1 a2 a3 a4 a5 a6 v1 v2 v3 v4 v5 v6 o9 hI hl (fun h => by omega) (hend H locs ls cells slots (hS H locs ob tx tc ps b k1 k2 k3 k4 k5 k6 s1 i1 s2 i2 ho ha rk t0 q0 t1 q1 t2 q2 t3 q3 t4 q4 t5 q5 mo az ap ak ax a1 a2 a3 a4 a5 a6 v1 v2 v3 v4 v5 v6 o9 hI) (by omega) (by omega)) (fun h => by omega)
  | succ k ih =>
    intro i H locs ls cells slots ob tx tc ps b k1 k2 k3 k4 k5 k6 s1 i1 s2 i2 ho ha rk t0 q0 t1 q1 t2 q2 t3 q3 t4 q4 t5 q5 mo az ap ak ax a1 a2 a3 a4 a5 a6 v1 v2 v3 v4 v5 v6 o9 hi hk hc hs hI hl
    refine law_turn hC hi ob tx tc ps b k1 k2 k3 k4 k5 k6 s1 i1 s2 i2 ho ha rk t0 q0 t1 q1 t2 q2 t3 q3 t4 q4 t5 q5 mo az ap ak ax a1 a2 a3 a4 a5 a6 v1 v2 v3 v4 v5 v6 o9 hI hl (fun _ => by omega) (hend H locs ls cells slots (hS H locs ob tx tc ps b k1 k2 k3 k4 k5 k6 s1 i1 s2 i2 ho ha rk t0 q0 t1 q1 t2 q2 t3 q3 t4 q4 t5 q5 mo az ap ak ax a1 a2 a3 a4 a5 a6 v1 v2 v3 v4 v5 v6 o9 hI) (by omega) (by omega)) (fun h H1 locs1 ls1 hI1 hl1 => ?_)
    refine q_iinc (lv' := [(4, .int (iI (i + 4))), (3, .ref o9), (2, .ref mo), (1, .ref ob), (0, .ref b0)]) S0 dL_law_1562 hl1 (k := 0) rfl (by decide) rfl (fun ls2 hl2 => ?_)
    refine lv_goto (tgt := 23) S0.1 S0.2.1 dL_law_1565 (by decide) ?_
    exact ih (i + 4) H1 locs1 ls2 (cells + 7) (slots + 200) ob tx tc ps b k1 k2 k3 k4 k5 k6 s1 i1 s2 i2 ho ha rk t0 q0 t1 q1 t2 q2 t3 q3 t4 q4 t5 q5 mo az ap ak ax a1 a2 a3 a4 a5 a6 v1 v2 v3 v4 v5 v6 o9 (by omega) (by omega) (by omega) (by omega) hI1 hl2
