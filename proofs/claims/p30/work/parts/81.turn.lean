/-! one turn of the law, and its loop -/
def PL (g : GG) (A : Nat → Prop) (H0 H : Heap) (locs : List Loc) (ob tx tc ps b k1 k2 k3 k4 k5 k6 s1 i1 s2 i2 ho ha rk t0 q0 t1 q1 t2 q2 t3 q3 t4 q4 t5 q5 : Nat) (F : FT) : Prop := ∃ (Fam : FT → Prop) (r : RT) (S : PT) (tn : Int) (tf : Nat → Int) (n : Int) (f : Nat → Option Nat), gLw g Fam A H0 H locs [(ob, .inr (10, [.ref tx, .ref ps, .ref ho, .ref rk, .null])), (tx, .inr (9, [.ref tc, .int (iI tn)])), (tc, gC g 40 tf), (ps, .inr (4, [.ref b, .int (iI (pA S)), .int (iI (pO S)), .int (iI (pM S))])), (b, .inr (0, [.ref k1, .ref k2, .ref k3, .ref k4, .ref k5, .ref k6, .int (iI (bN (pB S))), .int (iI (bZ (pB S))), .ref s1, .ref s2])), (k1, gI g 40 (bK (pB S))), (k2, gI g 40 (bU (pB S))), (k3, gI g 40 (bL (pB S))), (k4, gI g 40 (bV (pB S))), (k5, gI g 40 (bD (pB S))), (k6, gI g 40 (bE (pB S))), (s1, .inr (3, [.ref i1, .int (iI (lP (pB S)))])), (i1, gI g 40 (lQ (pB S))), (s2, .inr (3, [.ref i2, .int (iI (wP (pB S)))])), (i2, gI g 40 (wQ (pB S))), (ho, .inr (2, [.ref ha, .int (iI n)])), (ha, gR g 4 f), (rk, .inr (5, [.ref t0, .ref t1, .ref t2, .ref t3, .ref t4, .ref t5, .ref (fS F)])), (t0, .inr (8, [.int (iI 199), .ref q0])), (q0, gI g 796 (rV r)), (t1, .inr (8, [.int (iI 199), .ref q1])), (q1, gI g 796 (rH r)), (t2, .inr (8, [.int (iI 199), .ref q2])), (q2, gI g 796 (rR r)), (t3, .inr (8, [.int (iI 40), .ref q3])), (q3, gI g 160 (nV r)), (t4, .inr (8, [.int (iI 40), .ref q4])), (q4, gI g 160 (nS r)), (t5, .inr (8, [.int (iI 40), .ref q5])), (q5, gI g 160 (nW r))] ∧ INVp Fam F r S tn tf n f
theorem aR_rng {p k1 F1 c1 e1 less k2 F2 c2 e2 : Int} (hp : 0 < p) : ∀ j, 0 ≤ aR p k1 F1 c1 e1 less k2 F2 c2 e2 j ∧ aR p k1 F1 c1 e1 less k2 F2 c2 e2 j < p := addr_rng hp (addr_rng hp (zr_rng (by omega)))
theorem bR_rng {p k F c e : Int} (hp : 2 ≤ p) : ∀ j, 0 ≤ bR p k F c e j ∧ bR p k F c e j < p := addr_rng (by omega) (up_rg (up_rg (zr_rng (by omega)) (by omega)) (by omega))
theorem r1_rng {p : Int} (hp : 2 ≤ p) : ∀ j, 0 ≤ r0 1 j ∧ r0 1 j < p := up_rg (zr_rng (by omega)) (by omega)
theorem cuU_nn : ∀ (k : Nat) (B : BT) (j u : Int), 0 ≤ u → 0 ≤ (cuU k B j u).2
  | 0, _, _, _, h => h
  | k + 1, B, j, u, h => by
    show 0 ≤ (cuU k (sLike B j) (j + 1) (if flv B j = j then u + 1 else u)).2
    exact cuU_nn k _ _ _ (by split <;> omega)
theorem nUn_nn (B : BT) : 0 ≤ nUn B := cuU_nn (bN B).toNat B 0 0 (by omega)
theorem law_turn {p : Program} {l : Launch} {e : Env} {s : State} {m : MethodId} {below : List Frame} {meth : Method} {c : Code} {H : Heap} {locs : List Loc} {cells slots : Nat} {Q : State → Prop} {ls : Array Slot} {g : GG} {b0 L : Nat} {xs : Nat → Int32} (hC : LC p l s m b0 L xs meth c g) (ee : Int) (he : 0 ≤ ee ∧ ee < 14) (ob tx tc ps b k1 k2 k3 k4 k5 k6 s1 i1 s2 i2 ho ha rk t0 q0 t1 q1 t2 q2 t3 q3 t4 q4 t5 q5 : Nat) (F : FT) (hP : PL g (fun q => s.heap.size ≤ q) s.heap H locs ob tx tc ps b k1 k2 k3 k4 k5 k6 s1 i1 s2 i2 ho ha rk t0 q0 t1 q1 t2 q2 t3 q3 t4 q4 t5 q5 F) (hl : lv_has ls 12 [(3, .int (iI ee)), (2, .int (iI (fP F))), (1, .ref ob), (0, .ref b0)]) (hR : cells + 40 ≤ 600000 ∧ slots + 1000 ≤ 7300000) (kk : ∀ (H1 : Heap) (locs1 : List Loc) (ls1 : Array Slot) (F1 : FT), PL g (fun q => s.heap.size ≤ q) s.heap H1 locs1 ob tx tc ps b k1 k2 k3 k4 k5 k6 s1 i1 s2 i2 ho ha rk t0 q0 t1 q1 t2 q2 t3 q3 t4 q4 t5 q5 F1 → lv_has ls1 12 [(3, .int (iI (ee + 1))), (2, .int (iI (fP F1))), (1, .ref ob), (0, .ref b0)] → W p l e room_1 s m #[.ref b0] below meth c H1 locs1 (cells + 13) (slots + 378) Q (F0 m 13 ls1 [])) : W p l e room_1 s m #[.ref b0] below meth c H locs cells slots Q (F0 m 19 ls []) := by
  obtain ⟨Fam, r, S, tn, tf, n, f, hW, hI⟩ := hP
  refine law_a hC ee he ob tx tc ps b k1 k2 k3 k4 k5 k6 s1 i1 s2 i2 ho ha rk t0 q0 t1 q1 t2 q2 t3 q3 t4 q4 t5 q5 F Fam r S tn tf n f hI hW hl (by omega) ?_
  clear hW hI hl Fam r S tn tf n f
  intro H1 locs1 ls1 F1 gv aa bb Fam r S tn tf n f hW hI h61 hl
  have hov := lo_r (v := shr9 gv 8) (n := 2) (by omega)
  have hov2 : lo (shr9 gv 8) 2 = 1 ∨ lo (shr9 gv 8) 2 = 0 := by omega
  clear hov
  rcases hov2 with hov | hov
  · refine law_b0 hC ee he ob tx tc ps b k1 k2 k3 k4 k5 k6 s1 i1 s2 i2 ho ha rk t0 q0 t1 q1 t2 q2 t3 q3 t4 q4 t5 q5 F1 Fam r S tn tf n f gv (fP F) aa bb hI h61.2 hov hW hl (by omega) ?_
    clear hW hl
    intro H2 locs2 ls2 fu g1 g2 le nd tn2 tf2 hfu hle hnd htn hmt htf2 hW hl
    have o1 := ok_g g1
    have r1 := tN_r (lo (shr9 g1 12) 4)
    have o2 := ok_g g2
    have r2 := tN_r (lo (shr9 g2 12) 4)
    have hrd : ∀ (p x : Int) (cv ch : Nat → Int → Int) (B : BT), 0 < p → 0 ≤ x → (fe B tf2 tn2).2 = -1 ∧ GD p x cv ch (pB (fe B tf2 tn2).1) (tN (lo (shr9 g1 12) 4) + tN (lo (shr9 g2 12) 4) + 3) (opv (sgn (le = 1)) p (tP p x (lo (shr9 g1 12) 4) (lo g1 10) (lo (shr9 g1 4) 10) (lo (shr9 g1 8) 10)) (tP p x (lo (shr9 g2 12) 4) (lo g2 10) (lo (shr9 g2 4) 10) (lo (shr9 g2 8) 10))) := fun p x cv ch B hp hx => READ1 hp hx o1 o2 (sgn_r _).1 htn.1 hmt
    have hndr : nd = tN (lo (shr9 g1 12) 4) + tN (lo (shr9 g2 12) 4) + 3 := by omega
    have hI2 : INVp Fam F1 r S tn2 tf2 n f := ⟨hI.1, hI.2.1, hI.2.2.1, hI.2.2.2.1, ⟨by omega, htn.2⟩, htf2, hI.2.2.2.2.2.2⟩
    refine law_c hC ee he ob tx tc ps b k1 k2 k3 k4 k5 k6 s1 i1 s2 i2 ho ha rk t0 q0 t1 q1 t2 q2 t3 q3 t4 q4 t5 q5 F1 Fam r S tn2 tf2 n f fu nd aa bb (aR (fP F1) (lo (shr9 g1 12) 4) (lo g1 10) (lo (shr9 g1 4) 10) (lo (shr9 g1 8) 10) le (lo (shr9 g2 12) 4) (lo g2 10) (lo (shr9 g2 4) 10) (lo (shr9 g2 8) 10)) (r0 1) (opv (sgn (le = 1)) 2 (tP 2 0 (lo (shr9 g1 12) 4) (lo g1 10) (lo (shr9 g1 4) 10) (lo (shr9 g1 8) 10)) (tP 2 0 (lo (shr9 g2 12) 4) (lo g2 10) (lo (shr9 g2 4) 10) (lo (shr9 g2 8) 10))) hI2 hfu (by omega) (fun B => by rw [hndr]; exact hrd 2 0 _ _ B (by omega) (by omega)) hW hl (by omega) ?_
    clear hW hl hI2
    intro H3 locs3 ls3 F2 S2 r2 Fam2 n2 f2 hW hI3 hp2 hE hU hl
    have hG2 := hI3.1
    have hGD : ∀ x : Int, 0 ≤ x → GD (fP F2) x (vv (fP F2) (fE F2)) (hh (fP F2) (fE F2)) (pB (fe (pB (fe (pB S) tf2 tn2).1) tf2 tn2).1) (tN (lo (shr9 g1 12) 4) + tN (lo (shr9 g2 12) 4) + 3) (opv (sgn (le = 1)) (fP F2) (tP (fP F2) x (lo (shr9 g1 12) 4) (lo g1 10) (lo (shr9 g1 4) 10) (lo (shr9 g1 8) 10)) (tP (fP F2) x (lo (shr9 g2 12) 4) (lo g2 10) (lo (shr9 g2 4) 10) (lo (shr9 g2 8) 10))) := fun x hx => (hrd (fP F2) x _ _ _ (by omega) hx).2
    have hb0 := hGD 0 (by omega)
    have hV : ∀ x, 0 ≤ x → x < fP F2 → vv (fP F2) (fE F2) fu.toNat x = lvV (fP F2) (aR (fP F1) (lo (shr9 g1 12) 4) (lo g1 10) (lo (shr9 g1 4) 10) (lo (shr9 g1 8) 10) le (lo (shr9 g2 12) 4) (lo g2 10) (lo (shr9 g2 4) 10) (lo (shr9 g2 8) 10)) (r0 1) x := by
      intro x h1 h2
      rw [vv_eq (by omega) (hG2.2 _ (by omega)), hE, (hGD x h1).2.2.2.2.1, ← hp2]
      exact (AG1 o1 o2 hle (by omega)).1.symm
    have hH : ∀ x, 0 ≤ x → x < fP F2 → hh (fP F2) (fE F2) fu.toNat x = lsS (fP F2) (aR (fP F1) (lo (shr9 g1 12) 4) (lo g1 10) (lo (shr9 g1 4) 10) (lo (shr9 g1 8) 10) le (lo (shr9 g2 12) 4) (lo g2 10) (lo (shr9 g2 4) 10) (lo (shr9 g2 8) 10)) (r0 1) x := by
      intro x h1 h2
      rw [hh_eq (by omega) (hG2.2 _ (by omega))]
      unfold hf
      rw [hE, (hGD x h1).2.2.2.2.2, ← hp2]
      exact (AG1 o1 o2 hle (by omega)).2.symm
    have hen : ((eN (fE F2 fu.toNat) : Nat) : Int) = nd := by
      rw [hE]
      show (((bN (pB (fe (pB (fe (pB S) tf2 tn2).1) tf2 tn2).1)).toNat : Nat) : Int) = nd
      have := hb0.2.2.1
      omega
    have hnu : fU F2 fu.toNat ≤ nd := by
      rw [hU, hndr, ← hb0.2.2.1]
      exact nUn_le (by have := hb0.2.2.1; omega)
    have hnu2 : 0 ≤ fU F2 fu.toNat := by
      rw [hU]
      exact nUn_nn _
    rw [← hp2] at hl
    refine law_d hC ee he ob tx tc ps b k1 k2 k3 k4 k5 k6 s1 i1 s2 i2 ho ha rk t0 q0 t1 q1 t2 q2 t3 q3 t4 q4 t5 q5 F2 Fam2 r2 S2 tn2 tf2 n2 f2 fu nd aa bb (aR (fP F1) (lo (shr9 g1 12) 4) (lo g1 10) (lo (shr9 g1 4) 10) (lo (shr9 g1 8) 10) le (lo (shr9 g2 12) 4) (lo g2 10) (lo (shr9 g2 4) 10) (lo (shr9 g2 8) 10)) (r0 1) hI3 hfu (by omega) ⟨hen, by omega⟩ ⟨hnu, by omega⟩ (by rw [hp2]; exact aR_rng (by omega)) (by rw [hp2]; exact r1_rng (by omega)) hV hH hW hl (by omega) ?_
    clear hW hl
    intro H4 locs4 ls4 r4 hW hr4 hl
    refine W.widen (k := cells + 13) (n := slots + 378) (by omega) (by omega) ?_
    exact kk H4 locs4 ls4 F2 ⟨Fam2, r4, S2, tn2, tf2, n2, f2, hW, hI3.1, hI3.2.1, hr4, hI3.2.2.2⟩ hl
  · refine law_b1 hC ee he ob tx tc ps b k1 k2 k3 k4 k5 k6 s1 i1 s2 i2 ho ha rk t0 q0 t1 q1 t2 q2 t3 q3 t4 q4 t5 q5 F1 Fam r S tn tf n f gv (fP F) aa bb hI h61.2 hov hW hl (by omega) ?_
    clear hW hl
    intro H2 locs2 ls2 fu g1 g2 g3 le nd tn2 tf2 hfu hle hnd htn hmt htf2 hW hl
    have o1 := ok_g g1
    have r1 := tN_r (lo (shr9 g1 12) 4)
    have o2 := ok_g g2
    have r2 := tN_r (lo (shr9 g2 12) 4)
    have o3 := ok_g g3
    have r3 := tN_r (lo (shr9 g3 12) 4)
    have hrd : ∀ (p x : Int) (cv ch : Nat → Int → Int) (B : BT), 0 < p → 0 ≤ x → (fe B tf2 tn2).2 = -1 ∧ GD p x cv ch (pB (fe B tf2 tn2).1) (tN (lo (shr9 g1 12) 4) + tN (lo (shr9 g2 12) 4) + tN (lo (shr9 g3 12) 4) + 5) (dvp p (opv (sgn (le = 1)) p (tP p x (lo (shr9 g1 12) 4) (lo g1 10) (lo (shr9 g1 4) 10) (lo (shr9 g1 8) 10)) (tP p x (lo (shr9 g2 12) 4) (lo g2 10) (lo (shr9 g2 4) 10) (lo (shr9 g2 8) 10))) (tP p x (lo (shr9 g3 12) 4) (lo g3 10) (lo (shr9 g3 4) 10) (lo (shr9 g3 8) 10))) := fun p x cv ch B hp hx => READ2 hp hx o1 o2 o3 (sgn_r _).1 htn.1 hmt
    have hndr : nd = tN (lo (shr9 g1 12) 4) + tN (lo (shr9 g2 12) 4) + tN (lo (shr9 g3 12) 4) + 5 := by omega
    have hI2 : INVp Fam F1 r S tn2 tf2 n f := ⟨hI.1, hI.2.1, hI.2.2.1, hI.2.2.2.1, ⟨by omega, htn.2⟩, htf2, hI.2.2.2.2.2.2⟩
    refine law_c hC ee he ob tx tc ps b k1 k2 k3 k4 k5 k6 s1 i1 s2 i2 ho ha rk t0 q0 t1 q1 t2 q2 t3 q3 t4 q4 t5 q5 F1 Fam r S tn2 tf2 n f fu nd aa bb (aR (fP F1) (lo (shr9 g1 12) 4) (lo g1 10) (lo (shr9 g1 4) 10) (lo (shr9 g1 8) 10) le (lo (shr9 g2 12) 4) (lo g2 10) (lo (shr9 g2 4) 10) (lo (shr9 g2 8) 10)) (bR (fP F1) (lo (shr9 g3 12) 4) (lo g3 10) (lo (shr9 g3 4) 10) (lo (shr9 g3 8) 10)) (dvp 2 (opv (sgn (le = 1)) 2 (tP 2 0 (lo (shr9 g1 12) 4) (lo g1 10) (lo (shr9 g1 4) 10) (lo (shr9 g1 8) 10)) (tP 2 0 (lo (shr9 g2 12) 4) (lo g2 10) (lo (shr9 g2 4) 10) (lo (shr9 g2 8) 10))) (tP 2 0 (lo (shr9 g3 12) 4) (lo g3 10) (lo (shr9 g3 4) 10) (lo (shr9 g3 8) 10))) hI2 hfu (by omega) (fun B => by rw [hndr]; exact hrd 2 0 _ _ B (by omega) (by omega)) hW hl (by omega) ?_
    clear hW hl hI2
    intro H3 locs3 ls3 F2 S2 r2 Fam2 n2 f2 hW hI3 hp2 hE hU hl
    have hG2 := hI3.1
    have hGD : ∀ x : Int, 0 ≤ x → GD (fP F2) x (vv (fP F2) (fE F2)) (hh (fP F2) (fE F2)) (pB (fe (pB (fe (pB S) tf2 tn2).1) tf2 tn2).1) (tN (lo (shr9 g1 12) 4) + tN (lo (shr9 g2 12) 4) + tN (lo (shr9 g3 12) 4) + 5) (dvp (fP F2) (opv (sgn (le = 1)) (fP F2) (tP (fP F2) x (lo (shr9 g1 12) 4) (lo g1 10) (lo (shr9 g1 4) 10) (lo (shr9 g1 8) 10)) (tP (fP F2) x (lo (shr9 g2 12) 4) (lo g2 10) (lo (shr9 g2 4) 10) (lo (shr9 g2 8) 10))) (tP (fP F2) x (lo (shr9 g3 12) 4) (lo g3 10) (lo (shr9 g3 4) 10) (lo (shr9 g3 8) 10))) := fun x hx => (hrd (fP F2) x _ _ _ (by omega) hx).2
    have hb0 := hGD 0 (by omega)
    have hV : ∀ x, 0 ≤ x → x < fP F2 → vv (fP F2) (fE F2) fu.toNat x = lvV (fP F2) (aR (fP F1) (lo (shr9 g1 12) 4) (lo g1 10) (lo (shr9 g1 4) 10) (lo (shr9 g1 8) 10) le (lo (shr9 g2 12) 4) (lo g2 10) (lo (shr9 g2 4) 10) (lo (shr9 g2 8) 10)) (bR (fP F1) (lo (shr9 g3 12) 4) (lo g3 10) (lo (shr9 g3 4) 10) (lo (shr9 g3 8) 10)) x := by
      intro x h1 h2
      rw [vv_eq (by omega) (hG2.2 _ (by omega)), hE, (hGD x h1).2.2.2.2.1, ← hp2]
      exact (AG2 o1 o2 o3 hle (by omega)).1.symm
    have hH : ∀ x, 0 ≤ x → x < fP F2 → hh (fP F2) (fE F2) fu.toNat x = lsS (fP F2) (aR (fP F1) (lo (shr9 g1 12) 4) (lo g1 10) (lo (shr9 g1 4) 10) (lo (shr9 g1 8) 10) le (lo (shr9 g2 12) 4) (lo g2 10) (lo (shr9 g2 4) 10) (lo (shr9 g2 8) 10)) (bR (fP F1) (lo (shr9 g3 12) 4) (lo g3 10) (lo (shr9 g3 4) 10) (lo (shr9 g3 8) 10)) x := by
      intro x h1 h2
      rw [hh_eq (by omega) (hG2.2 _ (by omega))]
      unfold hf
      rw [hE, (hGD x h1).2.2.2.2.2, ← hp2]
      exact (AG2 o1 o2 o3 hle (by omega)).2.symm
    have hen : ((eN (fE F2 fu.toNat) : Nat) : Int) = nd := by
      rw [hE]
      show (((bN (pB (fe (pB (fe (pB S) tf2 tn2).1) tf2 tn2).1)).toNat : Nat) : Int) = nd
      have := hb0.2.2.1
      omega
    have hnu : fU F2 fu.toNat ≤ nd := by
      rw [hU, hndr, ← hb0.2.2.1]
      exact nUn_le (by have := hb0.2.2.1; omega)
    have hnu2 : 0 ≤ fU F2 fu.toNat := by
      rw [hU]
      exact nUn_nn _
    rw [← hp2] at hl
    refine law_d hC ee he ob tx tc ps b k1 k2 k3 k4 k5 k6 s1 i1 s2 i2 ho ha rk t0 q0 t1 q1 t2 q2 t3 q3 t4 q4 t5 q5 F2 Fam2 r2 S2 tn2 tf2 n2 f2 fu nd aa bb (aR (fP F1) (lo (shr9 g1 12) 4) (lo g1 10) (lo (shr9 g1 4) 10) (lo (shr9 g1 8) 10) le (lo (shr9 g2 12) 4) (lo g2 10) (lo (shr9 g2 4) 10) (lo (shr9 g2 8) 10)) (bR (fP F1) (lo (shr9 g3 12) 4) (lo g3 10) (lo (shr9 g3 4) 10) (lo (shr9 g3 8) 10)) hI3 hfu (by omega) ⟨hen, by omega⟩ ⟨hnu, by omega⟩ (by rw [hp2]; exact aR_rng (by omega)) (by rw [hp2]; exact bR_rng (by omega)) hV hH hW hl (by omega) ?_
    clear hW hl
    intro H4 locs4 ls4 r4 hW hr4 hl
    refine W.widen (k := cells + 13) (n := slots + 378) (by omega) (by omega) ?_
    exact kk H4 locs4 ls4 F2 ⟨Fam2, r4, S2, tn2, tf2, n2, f2, hW, hI3.1, hI3.2.1, hr4, hI3.2.2.2⟩ hl
/-- the loop: fourteen turns -/
theorem law_loop {p : Program} {l : Launch} {e : Env} {s : State} {m : MethodId} {below : List Frame} {meth : Method} {c : Code} {Q : State → Prop} {g : GG} {b0 L : Nat} {xs : Nat → Int32} (hC : LC p l s m b0 L xs meth c g)
    (hend : ∀ (H : Heap) (locs : List Loc) (ls : Array Slot) (cells slots : Nat), va_S (fun q => s.heap.size ≤ q) s.heap H locs → cells ≤ 600000 → slots ≤ 7300000 → W p l e room_1 s m #[.ref b0] below meth c H locs cells slots Q (F0 m 319 ls [])) :
    ∀ (k : Nat) (ee : Int) (H : Heap) (locs : List Loc) (ls : Array Slot) (cells slots : Nat) (ob tx tc ps b k1 k2 k3 k4 k5 k6 s1 i1 s2 i2 ho ha rk t0 q0 t1 q1 t2 q2 t3 q3 t4 q4 t5 q5 : Nat) (F : FT), 0 ≤ ee → ee + k = 14 → cells + 13 * k + 40 ≤ 600000 → slots + 378 * k + 1000 ≤ 7300000 → PL g (fun q => s.heap.size ≤ q) s.heap H locs ob tx tc ps b k1 k2 k3 k4 k5 k6 s1 i1 s2 i2 ho ha rk t0 q0 t1 q1 t2 q2 t3 q3 t4 q4 t5 q5 F → lv_has ls 12 [(3, .int (iI ee)), (2, .int (iI (fP F))), (1, .ref ob), (0, .ref b0)] → W p l e room_1 s m #[.ref b0] below meth c H locs cells slots Q (F0 m 13 ls []) := by
  have S0 := hC.1
  intro k
  induction k with
  | zero =>
    intro ee H locs ls cells slots ob tx tc ps b k1 k2 k3 k4 k5 k6 s1 i1 s2 i2 ho ha rk t0 q0 t1 q1 t2 q2 t3 q3 t4 q4 t5 q5 F h0 hk hc hs hP hl
    refine lv_iload_n S0.1 S0.2.1 dL_law_13 rfl (lv_at hl 0 rfl) ?_
    refine q_bipush S0 (by decide) dL_law_14 ?_
    refine q_icmp_ge (tgt := 319) S0 (by omega) dL_law_16 (by decide) (fun c16 => ?_) (fun c16 => absurd c16 (by omega))
    obtain ⟨Fam, r, S, tn, tf, n, f, hW, hI⟩ := hP
    exact hend H locs ls cells slots hW.1.2.2 (by omega) (by omega)
  | succ k ih =>
    intro ee H locs ls cells slots ob tx tc ps b k1 k2 k3 k4 k5 k6 s1 i1 s2 i2 ho ha rk t0 q0 t1 q1 t2 q2 t3 q3 t4 q4 t5 q5 F h0 hk hc hs hP hl
    refine lv_iload_n S0.1 S0.2.1 dL_law_13 rfl (lv_at hl 0 rfl) ?_
    refine q_bipush S0 (by decide) dL_law_14 ?_
    refine q_icmp_ge (tgt := 319) S0 (by omega) dL_law_16 (by decide) (fun c16 => absurd c16 (by omega)) (fun c16 => ?_)
    refine law_turn hC ee (by omega) ob tx tc ps b k1 k2 k3 k4 k5 k6 s1 i1 s2 i2 ho ha rk t0 q0 t1 q1 t2 q2 t3 q3 t4 q4 t5 q5 F hP hl (by omega) (fun H1 locs1 ls1 F1 hP1 hl1 => ?_)
    exact ih (ee + 1) H1 locs1 ls1 (cells + 13) (slots + 378) ob tx tc ps b k1 k2 k3 k4 k5 k6 s1 i1 s2 i2 ho ha rk t0 q0 t1 q1 t2 q2 t3 q3 t4 q4 t5 q5 F1 (by omega) (by omega) (by omega) (by omega) hP1 hl1
