/-! the law's first steps -/
def F00 (st rm x a1 a2 a3 a4 : Nat) : FT := (st, rm, fun _ => x, fun _ => kq a1 a2 a3 a4, fun _ => E0, fun _ => 1, fun _ => 1, fun _ => 0, 97)
theorem PRM_97 : PRM 97 := prU_PRM (by decide +kernel) (by decide)
theorem E0_wf (f : Nat) : WFE E0 f := by
  have e : eN E0 = 1 := rfl
  refine ⟨by rw [e]; omega, fun k hk => ?_, fun j hj => ?_⟩
  · rw [e] at hk
    rw [show k = 0 by omega]
    exact Or.inr (Or.inl ⟨rfl, rfl, rfl, rfl⟩)
  · rw [e] at hj
    omega
theorem bnd_00 : bnd (fun _ => 0) := by
  intro j
  dsimp only
  omega
theorem WFB_00 : WFB (pB P0) := by
  refine ⟨by decide, fun i hi => ?_, fun j => ?_, fun j => ?_, bnd_00, bnd_00, bnd_00, bnd_00, bnd_00⟩
  · have h0 : (i : Int) < 0 := hi
    omega
  · show (0 : Int) ≤ 0 ∧ (0 : Int) ≤ j + 1
    omega
  · show (0 : Int) ≤ 0 ∧ (0 : Int) ≤ 999
    omega
theorem INV_00 {st rm x a1 a2 a3 a4 : Nat} {f : Nat → Option Nat} {a b c d e h : Nat → Int} : INVp (fun G => G = F00 st rm x a1 a2 a3 a4) (F00 st rm x a1 a2 a3 a4) (mkR (fillf 796 (-2) a) (fillf 796 (-2) b) (fillf 796 (-2) c) d e h) P0 0 (fun _ => 0) 0 f :=
  ⟨⟨PRM_97, fun f _ => E0_wf f⟩, rfl, RI_fresh (by show (97 : Int) ≤ 199; decide), WFB_00, by decide, fun _ => by show (0 : Int) ≤ 0 ∧ (0 : Int) < 65536; decide, by decide, fun k hk => by omega⟩

set_option maxHeartbeats 4000000 in
set_option maxRecDepth 100000 in
theorem law_pro {p : Program} {l : Launch} {e : Env} {s : State} {m : MethodId} {below : List Frame} {meth : Method} {c : Code} {Q : State → Prop} {ls : Array Slot} {g : GG} {b0 L : Nat} {xs : Nat → Int32} (hC : LC p l s m b0 L xs meth c g) (hl : lv_has ls 12 [(0, .ref b0)]) (kk : ∀ (H1 : Heap) (locs1 : List Loc) (ls1 : Array Slot) (ob tx tc ps b k1 k2 k3 k4 k5 k6 s1 i1 s2 i2 ho ha rk t0 q0 t1 q1 t2 q2 t3 q3 t4 q4 t5 q5 : Nat) (F : FT), PL g (fun q => s.heap.size ≤ q) s.heap H1 locs1 ob tx tc ps b k1 k2 k3 k4 k5 k6 s1 i1 s2 i2 ho ha rk t0 q0 t1 q1 t2 q2 t3 q3 t4 q4 t5 q5 F → lv_has ls1 12 [(3, .int (iI 0)), (2, .int (iI (fP F))), (1, .ref ob), (0, .ref b0)] → W p l e room_1 s m #[.ref b0] below meth c H1 locs1 37 3295 Q (F0 m 13 ls1 [])) : W p l e room_1 s m #[.ref b0] below meth c s.heap [] 0 0 Q (F0 m 0 ls []) := by
  have S0 := hC.1
  have hK := hC.2.2.2.2.1
  have hA : ∀ q : Nat, s.heap.size ≤ q → (fun q : Nat => s.heap.size ≤ q) q := fun _ h => h
  have hinX10 := inlX10
  have hW : gW g (fun q : Nat => s.heap.size ≤ q) s.heap s.heap [] [] := ⟨fun k q hk => by simp at hk, ⟨fun i j p q hi => by simp at hi, fun k q hk => by simp at hk⟩, va_S.rf⟩
  refine q_new (C := RX10) (T := TX10) (N := 5) (ci := 10) (fs := [.null, .null, .null, .null, .null]) S0 hK hA hW hinX10 tyX10_ok (List.mem_of_getElem? (i := 0) rfl) (List.mem_of_getElem? (i := 1) rfl) (List.mem_of_getElem? (i := 2) rfl) rfl (fun j hj => by match j, hj with | 0, _ => rfl | 1, _ => rfl | 2, _ => rfl | 3, _ => rfl | 4, _ => rfl | j + 5, hj => exact absurd hj (by omega)) (Nat.le_of_ble_eq_true rfl) (Nat.le_of_ble_eq_true rfl) dL_law_0 (fun ob H hW => ?_)
  have hW : gW g (fun q => s.heap.size ≤ q) s.heap H _ [(ob, .inr (10, [.null, .null, .null, .null, .null]))] := hW
  refine lv_dup S0.1 S0.2.1 dL_law_3 rfl ?_
  refine q_cI (n := 0) (rest := [.ref ob]) (wr := []) S0 hK hA hW (c_X10_init l g ob) gL_law_X10_init rfl rfl rfl (List.mem_of_getElem? (i := 4) rfl) (List.mem_of_getElem? (i := 2) rfl) (List.mem_of_getElem? (i := 5) rfl) rfl (by decide +kernel) ⟨Nat.le_of_ble_eq_true rfl, Nat.le_of_ble_eq_true rfl⟩ [0] [] rfl rfl rfl rfl (by decide) (fun _ _ => trivial) (trivial) rfl rfl hl.1 (Nat.le_of_ble_eq_true rfl) ⟨Nat.le_of_ble_eq_true rfl, Nat.le_of_ble_eq_true rfl⟩ dL_law_4 ?_
  rintro ⟨tx, tc, ps, b, k1, k2, k3, k4, k5, k6, s1, i1, s2, i2, ho, ha, rk, t0, q0, t1, q1, t2, q2, t3, q3, t4, q4, t5, q5, st, rm, xk, c1, c2, c3, c4⟩ H locs _ hW
  have hW : gW g (fun q => s.heap.size ≤ q) s.heap H _ [(ob, .inr (10, [.ref tx, .ref ps, .ref ho, .ref rk, .null])), (tx, .inr (9, [.ref tc, .int (iI 0)])), (tc, gC g 40 (fun _ => 0)), (ps, .inr (4, [.ref b, .int (iI (pA P0)), .int (iI (pO P0)), .int (iI (pM P0))])), (b, .inr (0, [.ref k1, .ref k2, .ref k3, .ref k4, .ref k5, .ref k6, .int (iI (bN (pB P0))), .int (iI (bZ (pB P0))), .ref s1, .ref s2])), (k1, gI g 40 (bK (pB P0))), (k2, gI g 40 (bU (pB P0))), (k3, gI g 40 (bL (pB P0))), (k4, gI g 40 (bV (pB P0))), (k5, gI g 40 (bD (pB P0))), (k6, gI g 40 (bE (pB P0))), (s1, .inr (3, [.ref i1, .int (iI (lP (pB P0)))])), (i1, gI g 40 (lQ (pB P0))), (s2, .inr (3, [.ref i2, .int (iI (wP (pB P0)))])), (i2, gI g 40 (wQ (pB P0))), (ho, .inr (2, [.ref ha, .int (iI 0)])), (ha, gR g 4 (fun _ => none)), (rk, .inr (5, [.ref t0, .ref t1, .ref t2, .ref t3, .ref t4, .ref t5, .ref st])), (t0, .inr (8, [.int (iI 199), .ref q0])), (q0, gI g 796 (rV ((mkR (fillf 796 (-2) (fun _ => 0)) (fillf 796 (-2) (fun _ => 0)) (fillf 796 (-2) (fun _ => 0)) (fun _ => 0) (fun _ => 0) (fun _ => 0))))), (t1, .inr (8, [.int (iI 199), .ref q1])), (q1, gI g 796 (rH ((mkR (fillf 796 (-2) (fun _ => 0)) (fillf 796 (-2) (fun _ => 0)) (fillf 796 (-2) (fun _ => 0)) (fun _ => 0) (fun _ => 0) (fun _ => 0))))), (t2, .inr (8, [.int (iI 199), .ref q2])), (q2, gI g 796 (rR ((mkR (fillf 796 (-2) (fun _ => 0)) (fillf 796 (-2) (fun _ => 0)) (fillf 796 (-2) (fun _ => 0)) (fun _ => 0) (fun _ => 0) (fun _ => 0))))), (t3, .inr (8, [.int (iI 40), .ref q3])), (q3, gI g 160 (nV ((mkR (fillf 796 (-2) (fun _ => 0)) (fillf 796 (-2) (fun _ => 0)) (fillf 796 (-2) (fun _ => 0)) (fun _ => 0) (fun _ => 0) (fun _ => 0))))), (t4, .inr (8, [.int (iI 40), .ref q4])), (q4, gI g 160 (nS ((mkR (fillf 796 (-2) (fun _ => 0)) (fillf 796 (-2) (fun _ => 0)) (fillf 796 (-2) (fun _ => 0)) (fun _ => 0) (fun _ => 0) (fun _ => 0))))), (t5, .inr (8, [.int (iI 40), .ref q5])), (q5, gI g 160 (nW ((mkR (fillf 796 (-2) (fun _ => 0)) (fillf 796 (-2) (fun _ => 0)) (fillf 796 (-2) (fun _ => 0)) (fun _ => 0) (fun _ => 0) (fun _ => 0))))), (st, .inr (7, [.ref rm, .ref xk, .ref xk, .ref xk, .ref xk])), (rm, .inr (6, [.int (iI 97)])), (xk, .inr (1, [.ref c1, .ref c2, .ref c3, .ref c4, .int (iI 1), .int (iI 1), .int (iI 0)])), (c1, gI g 1 (eK E0)), (c2, gI g 1 (eU E0)), (c3, gI g 1 (eL E0)), (c4, gI g 1 (eV E0))] := hW
  refine W.eq (g2 := F0 m 7 ls [.ref ob]) rfl ?_
  refine lv_astore_n (lv' := [(1, .ref ob), (0, .ref b0)]) S0.1 S0.2.1 dL_law_7 rfl hl (by decide) rfl (fun ls hl => ?_)
  refine q_bipush S0 (by decide) dL_law_8 ?_
  refine lv_istore_n (lv' := [(2, .int (iI 97)), (1, .ref ob), (0, .ref b0)]) S0.1 S0.2.1 dL_law_10 rfl hl (by decide) rfl (fun ls hl => ?_)
  refine q_iconst S0 dL_law_11 ?_
  refine lv_istore_n (lv' := [(3, .int (iI 0)), (2, .int (iI 97)), (1, .ref ob), (0, .ref b0)]) S0.1 S0.2.1 dL_law_12 rfl hl (by decide) rfl (fun ls hl => ?_)
  refine W.widen (k := 37) (n := 3295) (Nat.le_of_ble_eq_true rfl) (Nat.le_of_ble_eq_true rfl) ?_
  exact kk _ _ ls ob tx tc ps b k1 k2 k3 k4 k5 k6 s1 i1 s2 i2 ho ha rk t0 q0 t1 q1 t2 q2 t3 q3 t4 q4 t5 q5 (F00 st rm xk c1 c2 c3 c4) ⟨(fun G => G = F00 st rm xk c1 c2 c3 c4), (mkR (fillf 796 (-2) (fun _ => 0)) (fillf 796 (-2) (fun _ => 0)) (fillf 796 (-2) (fun _ => 0)) (fun _ => 0) (fun _ => 0) (fun _ => 0)), P0, 0, (fun _ => 0), 0, (fun _ => none), gLw_first (wn := [(st, .inr (7, [.ref rm, .ref xk, .ref xk, .ref xk, .ref xk])), (rm, .inr (6, [.int (iI 97)])), (xk, .inr (1, [.ref c1, .ref c2, .ref c3, .ref c4, .int (iI 1), .int (iI 1), .int (iI 0)])), (c1, gI g 1 (eK E0)), (c2, gI g 1 (eU E0)), (c3, gI g 1 (eL E0)), (c4, gI g 1 (eV E0))]) (F' := F00 st rm xk c1 c2 c3 c4) hW [0, 1, 2, 3, 4, 5, 6, 7, 8, 9, 10, 11, 12, 13, 14, 15, 16, 17, 18, 19, 20, 21, 22, 23, 24, 25, 26, 27, 28, 29] [30, 31, 32, 33, 34, 35, 36] rfl rfl rfl (by decide) (⟨subP hW.1 [30, 31] rfl, fun f _ => subP hW.1 [32, 33, 34, 35, 36] rfl⟩) (fun q h => by rcases h with rfl | rfl | ⟨f, -, h⟩; exact ⟨_, List.mem_of_getElem? (i := 0) rfl⟩; exact ⟨_, List.mem_of_getElem? (i := 1) rfl⟩; rcases h with rfl | rfl | rfl | rfl | rfl; exact ⟨_, List.mem_of_getElem? (i := 2) rfl⟩; exact ⟨_, List.mem_of_getElem? (i := 3) rfl⟩; exact ⟨_, List.mem_of_getElem? (i := 4) rfl⟩; exact ⟨_, List.mem_of_getElem? (i := 5) rfl⟩; exact ⟨_, List.mem_of_getElem? (i := 6) rfl⟩), INV_00⟩ (lv_sub hl [0, 1, 2, 3] rfl)
