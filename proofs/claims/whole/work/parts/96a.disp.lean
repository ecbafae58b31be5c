theorem dk_define {p : Program} {l : Launch} {e : Env} {s : State} {m : MethodId} {below : List Frame} {meth : Method} {c : Code} {H : Heap} {locs : List Loc} {cells slots : Nat} {Q : State → Prop} {ls : Array Slot} {g : GG} {b0 L : Nat} {xs : Nat → Int32} (hC : LC p l s m b0 L xs meth c g) {i : Int} (hi : 0 ≤ i ∧ i + 4 ≤ L) (ob tx tc ps b k1 k2 k3 k4 k5 k6 s1 i1 s2 i2 ho ha rk t0 q0 t1 q1 t2 q2 t3 q3 t4 q4 t5 q5 mo az ap ak ax a1 a2 a3 a4 a5 a6 v1 v2 v3 v4 v5 v6 o9 : Nat) (hI : LInv g (fun q => s.heap.size ≤ q) s.heap H locs ob tx tc ps b k1 k2 k3 k4 k5 k6 s1 i1 s2 i2 ho ha rk t0 q0 t1 q1 t2 q2 t3 q3 t4 q4 t5 q5 mo az ap ak ax a1 a2 a3 a4 a5 a6 v1 v2 v3 v4 v5 v6 o9) (hl : lv_has ls 7 [(4, .int (iI i)), (3, .ref o9), (2, .ref mo), (1, .ref ob), (0, .ref b0)]) (hR : cells + 7 ≤ 600000 ∧ slots + 200 ≤ 7290000) (kk : ∀ (H1 : Heap) (locs1 : List Loc) (ls1 : Array Slot), LInv g (fun q => s.heap.size ≤ q) s.heap H1 locs1 ob tx tc ps b k1 k2 k3 k4 k5 k6 s1 i1 s2 i2 ho ha rk t0 q0 t1 q1 t2 q2 t3 q3 t4 q4 t5 q5 mo az ap ak ax a1 a2 a3 a4 a5 a6 v1 v2 v3 v4 v5 v6 o9 → lv_has ls1 7 [(4, .int (iI i)), (3, .ref o9), (2, .ref mo), (1, .ref ob), (0, .ref b0)] → W p l e room_1 s m #[.ref b0] below meth c H1 locs1 (cells + 7) (slots + 200) Q (F0 m 1562 ls1 [])) : W p l e room_1 s m #[.ref b0] below meth c H locs cells slots Q (F0 m 160 ls []) := by
  obtain ⟨Fam, F, r, S, tn, tf, n, f, Fh, so, ik, th, bn, N, Z, P, Kp, K, o, hW, hI⟩ := hI
  obtain ⟨-, -, -, -, ht, -, hHR, hSN, -, -⟩ := id hI
  have hn4 := hHR.1
  obtain ⟨u, hxu⟩ : ∃ z : Int, (xs (i + 1).toNat).toInt = z := ⟨_, rfl⟩
  by_cases hu : 0 ≤ u ∧ u < 4
  · skip
    by_cases hv : (fe (pB S) tf tn).2 = -1
    · skip
      by_cases hle : bZ (pB (fe (pB S) tf tn).1) ≤ u
      · skip
        by_cases hn3 : n < 4
        · skip
          exact lk_define_0 hC hi ob tx tc ps b k1 k2 k3 k4 k5 k6 s1 i1 s2 i2 ho ha rk t0 q0 t1 q1 t2 q2 t3 q3 t4 q4 t5 q5 mo az ap ak ax a1 a2 a3 a4 a5 a6 v1 v2 v3 v4 v5 v6 o9 Fam F r S tn tf n f Fh so ik th bn N Z P Kp K o u hI hxu hu hv hle hn3 hW hl hR kk
        · skip
          have hn9 : n = 4 := by omega
          subst hn9
          exact lk_define_04 hC hi ob tx tc ps b k1 k2 k3 k4 k5 k6 s1 i1 s2 i2 ho ha rk t0 q0 t1 q1 t2 q2 t3 q3 t4 q4 t5 q5 mo az ap ak ax a1 a2 a3 a4 a5 a6 v1 v2 v3 v4 v5 v6 o9 Fam F r S tn tf f Fh so ik th bn N Z P Kp K o u hI hxu hu hv hle hW hl hR kk
      · skip
        exact lk_define_3 hC hi ob tx tc ps b k1 k2 k3 k4 k5 k6 s1 i1 s2 i2 ho ha rk t0 q0 t1 q1 t2 q2 t3 q3 t4 q4 t5 q5 mo az ap ak ax a1 a2 a3 a4 a5 a6 v1 v2 v3 v4 v5 v6 o9 Fam F r S tn tf n f Fh so ik th bn N Z P Kp K o u hI hxu hu hv (by omega) hW hl hR kk
    · skip
      exact lk_define_2 hC hi ob tx tc ps b k1 k2 k3 k4 k5 k6 s1 i1 s2 i2 ho ha rk t0 q0 t1 q1 t2 q2 t3 q3 t4 q4 t5 q5 mo az ap ak ax a1 a2 a3 a4 a5 a6 v1 v2 v3 v4 v5 v6 o9 Fam F r S tn tf n f Fh so ik th bn N Z P Kp K o u hI hxu hu hv hW hl hR kk
  · skip
    exact lk_define_1 hC hi ob tx tc ps b k1 k2 k3 k4 k5 k6 s1 i1 s2 i2 ho ha rk t0 q0 t1 q1 t2 q2 t3 q3 t4 q4 t5 q5 mo az ap ak ax a1 a2 a3 a4 a5 a6 v1 v2 v3 v4 v5 v6 o9 Fam F r S tn tf n f Fh so ik th bn N Z P Kp K o u hI hxu (by omega) hW hl hR kk
theorem dk_copy {p : Program} {l : Launch} {e : Env} {s : State} {m : MethodId} {below : List Frame} {meth : Method} {c : Code} {H : Heap} {locs : List Loc} {cells slots : Nat} {Q : State → Prop} {ls : Array Slot} {g : GG} {b0 L : Nat} {xs : Nat → Int32} (hC : LC p l s m b0 L xs meth c g) {i : Int} (hi : 0 ≤ i ∧ i + 4 ≤ L) (ob tx tc ps b k1 k2 k3 k4 k5 k6 s1 i1 s2 i2 ho ha rk t0 q0 t1 q1 t2 q2 t3 q3 t4 q4 t5 q5 mo az ap ak ax a1 a2 a3 a4 a5 a6 v1 v2 v3 v4 v5 v6 o9 : Nat) (hI : LInv g (fun q => s.heap.size ≤ q) s.heap H locs ob tx tc ps b k1 k2 k3 k4 k5 k6 s1 i1 s2 i2 ho ha rk t0 q0 t1 q1 t2 q2 t3 q3 t4 q4 t5 q5 mo az ap ak ax a1 a2 a3 a4 a5 a6 v1 v2 v3 v4 v5 v6 o9) (hl : lv_has ls 7 [(4, .int (iI i)), (3, .ref o9), (2, .ref mo), (1, .ref ob), (0, .ref b0)]) (hR : cells + 7 ≤ 600000 ∧ slots + 200 ≤ 7290000) (kk : ∀ (H1 : Heap) (locs1 : List Loc) (ls1 : Array Slot), LInv g (fun q => s.heap.size ≤ q) s.heap H1 locs1 ob tx tc ps b k1 k2 k3 k4 k5 k6 s1 i1 s2 i2 ho ha rk t0 q0 t1 q1 t2 q2 t3 q3 t4 q4 t5 q5 mo az ap ak ax a1 a2 a3 a4 a5 a6 v1 v2 v3 v4 v5 v6 o9 → lv_has ls1 7 [(4, .int (iI i)), (3, .ref o9), (2, .ref mo), (1, .ref ob), (0, .ref b0)] → W p l e room_1 s m #[.ref b0] below meth c H1 locs1 (cells + 7) (slots + 200) Q (F0 m 1562 ls1 [])) : W p l e room_1 s m #[.ref b0] below meth c H locs cells slots Q (F0 m 216 ls []) := by
  obtain ⟨Fam, F, r, S, tn, tf, n, f, Fh, so, ik, th, bn, N, Z, P, Kp, K, o, hW, hI⟩ := hI
  obtain ⟨-, -, -, -, ht, -, hHR, hSN, -, -⟩ := id hI
  have hn4 := hHR.1
  obtain ⟨u, hxu⟩ : ∃ z : Int, (xs (i + 1).toNat).toInt = z := ⟨_, rfl⟩
  obtain ⟨w, hxw⟩ : ∃ z : Int, (xs (i + 2).toNat).toInt = z := ⟨_, rfl⟩
  by_cases hu : 0 ≤ u ∧ u < 4
  · skip
    by_cases hw : 0 ≤ w ∧ w < 4
    · skip
      by_cases hle : fL F w.toNat ≤ u
      · skip
        by_cases hn3 : n < 4
        · skip
          exact lk_copy_0 hC hi ob tx tc ps b k1 k2 k3 k4 k5 k6 s1 i1 s2 i2 ho ha rk t0 q0 t1 q1 t2 q2 t3 q3 t4 q4 t5 q5 mo az ap ak ax a1 a2 a3 a4 a5 a6 v1 v2 v3 v4 v5 v6 o9 Fam F r S tn tf n f Fh so ik th bn N Z P Kp K o u w hI hxu hxw hu hw hle hn3 hW hl hR kk
        · skip
          have hn9 : n = 4 := by omega
          subst hn9
          exact lk_copy_04 hC hi ob tx tc ps b k1 k2 k3 k4 k5 k6 s1 i1 s2 i2 ho ha rk t0 q0 t1 q1 t2 q2 t3 q3 t4 q4 t5 q5 mo az ap ak ax a1 a2 a3 a4 a5 a6 v1 v2 v3 v4 v5 v6 o9 Fam F r S tn tf f Fh so ik th bn N Z P Kp K o u w hI hxu hxw hu hw hle hW hl hR kk
      · skip
        exact lk_copy_2 hC hi ob tx tc ps b k1 k2 k3 k4 k5 k6 s1 i1 s2 i2 ho ha rk t0 q0 t1 q1 t2 q2 t3 q3 t4 q4 t5 q5 mo az ap ak ax a1 a2 a3 a4 a5 a6 v1 v2 v3 v4 v5 v6 o9 Fam F r S tn tf n f Fh so ik th bn N Z P Kp K o u w hI hxu hxw hu hw (by omega) hW hl hR kk
    · skip
      exact lk_copy_3 hC hi ob tx tc ps b k1 k2 k3 k4 k5 k6 s1 i1 s2 i2 ho ha rk t0 q0 t1 q1 t2 q2 t3 q3 t4 q4 t5 q5 mo az ap ak ax a1 a2 a3 a4 a5 a6 v1 v2 v3 v4 v5 v6 o9 Fam F r S tn tf n f Fh so ik th bn N Z P Kp K o u w hI hxu hxw hu (by omega) hW hl hR kk
  · skip
    exact lk_copy_1 hC hi ob tx tc ps b k1 k2 k3 k4 k5 k6 s1 i1 s2 i2 ho ha rk t0 q0 t1 q1 t2 q2 t3 q3 t4 q4 t5 q5 mo az ap ak ax a1 a2 a3 a4 a5 a6 v1 v2 v3 v4 v5 v6 o9 Fam F r S tn tf n f Fh so ik th bn N Z P Kp K o u w hI hxu hxw (by omega) hW hl hR kk
theorem dk_setModulus {p : Program} {l : Launch} {e : Env} {s : State} {m : MethodId} {below : List Frame} {meth : Method} {c : Code} {H : Heap} {locs : List Loc} {cells slots : Nat} {Q : State → Prop} {ls : Array Slot} {g : GG} {b0 L : Nat} {xs : Nat → Int32} (hC : LC p l s m b0 L xs meth c g) {i : Int} (hi : 0 ≤ i ∧ i + 4 ≤ L) (ob tx tc ps b k1 k2 k3 k4 k5 k6 s1 i1 s2 i2 ho ha rk t0 q0 t1 q1 t2 q2 t3 q3 t4 q4 t5 q5 mo az ap ak ax a1 a2 a3 a4 a5 a6 v1 v2 v3 v4 v5 v6 o9 : Nat) (hI : LInv g (fun q => s.heap.size ≤ q) s.heap H locs ob tx tc ps b k1 k2 k3 k4 k5 k6 s1 i1 s2 i2 ho ha rk t0 q0 t1 q1 t2 q2 t3 q3 t4 q4 t5 q5 mo az ap ak ax a1 a2 a3 a4 a5 a6 v1 v2 v3 v4 v5 v6 o9) (hl : lv_has ls 7 [(4, .int (iI i)), (3, .ref o9), (2, .ref mo), (1, .ref ob), (0, .ref b0)]) (hR : cells + 7 ≤ 600000 ∧ slots + 200 ≤ 7290000) (kk : ∀ (H1 : Heap) (locs1 : List Loc) (ls1 : Array Slot), LInv g (fun q => s.heap.size ≤ q) s.heap H1 locs1 ob tx tc ps b k1 k2 k3 k4 k5 k6 s1 i1 s2 i2 ho ha rk t0 q0 t1 q1 t2 q2 t3 q3 t4 q4 t5 q5 mo az ap ak ax a1 a2 a3 a4 a5 a6 v1 v2 v3 v4 v5 v6 o9 → lv_has ls1 7 [(4, .int (iI i)), (3, .ref o9), (2, .ref mo), (1, .ref ob), (0, .ref b0)] → W p l e room_1 s m #[.ref b0] below meth c H1 locs1 (cells + 7) (slots + 200) Q (F0 m 1562 ls1 [])) : W p l e room_1 s m #[.ref b0] below meth c H locs cells slots Q (F0 m 284 ls []) := by
  obtain ⟨Fam, F, r, S, tn, tf, n, f, Fh, so, ik, th, bn, N, Z, P, Kp, K, o, hW, hI⟩ := hI
  obtain ⟨-, -, -, -, ht, -, hHR, hSN, -, -⟩ := id hI
  have hn4 := hHR.1
  obtain ⟨u, hxu⟩ : ∃ z : Int, (xs (i + 1).toNat).toInt = z := ⟨_, rfl⟩
  by_cases hq : u ≤ 199 ∧ prU u 198 2 = 1
  · skip
    have h2 := ((prU_char (n := u) 198 2 (by omega)).1.mp hq.2).1
    by_cases hn3 : n < 4
    · skip
      exact lk_setModulus_0 hC hi ob tx tc ps b k1 k2 k3 k4 k5 k6 s1 i1 s2 i2 ho ha rk t0 q0 t1 q1 t2 q2 t3 q3 t4 q4 t5 q5 mo az ap ak ax a1 a2 a3 a4 a5 a6 v1 v2 v3 v4 v5 v6 o9 Fam F r S tn tf n f Fh so ik th bn N Z P Kp K o u hI hxu (⟨by omega, hq.1⟩) (hq.2) hn3 hW hl hR kk
    · skip
      have hn9 : n = 4 := by omega
      subst hn9
      exact lk_setModulus_04 hC hi ob tx tc ps b k1 k2 k3 k4 k5 k6 s1 i1 s2 i2 ho ha rk t0 q0 t1 q1 t2 q2 t3 q3 t4 q4 t5 q5 mo az ap ak ax a1 a2 a3 a4 a5 a6 v1 v2 v3 v4 v5 v6 o9 Fam F r S tn tf f Fh so ik th bn N Z P Kp K o u hI hxu (⟨by omega, hq.1⟩) (hq.2) hW hl hR kk
  · skip
    exact lk_setModulus_1 hC hi ob tx tc ps b k1 k2 k3 k4 k5 k6 s1 i1 s2 i2 ho ha rk t0 q0 t1 q1 t2 q2 t3 q3 t4 q4 t5 q5 mo az ap ak ax a1 a2 a3 a4 a5 a6 v1 v2 v3 v4 v5 v6 o9 Fam F r S tn tf n f Fh so ik th bn N Z P Kp K o u hI hxu (fun h => ((prU_char (n := u) 198 2 (by omega)).2).resolve_right (fun z => hq ⟨h, z⟩)) hW hl hR kk
theorem dk_type {p : Program} {l : Launch} {e : Env} {s : State} {m : MethodId} {below : List Frame} {meth : Method} {c : Code} {H : Heap} {locs : List Loc} {cells slots : Nat} {Q : State → Prop} {ls : Array Slot} {g : GG} {b0 L : Nat} {xs : Nat → Int32} (hC : LC p l s m b0 L xs meth c g) {i : Int} (hi : 0 ≤ i ∧ i + 4 ≤ L) (ob tx tc ps b k1 k2 k3 k4 k5 k6 s1 i1 s2 i2 ho ha rk t0 q0 t1 q1 t2 q2 t3 q3 t4 q4 t5 q5 mo az ap ak ax a1 a2 a3 a4 a5 a6 v1 v2 v3 v4 v5 v6 o9 : Nat) (hI : LInv g (fun q => s.heap.size ≤ q) s.heap H locs ob tx tc ps b k1 k2 k3 k4 k5 k6 s1 i1 s2 i2 ho ha rk t0 q0 t1 q1 t2 q2 t3 q3 t4 q4 t5 q5 mo az ap ak ax a1 a2 a3 a4 a5 a6 v1 v2 v3 v4 v5 v6 o9) (hl : lv_has ls 7 [(4, .int (iI i)), (3, .ref o9), (2, .ref mo), (1, .ref ob), (0, .ref b0)]) (hR : cells + 7 ≤ 600000 ∧ slots + 200 ≤ 7290000) (kk : ∀ (H1 : Heap) (locs1 : List Loc) (ls1 : Array Slot), LInv g (fun q => s.heap.size ≤ q) s.heap H1 locs1 ob tx tc ps b k1 k2 k3 k4 k5 k6 s1 i1 s2 i2 ho ha rk t0 q0 t1 q1 t2 q2 t3 q3 t4 q4 t5 q5 mo az ap ak ax a1 a2 a3 a4 a5 a6 v1 v2 v3 v4 v5 v6 o9 → lv_has ls1 7 [(4, .int (iI i)), (3, .ref o9), (2, .ref mo), (1, .ref ob), (0, .ref b0)] → W p l e room_1 s m #[.ref b0] below meth c H1 locs1 (cells + 7) (slots + 200) Q (F0 m 1562 ls1 [])) : W p l e room_1 s m #[.ref b0] below meth c H locs cells slots Q (F0 m 340 ls []) := by
  obtain ⟨Fam, F, r, S, tn, tf, n, f, Fh, so, ik, th, bn, N, Z, P, Kp, K, o, hW, hI⟩ := hI
  obtain ⟨-, -, -, -, ht, -, hHR, hSN, -, -⟩ := id hI
  have hn4 := hHR.1
  by_cases hn : tn < 40
  · skip
    exact lk_type_0 hC hi ob tx tc ps b k1 k2 k3 k4 k5 k6 s1 i1 s2 i2 ho ha rk t0 q0 t1 q1 t2 q2 t3 q3 t4 q4 t5 q5 mo az ap ak ax a1 a2 a3 a4 a5 a6 v1 v2 v3 v4 v5 v6 o9 Fam F r S tn tf n f Fh so ik th bn N Z P Kp K o hI hn hW hl hR kk
  · skip
    exact lk_type_1 hC hi ob tx tc ps b k1 k2 k3 k4 k5 k6 s1 i1 s2 i2 ho ha rk t0 q0 t1 q1 t2 q2 t3 q3 t4 q4 t5 q5 mo az ap ak ax a1 a2 a3 a4 a5 a6 v1 v2 v3 v4 v5 v6 o9 Fam F r S tn tf n f Fh so ik th bn N Z P Kp K o hI (by omega) hW hl hR kk
theorem dk_clearText {p : Program} {l : Launch} {e : Env} {s : State} {m : MethodId} {below : List Frame} {meth : Method} {c : Code} {H : Heap} {locs : List Loc} {cells slots : Nat} {Q : State → Prop} {ls : Array Slot} {g : GG} {b0 L : Nat} {xs : Nat → Int32} (hC : LC p l s m b0 L xs meth c g) {i : Int} (hi : 0 ≤ i ∧ i + 4 ≤ L) (ob tx tc ps b k1 k2 k3 k4 k5 k6 s1 i1 s2 i2 ho ha rk t0 q0 t1 q1 t2 q2 t3 q3 t4 q4 t5 q5 mo az ap ak ax a1 a2 a3 a4 a5 a6 v1 v2 v3 v4 v5 v6 o9 : Nat) (hI : LInv g (fun q => s.heap.size ≤ q) s.heap H locs ob tx tc ps b k1 k2 k3 k4 k5 k6 s1 i1 s2 i2 ho ha rk t0 q0 t1 q1 t2 q2 t3 q3 t4 q4 t5 q5 mo az ap ak ax a1 a2 a3 a4 a5 a6 v1 v2 v3 v4 v5 v6 o9) (hl : lv_has ls 7 [(4, .int (iI i)), (3, .ref o9), (2, .ref mo), (1, .ref ob), (0, .ref b0)]) (hR : cells + 7 ≤ 600000 ∧ slots + 200 ≤ 7290000) (kk : ∀ (H1 : Heap) (locs1 : List Loc) (ls1 : Array Slot), LInv g (fun q => s.heap.size ≤ q) s.heap H1 locs1 ob tx tc ps b k1 k2 k3 k4 k5 k6 s1 i1 s2 i2 ho ha rk t0 q0 t1 q1 t2 q2 t3 q3 t4 q4 t5 q5 mo az ap ak ax a1 a2 a3 a4 a5 a6 v1 v2 v3 v4 v5 v6 o9 → lv_has ls1 7 [(4, .int (iI i)), (3, .ref o9), (2, .ref mo), (1, .ref ob), (0, .ref b0)] → W p l e room_1 s m #[.ref b0] below meth c H1 locs1 (cells + 7) (slots + 200) Q (F0 m 1562 ls1 [])) : W p l e room_1 s m #[.ref b0] below meth c H locs cells slots Q (F0 m 398 ls []) := by
  obtain ⟨Fam, F, r, S, tn, tf, n, f, Fh, so, ik, th, bn, N, Z, P, Kp, K, o, hW, hI⟩ := hI
  obtain ⟨-, -, -, -, ht, -, hHR, hSN, -, -⟩ := id hI
  have hn4 := hHR.1
  exact lk_clearText_0 hC hi ob tx tc ps b k1 k2 k3 k4 k5 k6 s1 i1 s2 i2 ho ha rk t0 q0 t1 q1 t2 q2 t3 q3 t4 q4 t5 q5 mo az ap ak ax a1 a2 a3 a4 a5 a6 v1 v2 v3 v4 v5 v6 o9 Fam F r S tn tf n f Fh so ik th bn N Z P Kp K o hI hW hl hR kk
theorem dk_textError {p : Program} {l : Launch} {e : Env} {s : State} {m : MethodId} {below : List Frame} {meth : Method} {c : Code} {H : Heap} {locs : List Loc} {cells slots : Nat} {Q : State → Prop} {ls : Array Slot} {g : GG} {b0 L : Nat} {xs : Nat → Int32} (hC : LC p l s m b0 L xs meth c g) {i : Int} (hi : 0 ≤ i ∧ i + 4 ≤ L) (ob tx tc ps b k1 k2 k3 k4 k5 k6 s1 i1 s2 i2 ho ha rk t0 q0 t1 q1 t2 q2 t3 q3 t4 q4 t5 q5 mo az ap ak ax a1 a2 a3 a4 a5 a6 v1 v2 v3 v4 v5 v6 o9 : Nat) (hI : LInv g (fun q => s.heap.size ≤ q) s.heap H locs ob tx tc ps b k1 k2 k3 k4 k5 k6 s1 i1 s2 i2 ho ha rk t0 q0 t1 q1 t2 q2 t3 q3 t4 q4 t5 q5 mo az ap ak ax a1 a2 a3 a4 a5 a6 v1 v2 v3 v4 v5 v6 o9) (hl : lv_has ls 7 [(4, .int (iI i)), (3, .ref o9), (2, .ref mo), (1, .ref ob), (0, .ref b0)]) (hR : cells + 7 ≤ 600000 ∧ slots + 200 ≤ 7290000) (kk : ∀ (H1 : Heap) (locs1 : List Loc) (ls1 : Array Slot), LInv g (fun q => s.heap.size ≤ q) s.heap H1 locs1 ob tx tc ps b k1 k2 k3 k4 k5 k6 s1 i1 s2 i2 ho ha rk t0 q0 t1 q1 t2 q2 t3 q3 t4 q4 t5 q5 mo az ap ak ax a1 a2 a3 a4 a5 a6 v1 v2 v3 v4 v5 v6 o9 → lv_has ls1 7 [(4, .int (iI i)), (3, .ref o9), (2, .ref mo), (1, .ref ob), (0, .ref b0)] → W p l e room_1 s m #[.ref b0] below meth c H1 locs1 (cells + 7) (slots + 200) Q (F0 m 1562 ls1 [])) : W p l e room_1 s m #[.ref b0] below meth c H locs cells slots Q (F0 m 411 ls []) := by
  obtain ⟨Fam, F, r, S, tn, tf, n, f, Fh, so, ik, th, bn, N, Z, P, Kp, K, o, hW, hI⟩ := hI
  obtain ⟨-, -, -, -, ht, -, hHR, hSN, -, -⟩ := id hI
  have hn4 := hHR.1
  exact lk_textError_0 hC hi ob tx tc ps b k1 k2 k3 k4 k5 k6 s1 i1 s2 i2 ho ha rk t0 q0 t1 q1 t2 q2 t3 q3 t4 q4 t5 q5 mo az ap ak ax a1 a2 a3 a4 a5 a6 v1 v2 v3 v4 v5 v6 o9 Fam F r S tn tf n f Fh so ik th bn N Z P Kp K o hI hW hl hR kk
theorem dk_leastToDefine {p : Program} {l : Launch} {e : Env} {s : State} {m : MethodId} {below : List Frame} {meth : Method} {c : Code} {H : Heap} {locs : List Loc} {cells slots : Nat} {Q : State → Prop} {ls : Array Slot} {g : GG} {b0 L : Nat} {xs : Nat → Int32} (hC : LC p l s m b0 L xs meth c g) {i : Int} (hi : 0 ≤ i ∧ i + 4 ≤ L) (ob tx tc ps b k1 k2 k3 k4 k5 k6 s1 i1 s2 i2 ho ha rk t0 q0 t1 q1 t2 q2 t3 q3 t4 q4 t5 q5 mo az ap ak ax a1 a2 a3 a4 a5 a6 v1 v2 v3 v4 v5 v6 o9 : Nat) (hI : LInv g (fun q => s.heap.size ≤ q) s.heap H locs ob tx tc ps b k1 k2 k3 k4 k5 k6 s1 i1 s2 i2 ho ha rk t0 q0 t1 q1 t2 q2 t3 q3 t4 q4 t5 q5 mo az ap ak ax a1 a2 a3 a4 a5 a6 v1 v2 v3 v4 v5 v6 o9) (hl : lv_has ls 7 [(4, .int (iI i)), (3, .ref o9), (2, .ref mo), (1, .ref ob), (0, .ref b0)]) (hR : cells + 7 ≤ 600000 ∧ slots + 200 ≤ 7290000) (kk : ∀ (H1 : Heap) (locs1 : List Loc) (ls1 : Array Slot), LInv g (fun q => s.heap.size ≤ q) s.heap H1 locs1 ob tx tc ps b k1 k2 k3 k4 k5 k6 s1 i1 s2 i2 ho ha rk t0 q0 t1 q1 t2 q2 t3 q3 t4 q4 t5 q5 mo az ap ak ax a1 a2 a3 a4 a5 a6 v1 v2 v3 v4 v5 v6 o9 → lv_has ls1 7 [(4, .int (iI i)), (3, .ref o9), (2, .ref mo), (1, .ref ob), (0, .ref b0)] → W p l e room_1 s m #[.ref b0] below meth c H1 locs1 (cells + 7) (slots + 200) Q (F0 m 1562 ls1 [])) : W p l e room_1 s m #[.ref b0] below meth c H locs cells slots Q (F0 m 424 ls []) := by
  obtain ⟨Fam, F, r, S, tn, tf, n, f, Fh, so, ik, th, bn, N, Z, P, Kp, K, o, hW, hI⟩ := hI
  obtain ⟨-, -, -, -, ht, -, hHR, hSN, -, -⟩ := id hI
  have hn4 := hHR.1
  by_cases hv : (fe (pB S) tf tn).2 = -1
  · skip
    exact lk_leastToDefine_0 hC hi ob tx tc ps b k1 k2 k3 k4 k5 k6 s1 i1 s2 i2 ho ha rk t0 q0 t1 q1 t2 q2 t3 q3 t4 q4 t5 q5 mo az ap ak ax a1 a2 a3 a4 a5 a6 v1 v2 v3 v4 v5 v6 o9 Fam F r S tn tf n f Fh so ik th bn N Z P Kp K o hI hv hW hl hR kk
  · skip
    exact lk_leastToDefine_1 hC hi ob tx tc ps b k1 k2 k3 k4 k5 k6 s1 i1 s2 i2 ho ha rk t0 q0 t1 q1 t2 q2 t3 q3 t4 q4 t5 q5 mo az ap ak ax a1 a2 a3 a4 a5 a6 v1 v2 v3 v4 v5 v6 o9 Fam F r S tn tf n f Fh so ik th bn N Z P Kp K o hI hv hW hl hR kk
theorem dk_undo {p : Program} {l : Launch} {e : Env} {s : State} {m : MethodId} {below : List Frame} {meth : Method} {c : Code} {H : Heap} {locs : List Loc} {cells slots : Nat} {Q : State → Prop} {ls : Array Slot} {g : GG} {b0 L : Nat} {xs : Nat → Int32} (hC : LC p l s m b0 L xs meth c g) {i : Int} (hi : 0 ≤ i ∧ i + 4 ≤ L) (ob tx tc ps b k1 k2 k3 k4 k5 k6 s1 i1 s2 i2 ho ha rk t0 q0 t1 q1 t2 q2 t3 q3 t4 q4 t5 q5 mo az ap ak ax a1 a2 a3 a4 a5 a6 v1 v2 v3 v4 v5 v6 o9 : Nat) (hI : LInv g (fun q => s.heap.size ≤ q) s.heap H locs ob tx tc ps b k1 k2 k3 k4 k5 k6 s1 i1 s2 i2 ho ha rk t0 q0 t1 q1 t2 q2 t3 q3 t4 q4 t5 q5 mo az ap ak ax a1 a2 a3 a4 a5 a6 v1 v2 v3 v4 v5 v6 o9) (hl : lv_has ls 7 [(4, .int (iI i)), (3, .ref o9), (2, .ref mo), (1, .ref ob), (0, .ref b0)]) (hR : cells + 7 ≤ 600000 ∧ slots + 200 ≤ 7290000) (kk : ∀ (H1 : Heap) (locs1 : List Loc) (ls1 : Array Slot), LInv g (fun q => s.heap.size ≤ q) s.heap H1 locs1 ob tx tc ps b k1 k2 k3 k4 k5 k6 s1 i1 s2 i2 ho ha rk t0 q0 t1 q1 t2 q2 t3 q3 t4 q4 t5 q5 mo az ap ak ax a1 a2 a3 a4 a5 a6 v1 v2 v3 v4 v5 v6 o9 → lv_has ls1 7 [(4, .int (iI i)), (3, .ref o9), (2, .ref mo), (1, .ref ob), (0, .ref b0)] → W p l e room_1 s m #[.ref b0] below meth c H1 locs1 (cells + 7) (slots + 200) Q (F0 m 1562 ls1 [])) : W p l e room_1 s m #[.ref b0] below meth c H locs cells slots Q (F0 m 468 ls []) := by
  obtain ⟨Fam, F, r, S, tn, tf, n, f, Fh, so, ik, th, bn, N, Z, P, Kp, K, o, hW, hI⟩ := hI
  obtain ⟨-, -, -, -, ht, -, hHR, hSN, -, -⟩ := id hI
  have hn4 := hHR.1
  by_cases hn : 0 < n
  · skip
    exact lk_undo_0 hC hi ob tx tc ps b k1 k2 k3 k4 k5 k6 s1 i1 s2 i2 ho ha rk t0 q0 t1 q1 t2 q2 t3 q3 t4 q4 t5 q5 mo az ap ak ax a1 a2 a3 a4 a5 a6 v1 v2 v3 v4 v5 v6 o9 Fam F r S tn tf n f Fh so ik th bn N Z P Kp K o hI hn hW hl hR kk
  · skip
    have hn9 : n = 0 := by omega
    subst hn9
    exact lk_undo_1 hC hi ob tx tc ps b k1 k2 k3 k4 k5 k6 s1 i1 s2 i2 ho ha rk t0 q0 t1 q1 t2 q2 t3 q3 t4 q4 t5 q5 mo az ap ak ax a1 a2 a3 a4 a5 a6 v1 v2 v3 v4 v5 v6 o9 Fam F r S tn tf f Fh so ik th bn N Z P Kp K o hI hW hl hR kk
theorem dk_takeSnapshot {p : Program} {l : Launch} {e : Env} {s : State} {m : MethodId} {below : List Frame} {meth : Method} {c : Code} {H : Heap} {locs : List Loc} {cells slots : Nat} {Q : State → Prop} {ls : Array Slot} {g : GG} {b0 L : Nat} {xs : Nat → Int32} (hC : LC p l s m b0 L xs meth c g) {i : Int} (hi : 0 ≤ i ∧ i + 4 ≤ L) (ob tx tc ps b k1 k2 k3 k4 k5 k6 s1 i1 s2 i2 ho ha rk t0 q0 t1 q1 t2 q2 t3 q3 t4 q4 t5 q5 mo az ap ak ax a1 a2 a3 a4 a5 a6 v1 v2 v3 v4 v5 v6 o9 : Nat) (hI : LInv g (fun q => s.heap.size ≤ q) s.heap H locs ob tx tc ps b k1 k2 k3 k4 k5 k6 s1 i1 s2 i2 ho ha rk t0 q0 t1 q1 t2 q2 t3 q3 t4 q4 t5 q5 mo az ap ak ax a1 a2 a3 a4 a5 a6 v1 v2 v3 v4 v5 v6 o9) (hl : lv_has ls 7 [(4, .int (iI i)), (3, .ref o9), (2, .ref mo), (1, .ref ob), (0, .ref b0)]) (hR : cells + 7 ≤ 600000 ∧ slots + 200 ≤ 7290000) (kk : ∀ (H1 : Heap) (locs1 : List Loc) (ls1 : Array Slot), LInv g (fun q => s.heap.size ≤ q) s.heap H1 locs1 ob tx tc ps b k1 k2 k3 k4 k5 k6 s1 i1 s2 i2 ho ha rk t0 q0 t1 q1 t2 q2 t3 q3 t4 q4 t5 q5 mo az ap ak ax a1 a2 a3 a4 a5 a6 v1 v2 v3 v4 v5 v6 o9 → lv_has ls1 7 [(4, .int (iI i)), (3, .ref o9), (2, .ref mo), (1, .ref ob), (0, .ref b0)] → W p l e room_1 s m #[.ref b0] below meth c H1 locs1 (cells + 7) (slots + 200) Q (F0 m 1562 ls1 [])) : W p l e room_1 s m #[.ref b0] below meth c H locs cells slots Q (F0 m 512 ls []) := by
  obtain ⟨Fam, F, r, S, tn, tf, n, f, Fh, so, ik, th, bn, N, Z, P, Kp, K, o, hW, hI⟩ := hI
  obtain ⟨-, -, -, -, ht, -, hHR, hSN, -, -⟩ := id hI
  have hn4 := hHR.1
  exact lk_takeSnapshot_0 hC hi ob tx tc ps b k1 k2 k3 k4 k5 k6 s1 i1 s2 i2 ho ha rk t0 q0 t1 q1 t2 q2 t3 q3 t4 q4 t5 q5 mo az ap ak ax a1 a2 a3 a4 a5 a6 v1 v2 v3 v4 v5 v6 o9 Fam F r S tn tf n f Fh so ik th bn N Z P Kp K o hI hW hl hR kk
theorem dk_restoreSnapshot {p : Program} {l : Launch} {e : Env} {s : State} {m : MethodId} {below : List Frame} {meth : Method} {c : Code} {H : Heap} {locs : List Loc} {cells slots : Nat} {Q : State → Prop} {ls : Array Slot} {g : GG} {b0 L : Nat} {xs : Nat → Int32} (hC : LC p l s m b0 L xs meth c g) {i : Int} (hi : 0 ≤ i ∧ i + 4 ≤ L) (ob tx tc ps b k1 k2 k3 k4 k5 k6 s1 i1 s2 i2 ho ha rk t0 q0 t1 q1 t2 q2 t3 q3 t4 q4 t5 q5 mo az ap ak ax a1 a2 a3 a4 a5 a6 v1 v2 v3 v4 v5 v6 o9 : Nat) (hI : LInv g (fun q => s.heap.size ≤ q) s.heap H locs ob tx tc ps b k1 k2 k3 k4 k5 k6 s1 i1 s2 i2 ho ha rk t0 q0 t1 q1 t2 q2 t3 q3 t4 q4 t5 q5 mo az ap ak ax a1 a2 a3 a4 a5 a6 v1 v2 v3 v4 v5 v6 o9) (hl : lv_has ls 7 [(4, .int (iI i)), (3, .ref o9), (2, .ref mo), (1, .ref ob), (0, .ref b0)]) (hR : cells + 7 ≤ 600000 ∧ slots + 200 ≤ 7290000) (kk : ∀ (H1 : Heap) (locs1 : List Loc) (ls1 : Array Slot), LInv g (fun q => s.heap.size ≤ q) s.heap H1 locs1 ob tx tc ps b k1 k2 k3 k4 k5 k6 s1 i1 s2 i2 ho ha rk t0 q0 t1 q1 t2 q2 t3 q3 t4 q4 t5 q5 mo az ap ak ax a1 a2 a3 a4 a5 a6 v1 v2 v3 v4 v5 v6 o9 → lv_has ls1 7 [(4, .int (iI i)), (3, .ref o9), (2, .ref mo), (1, .ref ob), (0, .ref b0)] → W p l e room_1 s m #[.ref b0] below meth c H1 locs1 (cells + 7) (slots + 200) Q (F0 m 1562 ls1 [])) : W p l e room_1 s m #[.ref b0] below meth c H locs cells slots Q (F0 m 525 ls []) := by
  obtain ⟨Fam, F, r, S, tn, tf, n, f, Fh, so, ik, th, bn, N, Z, P, Kp, K, o, hW, hI⟩ := hI
  obtain ⟨-, -, -, -, ht, -, hHR, hSN, -, -⟩ := id hI
  have hn4 := hHR.1
  rcases hSN with ⟨hso, hik⟩ | ⟨G, hso, hik, hFG, hGG, hKz⟩
  · subst hso
    subst hik
    exact lk_restoreSnapshot_1 hC hi ob tx tc ps b k1 k2 k3 k4 k5 k6 s1 i1 s2 i2 ho ha rk t0 q0 t1 q1 t2 q2 t3 q3 t4 q4 t5 q5 mo az ap ak ax a1 a2 a3 a4 a5 a6 v1 v2 v3 v4 v5 v6 o9 Fam F r S tn tf n f Fh th bn N Z P Kp K o hI hW hl hR kk
  · subst hso
    subst hik
    by_cases hn3 : n < 4
    · skip
      exact lk_restoreSnapshot_0 hC hi ob tx tc ps b k1 k2 k3 k4 k5 k6 s1 i1 s2 i2 ho ha rk t0 q0 t1 q1 t2 q2 t3 q3 t4 q4 t5 q5 mo az ap ak ax a1 a2 a3 a4 a5 a6 v1 v2 v3 v4 v5 v6 o9 Fam F r S tn tf n f Fh th bn N Z P Kp K o G hI hFG hGG hKz hn3 hW hl hR kk
    · skip
      have hn9 : n = 4 := by omega
      subst hn9
      exact lk_restoreSnapshot_04 hC hi ob tx tc ps b k1 k2 k3 k4 k5 k6 s1 i1 s2 i2 ho ha rk t0 q0 t1 q1 t2 q2 t3 q3 t4 q4 t5 q5 mo az ap ak ax a1 a2 a3 a4 a5 a6 v1 v2 v3 v4 v5 v6 o9 Fam F r S tn tf f Fh th bn N Z P Kp K o G hI hFG hGG hKz hW hl hR kk
theorem dk_nodesOf {p : Program} {l : Launch} {e : Env} {s : State} {m : MethodId} {below : List Frame} {meth : Method} {c : Code} {H : Heap} {locs : List Loc} {cells slots : Nat} {Q : State → Prop} {ls : Array Slot} {g : GG} {b0 L : Nat} {xs : Nat → Int32} (hC : LC p l s m b0 L xs meth c g) {i : Int} (hi : 0 ≤ i ∧ i + 4 ≤ L) (ob tx tc ps b k1 k2 k3 k4 k5 k6 s1 i1 s2 i2 ho ha rk t0 q0 t1 q1 t2 q2 t3 q3 t4 q4 t5 q5 mo az ap ak ax a1 a2 a3 a4 a5 a6 v1 v2 v3 v4 v5 v6 o9 : Nat) (hI : LInv g (fun q => s.heap.size ≤ q) s.heap H locs ob tx tc ps b k1 k2 k3 k4 k5 k6 s1 i1 s2 i2 ho ha rk t0 q0 t1 q1 t2 q2 t3 q3 t4 q4 t5 q5 mo az ap ak ax a1 a2 a3 a4 a5 a6 v1 v2 v3 v4 v5 v6 o9) (hl : lv_has ls 7 [(4, .int (iI i)), (3, .ref o9), (2, .ref mo), (1, .ref ob), (0, .ref b0)]) (hR : cells + 7 ≤ 600000 ∧ slots + 200 ≤ 7290000) (kk : ∀ (H1 : Heap) (locs1 : List Loc) (ls1 : Array Slot), LInv g (fun q => s.heap.size ≤ q) s.heap H1 locs1 ob tx tc ps b k1 k2 k3 k4 k5 k6 s1 i1 s2 i2 ho ha rk t0 q0 t1 q1 t2 q2 t3 q3 t4 q4 t5 q5 mo az ap ak ax a1 a2 a3 a4 a5 a6 v1 v2 v3 v4 v5 v6 o9 → lv_has ls1 7 [(4, .int (iI i)), (3, .ref o9), (2, .ref mo), (1, .ref ob), (0, .ref b0)] → W p l e room_1 s m #[.ref b0] below meth c H1 locs1 (cells + 7) (slots + 200) Q (F0 m 1562 ls1 [])) : W p l e room_1 s m #[.ref b0] below meth c H locs cells slots Q (F0 m 569 ls []) := by
  obtain ⟨Fam, F, r, S, tn, tf, n, f, Fh, so, ik, th, bn, N, Z, P, Kp, K, o, hW, hI⟩ := hI
  obtain ⟨-, -, -, -, ht, -, hHR, hSN, -, -⟩ := id hI
  have hn4 := hHR.1
  obtain ⟨u, hxu⟩ : ∃ z : Int, (xs (i + 1).toNat).toInt = z := ⟨_, rfl⟩
  by_cases hu : 0 ≤ u ∧ u < 4
  · skip
    exact lk_nodesOf_0 hC hi ob tx tc ps b k1 k2 k3 k4 k5 k6 s1 i1 s2 i2 ho ha rk t0 q0 t1 q1 t2 q2 t3 q3 t4 q4 t5 q5 mo az ap ak ax a1 a2 a3 a4 a5 a6 v1 v2 v3 v4 v5 v6 o9 Fam F r S tn tf n f Fh so ik th bn N Z P Kp K o u hI hxu hu hW hl hR kk
  · skip
    exact lk_nodesOf_1 hC hi ob tx tc ps b k1 k2 k3 k4 k5 k6 s1 i1 s2 i2 ho ha rk t0 q0 t1 q1 t2 q2 t3 q3 t4 q4 t5 q5 mo az ap ak ax a1 a2 a3 a4 a5 a6 v1 v2 v3 v4 v5 v6 o9 Fam F r S tn tf n f Fh so ik th bn N Z P Kp K o u hI hxu (by omega) hW hl hR kk
theorem dk_unlikeNodesOf {p : Program} {l : Launch} {e : Env} {s : State} {m : MethodId} {below : List Frame} {meth : Method} {c : Code} {H : Heap} {locs : List Loc} {cells slots : Nat} {Q : State → Prop} {ls : Array Slot} {g : GG} {b0 L : Nat} {xs : Nat → Int32} (hC : LC p l s m b0 L xs meth c g) {i : Int} (hi : 0 ≤ i ∧ i + 4 ≤ L) (ob tx tc ps b k1 k2 k3 k4 k5 k6 s1 i1 s2 i2 ho ha rk t0 q0 t1 q1 t2 q2 t3 q3 t4 q4 t5 q5 mo az ap ak ax a1 a2 a3 a4 a5 a6 v1 v2 v3 v4 v5 v6 o9 : Nat) (hI : LInv g (fun q => s.heap.size ≤ q) s.heap H locs ob tx tc ps b k1 k2 k3 k4 k5 k6 s1 i1 s2 i2 ho ha rk t0 q0 t1 q1 t2 q2 t3 q3 t4 q4 t5 q5 mo az ap ak ax a1 a2 a3 a4 a5 a6 v1 v2 v3 v4 v5 v6 o9) (hl : lv_has ls 7 [(4, .int (iI i)), (3, .ref o9), (2, .ref mo), (1, .ref ob), (0, .ref b0)]) (hR : cells + 7 ≤ 600000 ∧ slots + 200 ≤ 7290000) (kk : ∀ (H1 : Heap) (locs1 : List Loc) (ls1 : Array Slot), LInv g (fun q => s.heap.size ≤ q) s.heap H1 locs1 ob tx tc ps b k1 k2 k3 k4 k5 k6 s1 i1 s2 i2 ho ha rk t0 q0 t1 q1 t2 q2 t3 q3 t4 q4 t5 q5 mo az ap ak ax a1 a2 a3 a4 a5 a6 v1 v2 v3 v4 v5 v6 o9 → lv_has ls1 7 [(4, .int (iI i)), (3, .ref o9), (2, .ref mo), (1, .ref ob), (0, .ref b0)] → W p l e room_1 s m #[.ref b0] below meth c H1 locs1 (cells + 7) (slots + 200) Q (F0 m 1562 ls1 [])) : W p l e room_1 s m #[.ref b0] below meth c H locs cells slots Q (F0 m 625 ls []) := by
  obtain ⟨Fam, F, r, S, tn, tf, n, f, Fh, so, ik, th, bn, N, Z, P, Kp, K, o, hW, hI⟩ := hI
  obtain ⟨-, -, -, -, ht, -, hHR, hSN, -, -⟩ := id hI
  have hn4 := hHR.1
  obtain ⟨u, hxu⟩ : ∃ z : Int, (xs (i + 1).toNat).toInt = z := ⟨_, rfl⟩
  by_cases hu : 0 ≤ u ∧ u < 4
  · skip
    exact lk_unlikeNodesOf_0 hC hi ob tx tc ps b k1 k2 k3 k4 k5 k6 s1 i1 s2 i2 ho ha rk t0 q0 t1 q1 t2 q2 t3 q3 t4 q4 t5 q5 mo az ap ak ax a1 a2 a3 a4 a5 a6 v1 v2 v3 v4 v5 v6 o9 Fam F r S tn tf n f Fh so ik th bn N Z P Kp K o u hI hxu hu hW hl hR kk
  · skip
    exact lk_unlikeNodesOf_1 hC hi ob tx tc ps b k1 k2 k3 k4 k5 k6 s1 i1 s2 i2 ho ha rk t0 q0 t1 q1 t2 q2 t3 q3 t4 q4 t5 q5 mo az ap ak ax a1 a2 a3 a4 a5 a6 v1 v2 v3 v4 v5 v6 o9 Fam F r S tn tf n f Fh so ik th bn N Z P Kp K o u hI hxu (by omega) hW hl hR kk
theorem dk_depthOf {p : Program} {l : Launch} {e : Env} {s : State} {m : MethodId} {below : List Frame} {meth : Method} {c : Code} {H : Heap} {locs : List Loc} {cells slots : Nat} {Q : State → Prop} {ls : Array Slot} {g : GG} {b0 L : Nat} {xs : Nat → Int32} (hC : LC p l s m b0 L xs meth c g) {i : Int} (hi : 0 ≤ i ∧ i + 4 ≤ L) (ob tx tc ps b k1 k2 k3 k4 k5 k6 s1 i1 s2 i2 ho ha rk t0 q0 t1 q1 t2 q2 t3 q3 t4 q4 t5 q5 mo az ap ak ax a1 a2 a3 a4 a5 a6 v1 v2 v3 v4 v5 v6 o9 : Nat) (hI : LInv g (fun q => s.heap.size ≤ q) s.heap H locs ob tx tc ps b k1 k2 k3 k4 k5 k6 s1 i1 s2 i2 ho ha rk t0 q0 t1 q1 t2 q2 t3 q3 t4 q4 t5 q5 mo az ap ak ax a1 a2 a3 a4 a5 a6 v1 v2 v3 v4 v5 v6 o9) (hl : lv_has ls 7 [(4, .int (iI i)), (3, .ref o9), (2, .ref mo), (1, .ref ob), (0, .ref b0)]) (hR : cells + 7 ≤ 600000 ∧ slots + 200 ≤ 7290000) (kk : ∀ (H1 : Heap) (locs1 : List Loc) (ls1 : Array Slot), LInv g (fun q => s.heap.size ≤ q) s.heap H1 locs1 ob tx tc ps b k1 k2 k3 k4 k5 k6 s1 i1 s2 i2 ho ha rk t0 q0 t1 q1 t2 q2 t3 q3 t4 q4 t5 q5 mo az ap ak ax a1 a2 a3 a4 a5 a6 v1 v2 v3 v4 v5 v6 o9 → lv_has ls1 7 [(4, .int (iI i)), (3, .ref o9), (2, .ref mo), (1, .ref ob), (0, .ref b0)] → W p l e room_1 s m #[.ref b0] below meth c H1 locs1 (cells + 7) (slots + 200) Q (F0 m 1562 ls1 [])) : W p l e room_1 s m #[.ref b0] below meth c H locs cells slots Q (F0 m 681 ls []) := by
  obtain ⟨Fam, F, r, S, tn, tf, n, f, Fh, so, ik, th, bn, N, Z, P, Kp, K, o, hW, hI⟩ := hI
  obtain ⟨-, -, -, -, ht, -, hHR, hSN, -, -⟩ := id hI
  have hn4 := hHR.1
  obtain ⟨u, hxu⟩ : ∃ z : Int, (xs (i + 1).toNat).toInt = z := ⟨_, rfl⟩
  by_cases hu : 0 ≤ u ∧ u < 4
  · skip
    exact lk_depthOf_0 hC hi ob tx tc ps b k1 k2 k3 k4 k5 k6 s1 i1 s2 i2 ho ha rk t0 q0 t1 q1 t2 q2 t3 q3 t4 q4 t5 q5 mo az ap ak ax a1 a2 a3 a4 a5 a6 v1 v2 v3 v4 v5 v6 o9 Fam F r S tn tf n f Fh so ik th bn N Z P Kp K o u hI hxu hu hW hl hR kk
  · skip
    exact lk_depthOf_1 hC hi ob tx tc ps b k1 k2 k3 k4 k5 k6 s1 i1 s2 i2 ho ha rk t0 q0 t1 q1 t2 q2 t3 q3 t4 q4 t5 q5 mo az ap ak ax a1 a2 a3 a4 a5 a6 v1 v2 v3 v4 v5 v6 o9 Fam F r S tn tf n f Fh so ik th bn N Z P Kp K o u hI hxu (by omega) hW hl hR kk
theorem dk_modulus {p : Program} {l : Launch} {e : Env} {s : State} {m : MethodId} {below : List Frame} {meth : Method} {c : Code} {H : Heap} {locs : List Loc} {cells slots : Nat} {Q : State → Prop} {ls : Array Slot} {g : GG} {b0 L : Nat} {xs : Nat → Int32} (hC : LC p l s m b0 L xs meth c g) {i : Int} (hi : 0 ≤ i ∧ i + 4 ≤ L) (ob tx tc ps b k1 k2 k3 k4 k5 k6 s1 i1 s2 i2 ho ha rk t0 q0 t1 q1 t2 q2 t3 q3 t4 q4 t5 q5 mo az ap ak ax a1 a2 a3 a4 a5 a6 v1 v2 v3 v4 v5 v6 o9 : Nat) (hI : LInv g (fun q => s.heap.size ≤ q) s.heap H locs ob tx tc ps b k1 k2 k3 k4 k5 k6 s1 i1 s2 i2 ho ha rk t0 q0 t1 q1 t2 q2 t3 q3 t4 q4 t5 q5 mo az ap ak ax a1 a2 a3 a4 a5 a6 v1 v2 v3 v4 v5 v6 o9) (hl : lv_has ls 7 [(4, .int (iI i)), (3, .ref o9), (2, .ref mo), (1, .ref ob), (0, .ref b0)]) (hR : cells + 7 ≤ 600000 ∧ slots + 200 ≤ 7290000) (kk : ∀ (H1 : Heap) (locs1 : List Loc) (ls1 : Array Slot), LInv g (fun q => s.heap.size ≤ q) s.heap H1 locs1 ob tx tc ps b k1 k2 k3 k4 k5 k6 s1 i1 s2 i2 ho ha rk t0 q0 t1 q1 t2 q2 t3 q3 t4 q4 t5 q5 mo az ap ak ax a1 a2 a3 a4 a5 a6 v1 v2 v3 v4 v5 v6 o9 → lv_has ls1 7 [(4, .int (iI i)), (3, .ref o9), (2, .ref mo), (1, .ref ob), (0, .ref b0)] → W p l e room_1 s m #[.ref b0] below meth c H1 locs1 (cells + 7) (slots + 200) Q (F0 m 1562 ls1 [])) : W p l e room_1 s m #[.ref b0] below meth c H locs cells slots Q (F0 m 737 ls []) := by
  obtain ⟨Fam, F, r, S, tn, tf, n, f, Fh, so, ik, th, bn, N, Z, P, Kp, K, o, hW, hI⟩ := hI
  obtain ⟨-, -, -, -, ht, -, hHR, hSN, -, -⟩ := id hI
  have hn4 := hHR.1
  exact lk_modulus_0 hC hi ob tx tc ps b k1 k2 k3 k4 k5 k6 s1 i1 s2 i2 ho ha rk t0 q0 t1 q1 t2 q2 t3 q3 t4 q4 t5 q5 mo az ap ak ax a1 a2 a3 a4 a5 a6 v1 v2 v3 v4 v5 v6 o9 Fam F r S tn tf n f Fh so ik th bn N Z P Kp K o hI hW hl hR kk
theorem dk_valueAt {p : Program} {l : Launch} {e : Env} {s : State} {m : MethodId} {below : List Frame} {meth : Method} {c : Code} {H : Heap} {locs : List Loc} {cells slots : Nat} {Q : State → Prop} {ls : Array Slot} {g : GG} {b0 L : Nat} {xs : Nat → Int32} (hC : LC p l s m b0 L xs meth c g) {i : Int} (hi : 0 ≤ i ∧ i + 4 ≤ L) (ob tx tc ps b k1 k2 k3 k4 k5 k6 s1 i1 s2 i2 ho ha rk t0 q0 t1 q1 t2 q2 t3 q3 t4 q4 t5 q5 mo az ap ak ax a1 a2 a3 a4 a5 a6 v1 v2 v3 v4 v5 v6 o9 : Nat) (hI : LInv g (fun q => s.heap.size ≤ q) s.heap H locs ob tx tc ps b k1 k2 k3 k4 k5 k6 s1 i1 s2 i2 ho ha rk t0 q0 t1 q1 t2 q2 t3 q3 t4 q4 t5 q5 mo az ap ak ax a1 a2 a3 a4 a5 a6 v1 v2 v3 v4 v5 v6 o9) (hl : lv_has ls 7 [(4, .int (iI i)), (3, .ref o9), (2, .ref mo), (1, .ref ob), (0, .ref b0)]) (hR : cells + 7 ≤ 600000 ∧ slots + 200 ≤ 7290000) (kk : ∀ (H1 : Heap) (locs1 : List Loc) (ls1 : Array Slot), LInv g (fun q => s.heap.size ≤ q) s.heap H1 locs1 ob tx tc ps b k1 k2 k3 k4 k5 k6 s1 i1 s2 i2 ho ha rk t0 q0 t1 q1 t2 q2 t3 q3 t4 q4 t5 q5 mo az ap ak ax a1 a2 a3 a4 a5 a6 v1 v2 v3 v4 v5 v6 o9 → lv_has ls1 7 [(4, .int (iI i)), (3, .ref o9), (2, .ref mo), (1, .ref ob), (0, .ref b0)] → W p l e room_1 s m #[.ref b0] below meth c H1 locs1 (cells + 7) (slots + 200) Q (F0 m 1562 ls1 [])) : W p l e room_1 s m #[.ref b0] below meth c H locs cells slots Q (F0 m 750 ls []) := by
  obtain ⟨Fam, F, r, S, tn, tf, n, f, Fh, so, ik, th, bn, N, Z, P, Kp, K, o, hW, hI⟩ := hI
  obtain ⟨-, -, -, -, ht, -, hHR, hSN, -, -⟩ := id hI
  have hn4 := hHR.1
  obtain ⟨u, hxu⟩ : ∃ z : Int, (xs (i + 1).toNat).toInt = z := ⟨_, rfl⟩
  obtain ⟨x, hxx⟩ : ∃ z : Int, (xs (i + 2).toNat).toInt = z := ⟨_, rfl⟩
  by_cases hu : 0 ≤ u ∧ u < 4
  · skip
    by_cases hx : 0 ≤ x ∧ x < fP F
    · skip
      exact lk_valueAt_0 hC hi ob tx tc ps b k1 k2 k3 k4 k5 k6 s1 i1 s2 i2 ho ha rk t0 q0 t1 q1 t2 q2 t3 q3 t4 q4 t5 q5 mo az ap ak ax a1 a2 a3 a4 a5 a6 v1 v2 v3 v4 v5 v6 o9 Fam F r S tn tf n f Fh so ik th bn N Z P Kp K o u x hI hxu hxx hu hx hW hl hR kk
    · skip
      exact lk_valueAt_2 hC hi ob tx tc ps b k1 k2 k3 k4 k5 k6 s1 i1 s2 i2 ho ha rk t0 q0 t1 q1 t2 q2 t3 q3 t4 q4 t5 q5 mo az ap ak ax a1 a2 a3 a4 a5 a6 v1 v2 v3 v4 v5 v6 o9 Fam F r S tn tf n f Fh so ik th bn N Z P Kp K o u x hI hxu hxx hu (by omega) hW hl hR kk
  · skip
    exact lk_valueAt_1 hC hi ob tx tc ps b k1 k2 k3 k4 k5 k6 s1 i1 s2 i2 ho ha rk t0 q0 t1 q1 t2 q2 t3 q3 t4 q4 t5 q5 mo az ap ak ax a1 a2 a3 a4 a5 a6 v1 v2 v3 v4 v5 v6 o9 Fam F r S tn tf n f Fh so ik th bn N Z P Kp K o u x hI hxu hxx (by omega) hW hl hR kk
theorem dk_slopeByHinges {p : Program} {l : Launch} {e : Env} {s : State} {m : MethodId} {below : List Frame} {meth : Method} {c : Code} {H : Heap} {locs : List Loc} {cells slots : Nat} {Q : State → Prop} {ls : Array Slot} {g : GG} {b0 L : Nat} {xs : Nat → Int32} (hC : LC p l s m b0 L xs meth c g) {i : Int} (hi : 0 ≤ i ∧ i + 4 ≤ L) (ob tx tc ps b k1 k2 k3 k4 k5 k6 s1 i1 s2 i2 ho ha rk t0 q0 t1 q1 t2 q2 t3 q3 t4 q4 t5 q5 mo az ap ak ax a1 a2 a3 a4 a5 a6 v1 v2 v3 v4 v5 v6 o9 : Nat) (hI : LInv g (fun q => s.heap.size ≤ q) s.heap H locs ob tx tc ps b k1 k2 k3 k4 k5 k6 s1 i1 s2 i2 ho ha rk t0 q0 t1 q1 t2 q2 t3 q3 t4 q4 t5 q5 mo az ap ak ax a1 a2 a3 a4 a5 a6 v1 v2 v3 v4 v5 v6 o9) (hl : lv_has ls 7 [(4, .int (iI i)), (3, .ref o9), (2, .ref mo), (1, .ref ob), (0, .ref b0)]) (hR : cells + 7 ≤ 600000 ∧ slots + 200 ≤ 7290000) (kk : ∀ (H1 : Heap) (locs1 : List Loc) (ls1 : Array Slot), LInv g (fun q => s.heap.size ≤ q) s.heap H1 locs1 ob tx tc ps b k1 k2 k3 k4 k5 k6 s1 i1 s2 i2 ho ha rk t0 q0 t1 q1 t2 q2 t3 q3 t4 q4 t5 q5 mo az ap ak ax a1 a2 a3 a4 a5 a6 v1 v2 v3 v4 v5 v6 o9 → lv_has ls1 7 [(4, .int (iI i)), (3, .ref o9), (2, .ref mo), (1, .ref ob), (0, .ref b0)] → W p l e room_1 s m #[.ref b0] below meth c H1 locs1 (cells + 7) (slots + 200) Q (F0 m 1562 ls1 [])) : W p l e room_1 s m #[.ref b0] below meth c H locs cells slots Q (F0 m 818 ls []) := by
  obtain ⟨Fam, F, r, S, tn, tf, n, f, Fh, so, ik, th, bn, N, Z, P, Kp, K, o, hW, hI⟩ := hI
  obtain ⟨-, -, -, -, ht, -, hHR, hSN, -, -⟩ := id hI
  have hn4 := hHR.1
  obtain ⟨u, hxu⟩ : ∃ z : Int, (xs (i + 1).toNat).toInt = z := ⟨_, rfl⟩
  obtain ⟨x, hxx⟩ : ∃ z : Int, (xs (i + 2).toNat).toInt = z := ⟨_, rfl⟩
  by_cases hu : 0 ≤ u ∧ u < 4
  · skip
    by_cases hx : 0 ≤ x ∧ x < fP F
    · skip
      exact lk_slopeByHinges_0 hC hi ob tx tc ps b k1 k2 k3 k4 k5 k6 s1 i1 s2 i2 ho ha rk t0 q0 t1 q1 t2 q2 t3 q3 t4 q4 t5 q5 mo az ap ak ax a1 a2 a3 a4 a5 a6 v1 v2 v3 v4 v5 v6 o9 Fam F r S tn tf n f Fh so ik th bn N Z P Kp K o u x hI hxu hxx hu hx hW hl hR kk
    · skip
      exact lk_slopeByHinges_2 hC hi ob tx tc ps b k1 k2 k3 k4 k5 k6 s1 i1 s2 i2 ho ha rk t0 q0 t1 q1 t2 q2 t3 q3 t4 q4 t5 q5 mo az ap ak ax a1 a2 a3 a4 a5 a6 v1 v2 v3 v4 v5 v6 o9 Fam F r S tn tf n f Fh so ik th bn N Z P Kp K o u x hI hxu hxx hu (by omega) hW hl hR kk
  · skip
    exact lk_slopeByHinges_1 hC hi ob tx tc ps b k1 k2 k3 k4 k5 k6 s1 i1 s2 i2 ho ha rk t0 q0 t1 q1 t2 q2 t3 q3 t4 q4 t5 q5 mo az ap ak ax a1 a2 a3 a4 a5 a6 v1 v2 v3 v4 v5 v6 o9 Fam F r S tn tf n f Fh so ik th bn N Z P Kp K o u x hI hxu hxx (by omega) hW hl hR kk
theorem dk_slopeByRules {p : Program} {l : Launch} {e : Env} {s : State} {m : MethodId} {below : List Frame} {meth : Method} {c : Code} {H : Heap} {locs : List Loc} {cells slots : Nat} {Q : State → Prop} {ls : Array Slot} {g : GG} {b0 L : Nat} {xs : Nat → Int32} (hC : LC p l s m b0 L xs meth c g) {i : Int} (hi : 0 ≤ i ∧ i + 4 ≤ L) (ob tx tc ps b k1 k2 k3 k4 k5 k6 s1 i1 s2 i2 ho ha rk t0 q0 t1 q1 t2 q2 t3 q3 t4 q4 t5 q5 mo az ap ak ax a1 a2 a3 a4 a5 a6 v1 v2 v3 v4 v5 v6 o9 : Nat) (hI : LInv g (fun q => s.heap.size ≤ q) s.heap H locs ob tx tc ps b k1 k2 k3 k4 k5 k6 s1 i1 s2 i2 ho ha rk t0 q0 t1 q1 t2 q2 t3 q3 t4 q4 t5 q5 mo az ap ak ax a1 a2 a3 a4 a5 a6 v1 v2 v3 v4 v5 v6 o9) (hl : lv_has ls 7 [(4, .int (iI i)), (3, .ref o9), (2, .ref mo), (1, .ref ob), (0, .ref b0)]) (hR : cells + 7 ≤ 600000 ∧ slots + 200 ≤ 7290000) (kk : ∀ (H1 : Heap) (locs1 : List Loc) (ls1 : Array Slot), LInv g (fun q => s.heap.size ≤ q) s.heap H1 locs1 ob tx tc ps b k1 k2 k3 k4 k5 k6 s1 i1 s2 i2 ho ha rk t0 q0 t1 q1 t2 q2 t3 q3 t4 q4 t5 q5 mo az ap ak ax a1 a2 a3 a4 a5 a6 v1 v2 v3 v4 v5 v6 o9 → lv_has ls1 7 [(4, .int (iI i)), (3, .ref o9), (2, .ref mo), (1, .ref ob), (0, .ref b0)] → W p l e room_1 s m #[.ref b0] below meth c H1 locs1 (cells + 7) (slots + 200) Q (F0 m 1562 ls1 [])) : W p l e room_1 s m #[.ref b0] below meth c H locs cells slots Q (F0 m 886 ls []) := by
  obtain ⟨Fam, F, r, S, tn, tf, n, f, Fh, so, ik, th, bn, N, Z, P, Kp, K, o, hW, hI⟩ := hI
  obtain ⟨-, -, -, -, ht, -, hHR, hSN, -, -⟩ := id hI
  have hn4 := hHR.1
  obtain ⟨u, hxu⟩ : ∃ z : Int, (xs (i + 1).toNat).toInt = z := ⟨_, rfl⟩
  obtain ⟨x, hxx⟩ : ∃ z : Int, (xs (i + 2).toNat).toInt = z := ⟨_, rfl⟩
  by_cases hu : 0 ≤ u ∧ u < 4
  · skip
    by_cases hx : 0 ≤ x ∧ x < fP F
    · skip
      exact lk_slopeByRules_0 hC hi ob tx tc ps b k1 k2 k3 k4 k5 k6 s1 i1 s2 i2 ho ha rk t0 q0 t1 q1 t2 q2 t3 q3 t4 q4 t5 q5 mo az ap ak ax a1 a2 a3 a4 a5 a6 v1 v2 v3 v4 v5 v6 o9 Fam F r S tn tf n f Fh so ik th bn N Z P Kp K o u x hI hxu hxx hu hx hW hl hR kk
    · skip
      exact lk_slopeByRules_2 hC hi ob tx tc ps b k1 k2 k3 k4 k5 k6 s1 i1 s2 i2 ho ha rk t0 q0 t1 q1 t2 q2 t3 q3 t4 q4 t5 q5 mo az ap ak ax a1 a2 a3 a4 a5 a6 v1 v2 v3 v4 v5 v6 o9 Fam F r S tn tf n f Fh so ik th bn N Z P Kp K o u x hI hxu hxx hu (by omega) hW hl hR kk
  · skip
    exact lk_slopeByRules_1 hC hi ob tx tc ps b k1 k2 k3 k4 k5 k6 s1 i1 s2 i2 ho ha rk t0 q0 t1 q1 t2 q2 t3 q3 t4 q4 t5 q5 mo az ap ak ax a1 a2 a3 a4 a5 a6 v1 v2 v3 v4 v5 v6 o9 Fam F r S tn tf n f Fh so ik th bn N Z P Kp K o u x hI hxu hxx (by omega) hW hl hR kk
theorem dk_chainByProducts {p : Program} {l : Launch} {e : Env} {s : State} {m : MethodId} {below : List Frame} {meth : Method} {c : Code} {H : Heap} {locs : List Loc} {cells slots : Nat} {Q : State → Prop} {ls : Array Slot} {g : GG} {b0 L : Nat} {xs : Nat → Int32} (hC : LC p l s m b0 L xs meth c g) {i : Int} (hi : 0 ≤ i ∧ i + 4 ≤ L) (ob tx tc ps b k1 k2 k3 k4 k5 k6 s1 i1 s2 i2 ho ha rk t0 q0 t1 q1 t2 q2 t3 q3 t4 q4 t5 q5 mo az ap ak ax a1 a2 a3 a4 a5 a6 v1 v2 v3 v4 v5 v6 o9 : Nat) (hI : LInv g (fun q => s.heap.size ≤ q) s.heap H locs ob tx tc ps b k1 k2 k3 k4 k5 k6 s1 i1 s2 i2 ho ha rk t0 q0 t1 q1 t2 q2 t3 q3 t4 q4 t5 q5 mo az ap ak ax a1 a2 a3 a4 a5 a6 v1 v2 v3 v4 v5 v6 o9) (hl : lv_has ls 7 [(4, .int (iI i)), (3, .ref o9), (2, .ref mo), (1, .ref ob), (0, .ref b0)]) (hR : cells + 7 ≤ 600000 ∧ slots + 200 ≤ 7290000) (kk : ∀ (H1 : Heap) (locs1 : List Loc) (ls1 : Array Slot), LInv g (fun q => s.heap.size ≤ q) s.heap H1 locs1 ob tx tc ps b k1 k2 k3 k4 k5 k6 s1 i1 s2 i2 ho ha rk t0 q0 t1 q1 t2 q2 t3 q3 t4 q4 t5 q5 mo az ap ak ax a1 a2 a3 a4 a5 a6 v1 v2 v3 v4 v5 v6 o9 → lv_has ls1 7 [(4, .int (iI i)), (3, .ref o9), (2, .ref mo), (1, .ref ob), (0, .ref b0)] → W p l e room_1 s m #[.ref b0] below meth c H1 locs1 (cells + 7) (slots + 200) Q (F0 m 1562 ls1 [])) : W p l e room_1 s m #[.ref b0] below meth c H locs cells slots Q (F0 m 954 ls []) := by
  obtain ⟨Fam, F, r, S, tn, tf, n, f, Fh, so, ik, th, bn, N, Z, P, Kp, K, o, hW, hI⟩ := hI
  obtain ⟨-, -, -, -, ht, -, hHR, hSN, -, -⟩ := id hI
  have hn4 := hHR.1
  obtain ⟨w, hxw⟩ : ∃ z : Int, (xs (i + 1).toNat).toInt = z := ⟨_, rfl⟩
  obtain ⟨u, hxu⟩ : ∃ z : Int, (xs (i + 2).toNat).toInt = z := ⟨_, rfl⟩
  obtain ⟨x, hxx⟩ : ∃ z : Int, (xs (i + 3).toNat).toInt = z := ⟨_, rfl⟩
  by_cases hw : 0 ≤ w ∧ w < 4
  · skip
    by_cases hu : 0 ≤ u ∧ u < 4
    · skip
      by_cases hx : 0 ≤ x ∧ x < fP F
      · skip
        exact lk_chainByProducts_0 hC hi ob tx tc ps b k1 k2 k3 k4 k5 k6 s1 i1 s2 i2 ho ha rk t0 q0 t1 q1 t2 q2 t3 q3 t4 q4 t5 q5 mo az ap ak ax a1 a2 a3 a4 a5 a6 v1 v2 v3 v4 v5 v6 o9 Fam F r S tn tf n f Fh so ik th bn N Z P Kp K o w u x hI hxw hxu hxx hw hu hx hW hl hR kk
      · skip
        exact lk_chainByProducts_2 hC hi ob tx tc ps b k1 k2 k3 k4 k5 k6 s1 i1 s2 i2 ho ha rk t0 q0 t1 q1 t2 q2 t3 q3 t4 q4 t5 q5 mo az ap ak ax a1 a2 a3 a4 a5 a6 v1 v2 v3 v4 v5 v6 o9 Fam F r S tn tf n f Fh so ik th bn N Z P Kp K o w u x hI hxw hxu hxx hw hu (by omega) hW hl hR kk
    · skip
      exact lk_chainByProducts_3 hC hi ob tx tc ps b k1 k2 k3 k4 k5 k6 s1 i1 s2 i2 ho ha rk t0 q0 t1 q1 t2 q2 t3 q3 t4 q4 t5 q5 mo az ap ak ax a1 a2 a3 a4 a5 a6 v1 v2 v3 v4 v5 v6 o9 Fam F r S tn tf n f Fh so ik th bn N Z P Kp K o w u x hI hxw hxu hxx hw (by omega) hW hl hR kk
  · skip
    exact lk_chainByProducts_1 hC hi ob tx tc ps b k1 k2 k3 k4 k5 k6 s1 i1 s2 i2 ho ha rk t0 q0 t1 q1 t2 q2 t3 q3 t4 q4 t5 q5 mo az ap ak ax a1 a2 a3 a4 a5 a6 v1 v2 v3 v4 v5 v6 o9 Fam F r S tn tf n f Fh so ik th bn N Z P Kp K o w u x hI hxw hxu hxx (by omega) hW hl hR kk
theorem dk_chainByFeeding {p : Program} {l : Launch} {e : Env} {s : State} {m : MethodId} {below : List Frame} {meth : Method} {c : Code} {H : Heap} {locs : List Loc} {cells slots : Nat} {Q : State → Prop} {ls : Array Slot} {g : GG} {b0 L : Nat} {xs : Nat → Int32} (hC : LC p l s m b0 L xs meth c g) {i : Int} (hi : 0 ≤ i ∧ i + 4 ≤ L) (ob tx tc ps b k1 k2 k3 k4 k5 k6 s1 i1 s2 i2 ho ha rk t0 q0 t1 q1 t2 q2 t3 q3 t4 q4 t5 q5 mo az ap ak ax a1 a2 a3 a4 a5 a6 v1 v2 v3 v4 v5 v6 o9 : Nat) (hI : LInv g (fun q => s.heap.size ≤ q) s.heap H locs ob tx tc ps b k1 k2 k3 k4 k5 k6 s1 i1 s2 i2 ho ha rk t0 q0 t1 q1 t2 q2 t3 q3 t4 q4 t5 q5 mo az ap ak ax a1 a2 a3 a4 a5 a6 v1 v2 v3 v4 v5 v6 o9) (hl : lv_has ls 7 [(4, .int (iI i)), (3, .ref o9), (2, .ref mo), (1, .ref ob), (0, .ref b0)]) (hR : cells + 7 ≤ 600000 ∧ slots + 200 ≤ 7290000) (kk : ∀ (H1 : Heap) (locs1 : List Loc) (ls1 : Array Slot), LInv g (fun q => s.heap.size ≤ q) s.heap H1 locs1 ob tx tc ps b k1 k2 k3 k4 k5 k6 s1 i1 s2 i2 ho ha rk t0 q0 t1 q1 t2 q2 t3 q3 t4 q4 t5 q5 mo az ap ak ax a1 a2 a3 a4 a5 a6 v1 v2 v3 v4 v5 v6 o9 → lv_has ls1 7 [(4, .int (iI i)), (3, .ref o9), (2, .ref mo), (1, .ref ob), (0, .ref b0)] → W p l e room_1 s m #[.ref b0] below meth c H1 locs1 (cells + 7) (slots + 200) Q (F0 m 1562 ls1 [])) : W p l e room_1 s m #[.ref b0] below meth c H locs cells slots Q (F0 m 1034 ls []) := by
  obtain ⟨Fam, F, r, S, tn, tf, n, f, Fh, so, ik, th, bn, N, Z, P, Kp, K, o, hW, hI⟩ := hI
  obtain ⟨-, -, -, -, ht, -, hHR, hSN, -, -⟩ := id hI
  have hn4 := hHR.1
  obtain ⟨w, hxw⟩ : ∃ z : Int, (xs (i + 1).toNat).toInt = z := ⟨_, rfl⟩
  obtain ⟨u, hxu⟩ : ∃ z : Int, (xs (i + 2).toNat).toInt = z := ⟨_, rfl⟩
  obtain ⟨x, hxx⟩ : ∃ z : Int, (xs (i + 3).toNat).toInt = z := ⟨_, rfl⟩
  by_cases hw : 0 ≤ w ∧ w < 4
  · skip
    by_cases hu : 0 ≤ u ∧ u < 4
    · skip
      by_cases hx : 0 ≤ x ∧ x < fP F
      · skip
        exact lk_chainByFeeding_0 hC hi ob tx tc ps b k1 k2 k3 k4 k5 k6 s1 i1 s2 i2 ho ha rk t0 q0 t1 q1 t2 q2 t3 q3 t4 q4 t5 q5 mo az ap ak ax a1 a2 a3 a4 a5 a6 v1 v2 v3 v4 v5 v6 o9 Fam F r S tn tf n f Fh so ik th bn N Z P Kp K o w u x hI hxw hxu hxx hw hu hx hW hl hR kk
      · skip
        exact lk_chainByFeeding_2 hC hi ob tx tc ps b k1 k2 k3 k4 k5 k6 s1 i1 s2 i2 ho ha rk t0 q0 t1 q1 t2 q2 t3 q3 t4 q4 t5 q5 mo az ap ak ax a1 a2 a3 a4 a5 a6 v1 v2 v3 v4 v5 v6 o9 Fam F r S tn tf n f Fh so ik th bn N Z P Kp K o w u x hI hxw hxu hxx hw hu (by omega) hW hl hR kk
    · skip
      exact lk_chainByFeeding_3 hC hi ob tx tc ps b k1 k2 k3 k4 k5 k6 s1 i1 s2 i2 ho ha rk t0 q0 t1 q1 t2 q2 t3 q3 t4 q4 t5 q5 mo az ap ak ax a1 a2 a3 a4 a5 a6 v1 v2 v3 v4 v5 v6 o9 Fam F r S tn tf n f Fh so ik th bn N Z P Kp K o w u x hI hxw hxu hxx hw (by omega) hW hl hR kk
  · skip
    exact lk_chainByFeeding_1 hC hi ob tx tc ps b k1 k2 k3 k4 k5 k6 s1 i1 s2 i2 ho ha rk t0 q0 t1 q1 t2 q2 t3 q3 t4 q4 t5 q5 mo az ap ak ax a1 a2 a3 a4 a5 a6 v1 v2 v3 v4 v5 v6 o9 Fam F r S tn tf n f Fh so ik th bn N Z P Kp K o w u x hI hxw hxu hxx (by omega) hW hl hR kk
theorem dk_bansOf {p : Program} {l : Launch} {e : Env} {s : State} {m : MethodId} {below : List Frame} {meth : Method} {c : Code} {H : Heap} {locs : List Loc} {cells slots : Nat} {Q : State → Prop} {ls : Array Slot} {g : GG} {b0 L : Nat} {xs : Nat → Int32} (hC : LC p l s m b0 L xs meth c g) {i : Int} (hi : 0 ≤ i ∧ i + 4 ≤ L) (ob tx tc ps b k1 k2 k3 k4 k5 k6 s1 i1 s2 i2 ho ha rk t0 q0 t1 q1 t2 q2 t3 q3 t4 q4 t5 q5 mo az ap ak ax a1 a2 a3 a4 a5 a6 v1 v2 v3 v4 v5 v6 o9 : Nat) (hI : LInv g (fun q => s.heap.size ≤ q) s.heap H locs ob tx tc ps b k1 k2 k3 k4 k5 k6 s1 i1 s2 i2 ho ha rk t0 q0 t1 q1 t2 q2 t3 q3 t4 q4 t5 q5 mo az ap ak ax a1 a2 a3 a4 a5 a6 v1 v2 v3 v4 v5 v6 o9) (hl : lv_has ls 7 [(4, .int (iI i)), (3, .ref o9), (2, .ref mo), (1, .ref ob), (0, .ref b0)]) (hR : cells + 7 ≤ 600000 ∧ slots + 200 ≤ 7290000) (kk : ∀ (H1 : Heap) (locs1 : List Loc) (ls1 : Array Slot), LInv g (fun q => s.heap.size ≤ q) s.heap H1 locs1 ob tx tc ps b k1 k2 k3 k4 k5 k6 s1 i1 s2 i2 ho ha rk t0 q0 t1 q1 t2 q2 t3 q3 t4 q4 t5 q5 mo az ap ak ax a1 a2 a3 a4 a5 a6 v1 v2 v3 v4 v5 v6 o9 → lv_has ls1 7 [(4, .int (iI i)), (3, .ref o9), (2, .ref mo), (1, .ref ob), (0, .ref b0)] → W p l e room_1 s m #[.ref b0] below meth c H1 locs1 (cells + 7) (slots + 200) Q (F0 m 1562 ls1 [])) : W p l e room_1 s m #[.ref b0] below meth c H locs cells slots Q (F0 m 1114 ls []) := by
  obtain ⟨Fam, F, r, S, tn, tf, n, f, Fh, so, ik, th, bn, N, Z, P, Kp, K, o, hW, hI⟩ := hI
  obtain ⟨-, -, -, -, ht, -, hHR, hSN, -, -⟩ := id hI
  have hn4 := hHR.1
  obtain ⟨u, hxu⟩ : ∃ z : Int, (xs (i + 1).toNat).toInt = z := ⟨_, rfl⟩
  by_cases hu : 0 ≤ u ∧ u < 4
  · skip
    exact lk_bansOf_0 hC hi ob tx tc ps b k1 k2 k3 k4 k5 k6 s1 i1 s2 i2 ho ha rk t0 q0 t1 q1 t2 q2 t3 q3 t4 q4 t5 q5 mo az ap ak ax a1 a2 a3 a4 a5 a6 v1 v2 v3 v4 v5 v6 o9 Fam F r S tn tf n f Fh so ik th bn N Z P Kp K o u hI hxu hu hW hl hR kk
  · skip
    exact lk_bansOf_1 hC hi ob tx tc ps b k1 k2 k3 k4 k5 k6 s1 i1 s2 i2 ho ha rk t0 q0 t1 q1 t2 q2 t3 q3 t4 q4 t5 q5 mo az ap ak ax a1 a2 a3 a4 a5 a6 v1 v2 v3 v4 v5 v6 o9 Fam F r S tn tf n f Fh so ik th bn N Z P Kp K o u hI hxu (by omega) hW hl hR kk
theorem dk_flatsOf {p : Program} {l : Launch} {e : Env} {s : State} {m : MethodId} {below : List Frame} {meth : Method} {c : Code} {H : Heap} {locs : List Loc} {cells slots : Nat} {Q : State → Prop} {ls : Array Slot} {g : GG} {b0 L : Nat} {xs : Nat → Int32} (hC : LC p l s m b0 L xs meth c g) {i : Int} (hi : 0 ≤ i ∧ i + 4 ≤ L) (ob tx tc ps b k1 k2 k3 k4 k5 k6 s1 i1 s2 i2 ho ha rk t0 q0 t1 q1 t2 q2 t3 q3 t4 q4 t5 q5 mo az ap ak ax a1 a2 a3 a4 a5 a6 v1 v2 v3 v4 v5 v6 o9 : Nat) (hI : LInv g (fun q => s.heap.size ≤ q) s.heap H locs ob tx tc ps b k1 k2 k3 k4 k5 k6 s1 i1 s2 i2 ho ha rk t0 q0 t1 q1 t2 q2 t3 q3 t4 q4 t5 q5 mo az ap ak ax a1 a2 a3 a4 a5 a6 v1 v2 v3 v4 v5 v6 o9) (hl : lv_has ls 7 [(4, .int (iI i)), (3, .ref o9), (2, .ref mo), (1, .ref ob), (0, .ref b0)]) (hR : cells + 7 ≤ 600000 ∧ slots + 200 ≤ 7290000) (kk : ∀ (H1 : Heap) (locs1 : List Loc) (ls1 : Array Slot), LInv g (fun q => s.heap.size ≤ q) s.heap H1 locs1 ob tx tc ps b k1 k2 k3 k4 k5 k6 s1 i1 s2 i2 ho ha rk t0 q0 t1 q1 t2 q2 t3 q3 t4 q4 t5 q5 mo az ap ak ax a1 a2 a3 a4 a5 a6 v1 v2 v3 v4 v5 v6 o9 → lv_has ls1 7 [(4, .int (iI i)), (3, .ref o9), (2, .ref mo), (1, .ref ob), (0, .ref b0)] → W p l e room_1 s m #[.ref b0] below meth c H1 locs1 (cells + 7) (slots + 200) Q (F0 m 1562 ls1 [])) : W p l e room_1 s m #[.ref b0] below meth c H locs cells slots Q (F0 m 1170 ls []) := by
  obtain ⟨Fam, F, r, S, tn, tf, n, f, Fh, so, ik, th, bn, N, Z, P, Kp, K, o, hW, hI⟩ := hI
  obtain ⟨-, -, -, -, ht, -, hHR, hSN, -, -⟩ := id hI
  have hn4 := hHR.1
  obtain ⟨u, hxu⟩ : ∃ z : Int, (xs (i + 1).toNat).toInt = z := ⟨_, rfl⟩
  by_cases hu : 0 ≤ u ∧ u < 4
  · skip
    exact lk_flatsOf_0 hC hi ob tx tc ps b k1 k2 k3 k4 k5 k6 s1 i1 s2 i2 ho ha rk t0 q0 t1 q1 t2 q2 t3 q3 t4 q4 t5 q5 mo az ap ak ax a1 a2 a3 a4 a5 a6 v1 v2 v3 v4 v5 v6 o9 Fam F r S tn tf n f Fh so ik th bn N Z P Kp K o u hI hxu hu hW hl hR kk
  · skip
    exact lk_flatsOf_1 hC hi ob tx tc ps b k1 k2 k3 k4 k5 k6 s1 i1 s2 i2 ho ha rk t0 q0 t1 q1 t2 q2 t3 q3 t4 q4 t5 q5 mo az ap ak ax a1 a2 a3 a4 a5 a6 v1 v2 v3 v4 v5 v6 o9 Fam F r S tn tf n f Fh so ik th bn N Z P Kp K o u hI hxu (by omega) hW hl hR kk
theorem dk_firstFlat {p : Program} {l : Launch} {e : Env} {s : State} {m : MethodId} {below : List Frame} {meth : Method} {c : Code} {H : Heap} {locs : List Loc} {cells slots : Nat} {Q : State → Prop} {ls : Array Slot} {g : GG} {b0 L : Nat} {xs : Nat → Int32} (hC : LC p l s m b0 L xs meth c g) {i : Int} (hi : 0 ≤ i ∧ i + 4 ≤ L) (ob tx tc ps b k1 k2 k3 k4 k5 k6 s1 i1 s2 i2 ho ha rk t0 q0 t1 q1 t2 q2 t3 q3 t4 q4 t5 q5 mo az ap ak ax a1 a2 a3 a4 a5 a6 v1 v2 v3 v4 v5 v6 o9 : Nat) (hI : LInv g (fun q => s.heap.size ≤ q) s.heap H locs ob tx tc ps b k1 k2 k3 k4 k5 k6 s1 i1 s2 i2 ho ha rk t0 q0 t1 q1 t2 q2 t3 q3 t4 q4 t5 q5 mo az ap ak ax a1 a2 a3 a4 a5 a6 v1 v2 v3 v4 v5 v6 o9) (hl : lv_has ls 7 [(4, .int (iI i)), (3, .ref o9), (2, .ref mo), (1, .ref ob), (0, .ref b0)]) (hR : cells + 7 ≤ 600000 ∧ slots + 200 ≤ 7290000) (kk : ∀ (H1 : Heap) (locs1 : List Loc) (ls1 : Array Slot), LInv g (fun q => s.heap.size ≤ q) s.heap H1 locs1 ob tx tc ps b k1 k2 k3 k4 k5 k6 s1 i1 s2 i2 ho ha rk t0 q0 t1 q1 t2 q2 t3 q3 t4 q4 t5 q5 mo az ap ak ax a1 a2 a3 a4 a5 a6 v1 v2 v3 v4 v5 v6 o9 → lv_has ls1 7 [(4, .int (iI i)), (3, .ref o9), (2, .ref mo), (1, .ref ob), (0, .ref b0)] → W p l e room_1 s m #[.ref b0] below meth c H1 locs1 (cells + 7) (slots + 200) Q (F0 m 1562 ls1 [])) : W p l e room_1 s m #[.ref b0] below meth c H locs cells slots Q (F0 m 1226 ls []) := by
  obtain ⟨Fam, F, r, S, tn, tf, n, f, Fh, so, ik, th, bn, N, Z, P, Kp, K, o, hW, hI⟩ := hI
  obtain ⟨-, -, -, -, ht, -, hHR, hSN, -, -⟩ := id hI
  have hn4 := hHR.1
  obtain ⟨u, hxu⟩ : ∃ z : Int, (xs (i + 1).toNat).toInt = z := ⟨_, rfl⟩
  by_cases hu : 0 ≤ u ∧ u < 4
  · skip
    exact lk_firstFlat_0 hC hi ob tx tc ps b k1 k2 k3 k4 k5 k6 s1 i1 s2 i2 ho ha rk t0 q0 t1 q1 t2 q2 t3 q3 t4 q4 t5 q5 mo az ap ak ax a1 a2 a3 a4 a5 a6 v1 v2 v3 v4 v5 v6 o9 Fam F r S tn tf n f Fh so ik th bn N Z P Kp K o u hI hxu hu hW hl hR kk
  · skip
    exact lk_firstFlat_1 hC hi ob tx tc ps b k1 k2 k3 k4 k5 k6 s1 i1 s2 i2 ho ha rk t0 q0 t1 q1 t2 q2 t3 q3 t4 q4 t5 q5 mo az ap ak ax a1 a2 a3 a4 a5 a6 v1 v2 v3 v4 v5 v6 o9 Fam F r S tn tf n f Fh so ik th bn N Z P Kp K o u hI hxu (by omega) hW hl hR kk
theorem dk_rootsOf {p : Program} {l : Launch} {e : Env} {s : State} {m : MethodId} {below : List Frame} {meth : Method} {c : Code} {H : Heap} {locs : List Loc} {cells slots : Nat} {Q : State → Prop} {ls : Array Slot} {g : GG} {b0 L : Nat} {xs : Nat → Int32} (hC : LC p l s m b0 L xs meth c g) {i : Int} (hi : 0 ≤ i ∧ i + 4 ≤ L) (ob tx tc ps b k1 k2 k3 k4 k5 k6 s1 i1 s2 i2 ho ha rk t0 q0 t1 q1 t2 q2 t3 q3 t4 q4 t5 q5 mo az ap ak ax a1 a2 a3 a4 a5 a6 v1 v2 v3 v4 v5 v6 o9 : Nat) (hI : LInv g (fun q => s.heap.size ≤ q) s.heap H locs ob tx tc ps b k1 k2 k3 k4 k5 k6 s1 i1 s2 i2 ho ha rk t0 q0 t1 q1 t2 q2 t3 q3 t4 q4 t5 q5 mo az ap ak ax a1 a2 a3 a4 a5 a6 v1 v2 v3 v4 v5 v6 o9) (hl : lv_has ls 7 [(4, .int (iI i)), (3, .ref o9), (2, .ref mo), (1, .ref ob), (0, .ref b0)]) (hR : cells + 7 ≤ 600000 ∧ slots + 200 ≤ 7290000) (kk : ∀ (H1 : Heap) (locs1 : List Loc) (ls1 : Array Slot), LInv g (fun q => s.heap.size ≤ q) s.heap H1 locs1 ob tx tc ps b k1 k2 k3 k4 k5 k6 s1 i1 s2 i2 ho ha rk t0 q0 t1 q1 t2 q2 t3 q3 t4 q4 t5 q5 mo az ap ak ax a1 a2 a3 a4 a5 a6 v1 v2 v3 v4 v5 v6 o9 → lv_has ls1 7 [(4, .int (iI i)), (3, .ref o9), (2, .ref mo), (1, .ref ob), (0, .ref b0)] → W p l e room_1 s m #[.ref b0] below meth c H1 locs1 (cells + 7) (slots + 200) Q (F0 m 1562 ls1 [])) : W p l e room_1 s m #[.ref b0] below meth c H locs cells slots Q (F0 m 1282 ls []) := by
  obtain ⟨Fam, F, r, S, tn, tf, n, f, Fh, so, ik, th, bn, N, Z, P, Kp, K, o, hW, hI⟩ := hI
  obtain ⟨-, -, -, -, ht, -, hHR, hSN, -, -⟩ := id hI
  have hn4 := hHR.1
  obtain ⟨u, hxu⟩ : ∃ z : Int, (xs (i + 1).toNat).toInt = z := ⟨_, rfl⟩
  by_cases hu : 0 ≤ u ∧ u < 4
  · skip
    exact lk_rootsOf_0 hC hi ob tx tc ps b k1 k2 k3 k4 k5 k6 s1 i1 s2 i2 ho ha rk t0 q0 t1 q1 t2 q2 t3 q3 t4 q4 t5 q5 mo az ap ak ax a1 a2 a3 a4 a5 a6 v1 v2 v3 v4 v5 v6 o9 Fam F r S tn tf n f Fh so ik th bn N Z P Kp K o u hI hxu hu hW hl hR kk
  · skip
    exact lk_rootsOf_1 hC hi ob tx tc ps b k1 k2 k3 k4 k5 k6 s1 i1 s2 i2 ho ha rk t0 q0 t1 q1 t2 q2 t3 q3 t4 q4 t5 q5 mo az ap ak ax a1 a2 a3 a4 a5 a6 v1 v2 v3 v4 v5 v6 o9 Fam F r S tn tf n f Fh so ik th bn N Z P Kp K o u hI hxu (by omega) hW hl hR kk
theorem dk_isSame {p : Program} {l : Launch} {e : Env} {s : State} {m : MethodId} {below : List Frame} {meth : Method} {c : Code} {H : Heap} {locs : List Loc} {cells slots : Nat} {Q : State → Prop} {ls : Array Slot} {g : GG} {b0 L : Nat} {xs : Nat → Int32} (hC : LC p l s m b0 L xs meth c g) {i : Int} (hi : 0 ≤ i ∧ i + 4 ≤ L) (ob tx tc ps b k1 k2 k3 k4 k5 k6 s1 i1 s2 i2 ho ha rk t0 q0 t1 q1 t2 q2 t3 q3 t4 q4 t5 q5 mo az ap ak ax a1 a2 a3 a4 a5 a6 v1 v2 v3 v4 v5 v6 o9 : Nat) (hI : LInv g (fun q => s.heap.size ≤ q) s.heap H locs ob tx tc ps b k1 k2 k3 k4 k5 k6 s1 i1 s2 i2 ho ha rk t0 q0 t1 q1 t2 q2 t3 q3 t4 q4 t5 q5 mo az ap ak ax a1 a2 a3 a4 a5 a6 v1 v2 v3 v4 v5 v6 o9) (hl : lv_has ls 7 [(4, .int (iI i)), (3, .ref o9), (2, .ref mo), (1, .ref ob), (0, .ref b0)]) (hR : cells + 7 ≤ 600000 ∧ slots + 200 ≤ 7290000) (kk : ∀ (H1 : Heap) (locs1 : List Loc) (ls1 : Array Slot), LInv g (fun q => s.heap.size ≤ q) s.heap H1 locs1 ob tx tc ps b k1 k2 k3 k4 k5 k6 s1 i1 s2 i2 ho ha rk t0 q0 t1 q1 t2 q2 t3 q3 t4 q4 t5 q5 mo az ap ak ax a1 a2 a3 a4 a5 a6 v1 v2 v3 v4 v5 v6 o9 → lv_has ls1 7 [(4, .int (iI i)), (3, .ref o9), (2, .ref mo), (1, .ref ob), (0, .ref b0)] → W p l e room_1 s m #[.ref b0] below meth c H1 locs1 (cells + 7) (slots + 200) Q (F0 m 1562 ls1 [])) : W p l e room_1 s m #[.ref b0] below meth c H locs cells slots Q (F0 m 1338 ls []) := by
  obtain ⟨Fam, F, r, S, tn, tf, n, f, Fh, so, ik, th, bn, N, Z, P, Kp, K, o, hW, hI⟩ := hI
  obtain ⟨-, -, -, -, ht, -, hHR, hSN, -, -⟩ := id hI
  have hn4 := hHR.1
  obtain ⟨u, hxu⟩ : ∃ z : Int, (xs (i + 1).toNat).toInt = z := ⟨_, rfl⟩
  obtain ⟨w, hxw⟩ : ∃ z : Int, (xs (i + 2).toNat).toInt = z := ⟨_, rfl⟩
  by_cases hu : 0 ≤ u ∧ u < 4
  · skip
    by_cases hw : 0 ≤ w ∧ w < 4
    · skip
      exact lk_isSame_0 hC hi ob tx tc ps b k1 k2 k3 k4 k5 k6 s1 i1 s2 i2 ho ha rk t0 q0 t1 q1 t2 q2 t3 q3 t4 q4 t5 q5 mo az ap ak ax a1 a2 a3 a4 a5 a6 v1 v2 v3 v4 v5 v6 o9 Fam F r S tn tf n f Fh so ik th bn N Z P Kp K o u w hI hxu hxw hu hw hW hl hR kk
    · skip
      exact lk_isSame_3 hC hi ob tx tc ps b k1 k2 k3 k4 k5 k6 s1 i1 s2 i2 ho ha rk t0 q0 t1 q1 t2 q2 t3 q3 t4 q4 t5 q5 mo az ap ak ax a1 a2 a3 a4 a5 a6 v1 v2 v3 v4 v5 v6 o9 Fam F r S tn tf n f Fh so ik th bn N Z P Kp K o u w hI hxu hxw hu (by omega) hW hl hR kk
  · skip
    exact lk_isSame_1 hC hi ob tx tc ps b k1 k2 k3 k4 k5 k6 s1 i1 s2 i2 ho ha rk t0 q0 t1 q1 t2 q2 t3 q3 t4 q4 t5 q5 mo az ap ak ax a1 a2 a3 a4 a5 a6 v1 v2 v3 v4 v5 v6 o9 Fam F r S tn tf n f Fh so ik th bn N Z P Kp K o u w hI hxu hxw (by omega) hW hl hR kk
theorem dk_step {p : Program} {l : Launch} {e : Env} {s : State} {m : MethodId} {below : List Frame} {meth : Method} {c : Code} {H : Heap} {locs : List Loc} {cells slots : Nat} {Q : State → Prop} {ls : Array Slot} {g : GG} {b0 L : Nat} {xs : Nat → Int32} (hC : LC p l s m b0 L xs meth c g) {i : Int} (hi : 0 ≤ i ∧ i + 4 ≤ L) (ob tx tc ps b k1 k2 k3 k4 k5 k6 s1 i1 s2 i2 ho ha rk t0 q0 t1 q1 t2 q2 t3 q3 t4 q4 t5 q5 mo az ap ak ax a1 a2 a3 a4 a5 a6 v1 v2 v3 v4 v5 v6 o9 : Nat) (hI : LInv g (fun q => s.heap.size ≤ q) s.heap H locs ob tx tc ps b k1 k2 k3 k4 k5 k6 s1 i1 s2 i2 ho ha rk t0 q0 t1 q1 t2 q2 t3 q3 t4 q4 t5 q5 mo az ap ak ax a1 a2 a3 a4 a5 a6 v1 v2 v3 v4 v5 v6 o9) (hl : lv_has ls 7 [(4, .int (iI i)), (3, .ref o9), (2, .ref mo), (1, .ref ob), (0, .ref b0)]) (hR : cells + 7 ≤ 600000 ∧ slots + 200 ≤ 7290000) (kk : ∀ (H1 : Heap) (locs1 : List Loc) (ls1 : Array Slot), LInv g (fun q => s.heap.size ≤ q) s.heap H1 locs1 ob tx tc ps b k1 k2 k3 k4 k5 k6 s1 i1 s2 i2 ho ha rk t0 q0 t1 q1 t2 q2 t3 q3 t4 q4 t5 q5 mo az ap ak ax a1 a2 a3 a4 a5 a6 v1 v2 v3 v4 v5 v6 o9 → lv_has ls1 7 [(4, .int (iI i)), (3, .ref o9), (2, .ref mo), (1, .ref ob), (0, .ref b0)] → W p l e room_1 s m #[.ref b0] below meth c H1 locs1 (cells + 7) (slots + 200) Q (F0 m 1562 ls1 [])) : W p l e room_1 s m #[.ref b0] below meth c H locs cells slots Q (F0 m 1413 ls []) := by
  obtain ⟨Fam, F, r, S, tn, tf, n, f, Fh, so, ik, th, bn, N, Z, P, Kp, K, o, hW, hI⟩ := hI
  obtain ⟨-, -, -, -, ht, -, hHR, hSN, -, -⟩ := id hI
  have hn4 := hHR.1
  obtain ⟨u, hxu⟩ : ∃ z : Int, (xs (i + 1).toNat).toInt = z := ⟨_, rfl⟩
  obtain ⟨x, hxx⟩ : ∃ z : Int, (xs (i + 2).toNat).toInt = z := ⟨_, rfl⟩
  by_cases hu : 0 ≤ u ∧ u < 4
  · skip
    by_cases hx : 0 ≤ x ∧ x < fP F
    · skip
      exact lk_step_0 hC hi ob tx tc ps b k1 k2 k3 k4 k5 k6 s1 i1 s2 i2 ho ha rk t0 q0 t1 q1 t2 q2 t3 q3 t4 q4 t5 q5 mo az ap ak ax a1 a2 a3 a4 a5 a6 v1 v2 v3 v4 v5 v6 o9 Fam F r S tn tf n f Fh so ik th bn N Z P Kp K o u x hI hxu hxx hu hx hW hl hR kk
    · skip
      exact lk_step_2 hC hi ob tx tc ps b k1 k2 k3 k4 k5 k6 s1 i1 s2 i2 ho ha rk t0 q0 t1 q1 t2 q2 t3 q3 t4 q4 t5 q5 mo az ap ak ax a1 a2 a3 a4 a5 a6 v1 v2 v3 v4 v5 v6 o9 Fam F r S tn tf n f Fh so ik th bn N Z P Kp K o u x hI hxu hxx hu (by omega) hW hl hR kk
  · skip
    exact lk_step_1 hC hi ob tx tc ps b k1 k2 k3 k4 k5 k6 s1 i1 s2 i2 ho ha rk t0 q0 t1 q1 t2 q2 t3 q3 t4 q4 t5 q5 mo az ap ak ax a1 a2 a3 a4 a5 a6 v1 v2 v3 v4 v5 v6 o9 Fam F r S tn tf n f Fh so ik th bn N Z P Kp K o u x hI hxu hxx (by omega) hW hl hR kk
theorem dk_stepsToRoot {p : Program} {l : Launch} {e : Env} {s : State} {m : MethodId} {below : List Frame} {meth : Method} {c : Code} {H : Heap} {locs : List Loc} {cells slots : Nat} {Q : State → Prop} {ls : Array Slot} {g : GG} {b0 L : Nat} {xs : Nat → Int32} (hC : LC p l s m b0 L xs meth c g) {i : Int} (hi : 0 ≤ i ∧ i + 4 ≤ L) (ob tx tc ps b k1 k2 k3 k4 k5 k6 s1 i1 s2 i2 ho ha rk t0 q0 t1 q1 t2 q2 t3 q3 t4 q4 t5 q5 mo az ap ak ax a1 a2 a3 a4 a5 a6 v1 v2 v3 v4 v5 v6 o9 : Nat) (hI : LInv g (fun q => s.heap.size ≤ q) s.heap H locs ob tx tc ps b k1 k2 k3 k4 k5 k6 s1 i1 s2 i2 ho ha rk t0 q0 t1 q1 t2 q2 t3 q3 t4 q4 t5 q5 mo az ap ak ax a1 a2 a3 a4 a5 a6 v1 v2 v3 v4 v5 v6 o9) (hl : lv_has ls 7 [(4, .int (iI i)), (3, .ref o9), (2, .ref mo), (1, .ref ob), (0, .ref b0)]) (hR : cells + 7 ≤ 600000 ∧ slots + 200 ≤ 7290000) (kk : ∀ (H1 : Heap) (locs1 : List Loc) (ls1 : Array Slot), LInv g (fun q => s.heap.size ≤ q) s.heap H1 locs1 ob tx tc ps b k1 k2 k3 k4 k5 k6 s1 i1 s2 i2 ho ha rk t0 q0 t1 q1 t2 q2 t3 q3 t4 q4 t5 q5 mo az ap ak ax a1 a2 a3 a4 a5 a6 v1 v2 v3 v4 v5 v6 o9 → lv_has ls1 7 [(4, .int (iI i)), (3, .ref o9), (2, .ref mo), (1, .ref ob), (0, .ref b0)] → W p l e room_1 s m #[.ref b0] below meth c H1 locs1 (cells + 7) (slots + 200) Q (F0 m 1562 ls1 [])) : W p l e room_1 s m #[.ref b0] below meth c H locs cells slots Q (F0 m 1481 ls []) := by
  obtain ⟨Fam, F, r, S, tn, tf, n, f, Fh, so, ik, th, bn, N, Z, P, Kp, K, o, hW, hI⟩ := hI
  obtain ⟨-, -, -, -, ht, -, hHR, hSN, -, -⟩ := id hI
  have hn4 := hHR.1
  obtain ⟨u, hxu⟩ : ∃ z : Int, (xs (i + 1).toNat).toInt = z := ⟨_, rfl⟩
  obtain ⟨x, hxx⟩ : ∃ z : Int, (xs (i + 2).toNat).toInt = z := ⟨_, rfl⟩
  by_cases hu : 0 ≤ u ∧ u < 4
  · skip
    by_cases hx : 0 ≤ x ∧ x < fP F
    · skip
      exact lk_stepsToRoot_0 hC hi ob tx tc ps b k1 k2 k3 k4 k5 k6 s1 i1 s2 i2 ho ha rk t0 q0 t1 q1 t2 q2 t3 q3 t4 q4 t5 q5 mo az ap ak ax a1 a2 a3 a4 a5 a6 v1 v2 v3 v4 v5 v6 o9 Fam F r S tn tf n f Fh so ik th bn N Z P Kp K o u x hI hxu hxx hu hx hW hl hR kk
    · skip
      exact lk_stepsToRoot_2 hC hi ob tx tc ps b k1 k2 k3 k4 k5 k6 s1 i1 s2 i2 ho ha rk t0 q0 t1 q1 t2 q2 t3 q3 t4 q4 t5 q5 mo az ap ak ax a1 a2 a3 a4 a5 a6 v1 v2 v3 v4 v5 v6 o9 Fam F r S tn tf n f Fh so ik th bn N Z P Kp K o u x hI hxu hxx hu (by omega) hW hl hR kk
  · skip
    exact lk_stepsToRoot_1 hC hi ob tx tc ps b k1 k2 k3 k4 k5 k6 s1 i1 s2 i2 ho ha rk t0 q0 t1 q1 t2 q2 t3 q3 t4 q4 t5 q5 mo az ap ak ax a1 a2 a3 a4 a5 a6 v1 v2 v3 v4 v5 v6 o9 Fam F r S tn tf n f Fh so ik th bn N Z P Kp K o u x hI hxu hxx (by omega) hW hl hR kk
theorem dk_recordedStates {p : Program} {l : Launch} {e : Env} {s : State} {m : MethodId} {below : List Frame} {meth : Method} {c : Code} {H : Heap} {locs : List Loc} {cells slots : Nat} {Q : State → Prop} {ls : Array Slot} {g : GG} {b0 L : Nat} {xs : Nat → Int32} (hC : LC p l s m b0 L xs meth c g) {i : Int} (hi : 0 ≤ i ∧ i + 4 ≤ L) (ob tx tc ps b k1 k2 k3 k4 k5 k6 s1 i1 s2 i2 ho ha rk t0 q0 t1 q1 t2 q2 t3 q3 t4 q4 t5 q5 mo az ap ak ax a1 a2 a3 a4 a5 a6 v1 v2 v3 v4 v5 v6 o9 : Nat) (hI : LInv g (fun q => s.heap.size ≤ q) s.heap H locs ob tx tc ps b k1 k2 k3 k4 k5 k6 s1 i1 s2 i2 ho ha rk t0 q0 t1 q1 t2 q2 t3 q3 t4 q4 t5 q5 mo az ap ak ax a1 a2 a3 a4 a5 a6 v1 v2 v3 v4 v5 v6 o9) (hl : lv_has ls 7 [(4, .int (iI i)), (3, .ref o9), (2, .ref mo), (1, .ref ob), (0, .ref b0)]) (hR : cells + 7 ≤ 600000 ∧ slots + 200 ≤ 7290000) (kk : ∀ (H1 : Heap) (locs1 : List Loc) (ls1 : Array Slot), LInv g (fun q => s.heap.size ≤ q) s.heap H1 locs1 ob tx tc ps b k1 k2 k3 k4 k5 k6 s1 i1 s2 i2 ho ha rk t0 q0 t1 q1 t2 q2 t3 q3 t4 q4 t5 q5 mo az ap ak ax a1 a2 a3 a4 a5 a6 v1 v2 v3 v4 v5 v6 o9 → lv_has ls1 7 [(4, .int (iI i)), (3, .ref o9), (2, .ref mo), (1, .ref ob), (0, .ref b0)] → W p l e room_1 s m #[.ref b0] below meth c H1 locs1 (cells + 7) (slots + 200) Q (F0 m 1562 ls1 [])) : W p l e room_1 s m #[.ref b0] below meth c H locs cells slots Q (F0 m 1549 ls []) := by
  obtain ⟨Fam, F, r, S, tn, tf, n, f, Fh, so, ik, th, bn, N, Z, P, Kp, K, o, hW, hI⟩ := hI
  obtain ⟨-, -, -, -, ht, -, hHR, hSN, -, -⟩ := id hI
  have hn4 := hHR.1
  exact lk_recordedStates_0 hC hi ob tx tc ps b k1 k2 k3 k4 k5 k6 s1 i1 s2 i2 ho ha rk t0 q0 t1 q1 t2 q2 t3 q3 t4 q4 t5 q5 mo az ap ak ax a1 a2 a3 a4 a5 a6 v1 v2 v3 v4 v5 v6 o9 Fam F r S tn tf n f Fh so ik th bn N Z P Kp K o hI hW hl hR kk
