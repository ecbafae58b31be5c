set_option maxHeartbeats 4000000 in
set_option maxRecDepth 100000 in
theorem lk_chainByProducts_0 {p : Program} {l : Launch} {e : Env} {s : State} {m : MethodId} {below : List Frame} {meth : Method} {c : Code} {H : Heap} {locs : List Loc} {cells slots : Nat} {Q : State → Prop} {ls : Array Slot} {g : GG} {b0 L : Nat} {xs : Nat → Int32} (hC : LC p l s m b0 L xs meth c g) {i : Int} (hi : 0 ≤ i ∧ i + 4 ≤ L) (ob tx tc ps b k1 k2 k3 k4 k5 k6 s1 i1 s2 i2 ho ha rk t0 q0 t1 q1 t2 q2 t3 q3 t4 q4 t5 q5 mo az ap ak ax a1 a2 a3 a4 a5 a6 v1 v2 v3 v4 v5 v6 o9 : Nat) (Fam : FT → Prop) (F : FT) (r : RT) (S : PT) (tn : Int) (tf : Nat → Int) (n : Int) (f : Nat → Option Nat) (Fh : Nat → FT) (so : Option Nat) (ik : Int) (th : Int) (bn : Int) (N : NT) (Z : Nat → Int) (P : Nat → Int) (Kp : Nat → Int) (K : KT) (o : Nat → Int) (w : Int) (u : Int) (x : Int) (hI : INV Fam F r S tn tf n f Fh so ik N Z P Kp) (hxw : (xs (i + 1).toNat).toInt = w) (hxu : (xs (i + 2).toNat).toInt = u) (hxx : (xs (i + 3).toNat).toInt = x) (hw : 0 ≤ w ∧ w < 4) (hu : 0 ≤ u ∧ u < 4) (hx : 0 ≤ x ∧ x < fP F) (hW : gLw g Fam (fun q => s.heap.size ≤ q) s.heap H locs [(ob, .inr (10, [.ref tx, .ref ps, .ref ho, .ref rk, va_rf so])), (tx, .inr (9, [.ref tc, .int (iI tn)])), (tc, gC g 40 tf), (ps, .inr (4, [.ref b, .int (iI (pA S)), .int (iI (pO S)), .int (iI (pM S))])), (b, .inr (0, [.ref k1, .ref k2, .ref k3, .ref k4, .ref k5, .ref k6, .int (iI (bN (pB S))), .int (iI (bZ (pB S))), .ref s1, .ref s2])), (k1, gI g 40 (bK (pB S))), (k2, gI g 40 (bU (pB S))), (k3, gI g 40 (bL (pB S))), (k4, gI g 40 (bV (pB S))), (k5, gI g 40 (bD (pB S))), (k6, gI g 40 (bE (pB S))), (s1, .inr (3, [.ref i1, .int (iI (lP (pB S)))])), (i1, gI g 40 (lQ (pB S))), (s2, .inr (3, [.ref i2, .int (iI (wP (pB S)))])), (i2, gI g 40 (wQ (pB S))), (ho, .inr (2, [.ref ha, .int (iI n)])), (ha, gR g 4 f), (rk, .inr (5, [.ref t0, .ref t1, .ref t2, .ref t3, .ref t4, .ref t5, .ref (fS F)])), (t0, .inr (8, [.int (iI 199), .ref q0])), (q0, gI g 796 (rV r)), (t1, .inr (8, [.int (iI 199), .ref q1])), (q1, gI g 796 (rH r)), (t2, .inr (8, [.int (iI 199), .ref q2])), (q2, gI g 796 (rR r)), (t3, .inr (8, [.int (iI 40), .ref q3])), (q3, gI g 160 (nV r)), (t4, .inr (8, [.int (iI 40), .ref q4])), (q4, gI g 160 (nS r)), (t5, .inr (8, [.int (iI 40), .ref q5])), (q5, gI g 160 (nW r)), (mo, .inr (11, [.ref az, .ref ap, .int (iI n), .ref ak, .int (iI ik), .ref ax, .int (iI tn), .int (iI th), .ref a1, .ref a2, .int (iI (nN N)), .ref a3, .int (iI (nP N)), .ref a4, .ref a5, .ref a6, .ref v1, .ref v2, .ref v3, .ref v4, .ref v5, .ref v6, .int (iI bn), .int (iI (nWh N)), .int (iI (nD N)), .int (iI (nG N))])), (az, gI g 325 Z), (ap, gI g 1300 P), (ak, gI g 325 Kp), (ax, gC g 40 tf), (a1, gI g 41 (nK N)), (a2, gI g 41 (nU N)), (a3, gI g 90 (nQ N)), (a4, gI g 796 (kV K)), (a5, gI g 796 (kH K)), (a6, gI g 796 (kR K)), (v1, gI g 41 (kW K)), (v2, gI g 41 (kS K)), (v3, gI g 41 (kL K)), (v4, gI g 41 (kE K)), (v5, gI g 41 (kX K)), (v6, gI g 41 (kT K)), (o9, gJ g 1 o)]) (hl : lv_has ls 7 [(4, .int (iI i)), (3, .ref o9), (2, .ref mo), (1, .ref ob), (0, .ref b0)]) (hR : cells + 7 ≤ 600000 ∧ slots + 200 ≤ 7290000) (kk : ∀ (H1 : Heap) (locs1 : List Loc) (ls1 : Array Slot), LInv g (fun q => s.heap.size ≤ q) s.heap H1 locs1 ob tx tc ps b k1 k2 k3 k4 k5 k6 s1 i1 s2 i2 ho ha rk t0 q0 t1 q1 t2 q2 t3 q3 t4 q4 t5 q5 mo az ap ak ax a1 a2 a3 a4 a5 a6 v1 v2 v3 v4 v5 v6 o9 → lv_has ls1 7 [(4, .int (iI i)), (3, .ref o9), (2, .ref mo), (1, .ref ob), (0, .ref b0)] → W p l e room_1 s m #[.ref b0] below meth c H1 locs1 (cells + 7) (slots + 200) Q (F0 m 1562 ls1 [])) : W p l e room_1 s m #[.ref b0] below meth c H locs cells slots Q (F0 m 954 ls []) := by
  obtain ⟨hGI, hFam, hRI, hB, ht, htf, hHR, hSN, hZ, hz⟩ := id hI
  have S0 := hC.1
  have hK := hC.2.2.2.2.2.1
  have hE := hC.2.2.2.2.2.2.1
  have hl0 := hC.2.2.2.2.1
  have hL8 := hC.2.2.2.2.2.2.2
  have hA : ∀ q : Nat, s.heap.size ≤ q → (fun q : Nat => s.heap.size ≤ q) q := fun _ h => h
  have hbA : ¬ (fun q : Nat => s.heap.size ≤ q) b0 := Nat.not_le.mpr hC.2.2.2.1
  have hG := hGI.1
  have hpr := GF_p hG
  have hn4 := hHR.1
  have hrw := iI_rng (xs (i + 1).toNat)
  rw [hxw] at hrw
  have hru := iI_rng (xs (i + 2).toNat)
  rw [hxu] at hru
  have hrx := iI_rng (xs (i + 3).toNat)
  rw [hxx] at hrx
  refine lv_aload_n S0.1 S0.2.1 dL_law_954 rfl (lv_at hl 3 rfl) ?_
  refine lv_aload_n S0.1 S0.2.1 dL_law_955 rfl (lv_at hl 4 rfl) ?_
  refine lv_iload S0.1 S0.2.1 dL_law_956 (lv_at hl 0 rfl) ?_
  refine q_iconst S0 dL_law_958 ?_
  refine q_iadd S0 dL_law_959 ?_
  refine q_sld S0 hC.2.2.1 hC.2.2.2.1 hbA hW.1.2.2 (by omega) dL_law_960 ?_
  refine q_topI (b := w) (hxw) ?_
  refine lv_aload_n S0.1 S0.2.1 dL_law_961 rfl (lv_at hl 4 rfl) ?_
  refine lv_iload S0.1 S0.2.1 dL_law_962 (lv_at hl 0 rfl) ?_
  refine q_iconst S0 dL_law_964 ?_
  refine q_iadd S0 dL_law_965 ?_
  refine q_sld S0 hC.2.2.1 hC.2.2.2.1 hbA hW.1.2.2 (by omega) dL_law_966 ?_
  refine q_topI (b := u) (hxu) ?_
  refine lv_aload_n S0.1 S0.2.1 dL_law_967 rfl (lv_at hl 4 rfl) ?_
  refine lv_iload S0.1 S0.2.1 dL_law_968 (lv_at hl 0 rfl) ?_
  refine q_iconst S0 dL_law_970 ?_
  refine q_iadd S0 dL_law_971 ?_
  refine q_sld S0 hC.2.2.1 hC.2.2.2.1 hbA hW.1.2.2 (by omega) dL_law_972 ?_
  refine q_topI (b := x) (hxx) ?_
  refine lv_aload_n S0.1 S0.2.1 dL_law_973 rfl (lv_at hl 1 rfl) ?_
  refine q_lS (n := 5) (rest := []) (wr := [(tx, .inr (9, [.ref tc, .int (iI tn)])), (tc, gC g 40 tf), (ps, .inr (4, [.ref b, .int (iI (pA S)), .int (iI (pO S)), .int (iI (pM S))])), (b, .inr (0, [.ref k1, .ref k2, .ref k3, .ref k4, .ref k5, .ref k6, .int (iI (bN (pB S))), .int (iI (bZ (pB S))), .ref s1, .ref s2])), (k1, gI g 40 (bK (pB S))), (k2, gI g 40 (bU (pB S))), (k3, gI g 40 (bL (pB S))), (k4, gI g 40 (bV (pB S))), (k5, gI g 40 (bD (pB S))), (k6, gI g 40 (bE (pB S))), (s1, .inr (3, [.ref i1, .int (iI (lP (pB S)))])), (i1, gI g 40 (lQ (pB S))), (s2, .inr (3, [.ref i2, .int (iI (wP (pB S)))])), (i2, gI g 40 (wQ (pB S))), (ho, .inr (2, [.ref ha, .int (iI n)])), (ha, gR g 4 f), (mo, .inr (11, [.ref az, .ref ap, .int (iI n), .ref ak, .int (iI ik), .ref ax, .int (iI tn), .int (iI th), .ref a1, .ref a2, .int (iI (nN N)), .ref a3, .int (iI (nP N)), .ref a4, .ref a5, .ref a6, .ref v1, .ref v2, .ref v3, .ref v4, .ref v5, .ref v6, .int (iI bn), .int (iI (nWh N)), .int (iI (nD N)), .int (iI (nG N))])), (az, gI g 325 Z), (ap, gI g 1300 P), (ak, gI g 325 Kp), (ax, gC g 40 tf), (a1, gI g 41 (nK N)), (a2, gI g 41 (nU N)), (a3, gI g 90 (nQ N)), (a4, gI g 796 (kV K)), (a5, gI g 796 (kH K)), (a6, gI g 796 (kR K)), (v1, gI g 41 (kW K)), (v2, gI g 41 (kS K)), (v3, gI g 41 (kL K)), (v4, gI g 41 (kE K)), (v5, gI g 41 (kX K)), (v6, gI g 41 (kT K))]) S0 hK hE hA hW (c_L_chainByProducts_0 l hl0 g ob tx ps ho so F rk t0 q0 t1 q1 t2 q2 t3 q3 t4 q4 t5 q5 r w u x o9 o Fam (hG) (hRI) (hw) (hu) (hx) (hFam)) gL_law_L_chainByProducts rfl rfl rfl (by decide +kernel) ⟨Nat.le_of_ble_eq_true rfl, Nat.le_of_ble_eq_true rfl⟩ [0, 17, 18, 19, 20, 21, 22, 23, 24, 25, 26, 27, 28, 29, 47] [1, 2, 3, 4, 5, 6, 7, 8, 9, 10, 11, 12, 13, 14, 15, 16, 30, 31, 32, 33, 34, 35, 36, 37, 38, 39, 40, 41, 42, 43, 44, 45, 46] rfl rfl rfl rfl (by decide) rfl rfl hl.1 (Nat.le_of_ble_eq_true rfl) ⟨by show _ ≤ (601024 : Nat); omega, by show _ ≤ (7293034 : Nat); omega⟩ dL_law_974 ?_
  rintro r2 H locs hp hW
  try dsimp only at hp
  have hW : gLw g Fam (fun q => s.heap.size ≤ q) s.heap H _ [(tx, .inr (9, [.ref tc, .int (iI tn)])), (tc, gC g 40 tf), (ps, .inr (4, [.ref b, .int (iI (pA S)), .int (iI (pO S)), .int (iI (pM S))])), (b, .inr (0, [.ref k1, .ref k2, .ref k3, .ref k4, .ref k5, .ref k6, .int (iI (bN (pB S))), .int (iI (bZ (pB S))), .ref s1, .ref s2])), (k1, gI g 40 (bK (pB S))), (k2, gI g 40 (bU (pB S))), (k3, gI g 40 (bL (pB S))), (k4, gI g 40 (bV (pB S))), (k5, gI g 40 (bD (pB S))), (k6, gI g 40 (bE (pB S))), (s1, .inr (3, [.ref i1, .int (iI (lP (pB S)))])), (i1, gI g 40 (lQ (pB S))), (s2, .inr (3, [.ref i2, .int (iI (wP (pB S)))])), (i2, gI g 40 (wQ (pB S))), (ho, .inr (2, [.ref ha, .int (iI n)])), (ha, gR g 4 f), (mo, .inr (11, [.ref az, .ref ap, .int (iI n), .ref ak, .int (iI ik), .ref ax, .int (iI tn), .int (iI th), .ref a1, .ref a2, .int (iI (nN N)), .ref a3, .int (iI (nP N)), .ref a4, .ref a5, .ref a6, .ref v1, .ref v2, .ref v3, .ref v4, .ref v5, .ref v6, .int (iI bn), .int (iI (nWh N)), .int (iI (nD N)), .int (iI (nG N))])), (az, gI g 325 Z), (ap, gI g 1300 P), (ak, gI g 325 Kp), (ax, gC g 40 tf), (a1, gI g 41 (nK N)), (a2, gI g 41 (nU N)), (a3, gI g 90 (nQ N)), (a4, gI g 796 (kV K)), (a5, gI g 796 (kH K)), (a6, gI g 796 (kR K)), (v1, gI g 41 (kW K)), (v2, gI g 41 (kS K)), (v3, gI g 41 (kL K)), (v4, gI g 41 (kE K)), (v5, gI g 41 (kX K)), (v6, gI g 41 (kT K)), (ob, .inr (10, [.ref tx, .ref ps, .ref ho, .ref rk, va_rf so])), (rk, .inr (5, [.ref t0, .ref t1, .ref t2, .ref t3, .ref t4, .ref t5, .ref (fS F)])), (t0, .inr (8, [.int (iI 199), .ref q0])), (q0, gI g 796 (rV r2)), (t1, .inr (8, [.int (iI 199), .ref q1])), (q1, gI g 796 (rH r2)), (t2, .inr (8, [.int (iI 199), .ref q2])), (q2, gI g 796 (rR r2)), (t3, .inr (8, [.int (iI 40), .ref q3])), (q3, gI g 160 (nV r2)), (t4, .inr (8, [.int (iI 40), .ref q4])), (q4, gI g 160 (nS r2)), (t5, .inr (8, [.int (iI 40), .ref q5])), (q5, gI g 160 (nW r2)), (o9, gJ g 1 (up o 0 ((iI (cbp F w u x)).toInt)))] := hW
  refine W.eq (g2 := F0 m 977 ls [.int (iI 0)]) rfl ?_
  have hr2 := hp
  refine lv_istore (lv' := [(5, .int (iI 0)), (4, .int (iI i)), (3, .ref o9), (2, .ref mo), (1, .ref ob), (0, .ref b0)]) S0.1 S0.2.1 dL_law_977 hl (by decide) rfl (fun ls hl => ?_)
  refine lv_aload_n S0.1 S0.2.1 dL_law_979 rfl (lv_at hl 3 rfl) ?_
  refine lv_aload_n S0.1 S0.2.1 dL_law_980 rfl (lv_at hl 5 rfl) ?_
  refine lv_iload S0.1 S0.2.1 dL_law_981 (lv_at hl 1 rfl) ?_
  refine q_iconst S0 dL_law_983 ?_
  refine q_iadd S0 dL_law_984 ?_
  refine q_sld S0 hC.2.2.1 hC.2.2.2.1 hbA hW.1.2.2 (by omega) dL_law_985 ?_
  refine q_topI (b := w) (hxw) ?_
  refine lv_aload_n S0.1 S0.2.1 dL_law_986 rfl (lv_at hl 5 rfl) ?_
  refine lv_iload S0.1 S0.2.1 dL_law_987 (lv_at hl 1 rfl) ?_
  refine q_iconst S0 dL_law_989 ?_
  refine q_iadd S0 dL_law_990 ?_
  refine q_sld S0 hC.2.2.1 hC.2.2.2.1 hbA hW.1.2.2 (by omega) dL_law_991 ?_
  refine q_topI (b := u) (hxu) ?_
  refine lv_aload_n S0.1 S0.2.1 dL_law_992 rfl (lv_at hl 5 rfl) ?_
  refine lv_iload S0.1 S0.2.1 dL_law_993 (lv_at hl 1 rfl) ?_
  refine q_iconst S0 dL_law_995 ?_
  refine q_iadd S0 dL_law_996 ?_
  refine q_sld S0 hC.2.2.1 hC.2.2.2.1 hbA hW.1.2.2 (by omega) dL_law_997 ?_
  refine q_topI (b := x) (hxx) ?_
  refine q_lV (n := 3) (rest := []) (wr := [(tx, .inr (9, [.ref tc, .int (iI tn)])), (tc, gC g 40 tf), (ps, .inr (4, [.ref b, .int (iI (pA S)), .int (iI (pO S)), .int (iI (pM S))])), (b, .inr (0, [.ref k1, .ref k2, .ref k3, .ref k4, .ref k5, .ref k6, .int (iI (bN (pB S))), .int (iI (bZ (pB S))), .ref s1, .ref s2])), (k1, gI g 40 (bK (pB S))), (k2, gI g 40 (bU (pB S))), (k3, gI g 40 (bL (pB S))), (k4, gI g 40 (bV (pB S))), (k5, gI g 40 (bD (pB S))), (k6, gI g 40 (bE (pB S))), (s1, .inr (3, [.ref i1, .int (iI (lP (pB S)))])), (i1, gI g 40 (lQ (pB S))), (s2, .inr (3, [.ref i2, .int (iI (wP (pB S)))])), (i2, gI g 40 (wQ (pB S))), (ho, .inr (2, [.ref ha, .int (iI n)])), (ha, gR g 4 f), (ap, gI g 1300 P), (ak, gI g 325 Kp), (ax, gC g 40 tf), (a1, gI g 41 (nK N)), (a2, gI g 41 (nU N)), (a3, gI g 90 (nQ N)), (ob, .inr (10, [.ref tx, .ref ps, .ref ho, .ref rk, va_rf so])), (rk, .inr (5, [.ref t0, .ref t1, .ref t2, .ref t3, .ref t4, .ref t5, .ref (fS F)])), (t0, .inr (8, [.int (iI 199), .ref q0])), (q0, gI g 796 (rV r2)), (t1, .inr (8, [.int (iI 199), .ref q1])), (q1, gI g 796 (rH r2)), (t2, .inr (8, [.int (iI 199), .ref q2])), (q2, gI g 796 (rR r2)), (t3, .inr (8, [.int (iI 40), .ref q3])), (q3, gI g 160 (nV r2)), (t4, .inr (8, [.int (iI 40), .ref q4])), (q4, gI g 160 (nS r2)), (t5, .inr (8, [.int (iI 40), .ref q5])), (q5, gI g 160 (nW r2)), (o9, gJ g 1 (up o 0 ((iI (cbp F w u x)).toInt)))]) S0 hK hA hW (c_X11_chainByProducts0 l g mo az ap ak ax a1 a2 a3 a4 a5 a6 v1 v2 v3 v4 v5 v6 n ik tn th (nN N) (nP N) bn (nWh N) (nD N) (nG N) Z F K w u x (hG) (hz) (hGI.2.1) (hw) (hu) (hx)) gL_law_X11_chainByProducts rfl rfl rfl (by decide +kernel) ⟨Nat.le_of_ble_eq_true rfl, Nat.le_of_ble_eq_true rfl⟩ [16, 17, 24, 25, 26, 27, 28, 29, 30, 31, 32] [0, 1, 2, 3, 4, 5, 6, 7, 8, 9, 10, 11, 12, 13, 14, 15, 18, 19, 20, 21, 22, 23, 33, 34, 35, 36, 37, 38, 39, 40, 41, 42, 43, 44, 45, 46, 47] rfl rfl rfl rfl (by decide) (q_recv hK hW.1.1 (ci := 11) (q0 := 16) rfl rfl) (fun _ _ => trivial) (trivial) rfl rfl hl.1 (Nat.le_of_ble_eq_true rfl) ⟨by show _ ≤ (601024 : Nat); omega, by show _ ≤ (7293034 : Nat); omega⟩ dL_law_998 ?_
  rintro ⟨Ko, bo⟩ H locs hp hW
  try dsimp only at hp
  have hW : gLw g Fam (fun q => s.heap.size ≤ q) s.heap H _ [(tx, .inr (9, [.ref tc, .int (iI tn)])), (tc, gC g 40 tf), (ps, .inr (4, [.ref b, .int (iI (pA S)), .int (iI (pO S)), .int (iI (pM S))])), (b, .inr (0, [.ref k1, .ref k2, .ref k3, .ref k4, .ref k5, .ref k6, .int (iI (bN (pB S))), .int (iI (bZ (pB S))), .ref s1, .ref s2])), (k1, gI g 40 (bK (pB S))), (k2, gI g 40 (bU (pB S))), (k3, gI g 40 (bL (pB S))), (k4, gI g 40 (bV (pB S))), (k5, gI g 40 (bD (pB S))), (k6, gI g 40 (bE (pB S))), (s1, .inr (3, [.ref i1, .int (iI (lP (pB S)))])), (i1, gI g 40 (lQ (pB S))), (s2, .inr (3, [.ref i2, .int (iI (wP (pB S)))])), (i2, gI g 40 (wQ (pB S))), (ho, .inr (2, [.ref ha, .int (iI n)])), (ha, gR g 4 f), (ap, gI g 1300 P), (ak, gI g 325 Kp), (ax, gC g 40 tf), (a1, gI g 41 (nK N)), (a2, gI g 41 (nU N)), (a3, gI g 90 (nQ N)), (ob, .inr (10, [.ref tx, .ref ps, .ref ho, .ref rk, va_rf so])), (rk, .inr (5, [.ref t0, .ref t1, .ref t2, .ref t3, .ref t4, .ref t5, .ref (fS F)])), (t0, .inr (8, [.int (iI 199), .ref q0])), (q0, gI g 796 (rV r2)), (t1, .inr (8, [.int (iI 199), .ref q1])), (q1, gI g 796 (rH r2)), (t2, .inr (8, [.int (iI 199), .ref q2])), (q2, gI g 796 (rR r2)), (t3, .inr (8, [.int (iI 40), .ref q3])), (q3, gI g 160 (nV r2)), (t4, .inr (8, [.int (iI 40), .ref q4])), (q4, gI g 160 (nS r2)), (t5, .inr (8, [.int (iI 40), .ref q5])), (q5, gI g 160 (nW r2)), (o9, gJ g 1 (up o 0 ((iI (cbp F w u x)).toInt))), (mo, .inr (11, [.ref az, .ref ap, .int (iI n), .ref ak, .int (iI ik), .ref ax, .int (iI tn), .int (iI 0), .ref a1, .ref a2, .int (iI (nN N)), .ref a3, .int (iI (nP N)), .ref a4, .ref a5, .ref a6, .ref v1, .ref v2, .ref v3, .ref v4, .ref v5, .ref v6, .int (iI bo), .int (iI (nWh N)), .int (iI (nD N)), .int (iI (nG N))])), (az, gI g 325 Z), (a4, gI g 796 (kV Ko)), (a5, gI g 796 (kH Ko)), (a6, gI g 796 (kR Ko)), (v1, gI g 41 (kW Ko)), (v2, gI g 41 (kS Ko)), (v3, gI g 41 (kL Ko)), (v4, gI g 41 (kE Ko)), (v5, gI g 41 (kX Ko)), (v6, gI g 41 (kT Ko))] := hW
  refine W.eq (g2 := F0 m 1001 ls [.int (iI (cbp F w u x))]) rfl ?_
  refine lv_istore (lv' := [(6, .int (iI (cbp F w u x))), (5, .int (iI 0)), (4, .int (iI i)), (3, .ref o9), (2, .ref mo), (1, .ref ob), (0, .ref b0)]) S0.1 S0.2.1 dL_law_1001 hl (by decide) rfl (fun ls hl => ?_)
  refine lv_aload_n S0.1 S0.2.1 dL_law_1003 rfl (lv_at hl 4 rfl) ?_
  refine q_pV (n := 0) (rest := []) S0 hK (c_X11_thrown l g mo az ap ak ax a1 a2 a3 a4 a5 a6 v1 v2 v3 v4 v5 v6 n ik tn 0 (nN N) (nP N) bo (nWh N) (nD N) (nG N)) (subP hW.1.1 [37] rfl) (trivial) gL_law_X11_thrown rfl rfl rfl (by decide +kernel) ⟨Nat.le_of_ble_eq_true rfl, Nat.le_of_ble_eq_true rfl⟩ (q_recv hK hW.1.1 (ci := 11) (q0 := 37) rfl rfl) rfl rfl hl.1 (Nat.le_of_ble_eq_true rfl) ⟨by show _ ≤ (601024 : Nat); omega, by show _ ≤ (7293034 : Nat); omega⟩ dL_law_1004 ?_
  refine W.eq (g2 := F0 m 1007 ls [.int (iI 0)]) rfl ?_
  refine lv_iload S0.1 S0.2.1 dL_law_1007 (lv_at hl 1 rfl) ?_
  refine q_icmp_eq (tgt := 1014) S0 (by omega) dL_law_1009 (by decide) (fun c1009 => ?_) (fun c1009 => ?_)
  · skip
    refine lv_iload S0.1 S0.2.1 dL_law_1014 (lv_at hl 1 rfl) ?_
    refine q_if_ne (tgt := 1031) S0 (by omega) dL_law_1016 (by decide) (fun c1016 => ?_) (fun c1016 => ?_)
    · skip
      exact absurd c1016 (by omega)
    · skip
      refine lv_aload_n S0.1 S0.2.1 dL_law_1019 rfl (lv_at hl 3 rfl) ?_
      refine q_iconst S0 dL_law_1020 ?_
      refine q_lald S0 hK hW.1.1 36 rfl (by omega) dL_law_1021 ?_
      refine q_top (w := .long (lI ((iI (cbp F w u x)).toInt))) (congrArg (fun z => Value.long (lI z)) up_s) ?_
      refine lv_iload S0.1 S0.2.1 dL_law_1022 (lv_at hl 0 rfl) ?_
      refine lv_i2l S0.1 S0.2.1 dL_law_1024 (i2l_v (iI (cbp F w u x))) ?_
      refine W.lcmp S0.1 S0.2.1 dL_law_1025 ?_
      refine q_top (w := .int (iI 0)) (by rw [show ((iI (cbp F w u x)).toInt) = ((iI (cbp F w u x)).toInt) from rfl]; exact congrArg Value.int (lcmp_self _)) ?_
      refine q_if_eq (tgt := 1031) S0 (by omega) dL_law_1026 (by decide) (fun c1026 => ?_) (fun c1026 => ?_)
      · skip
        refine lv_goto (tgt := 1562) S0.1 S0.2.1 dL_law_1031 (by decide) ?_
        refine W.widen (k := cells + 7) (n := slots + 200) (by omega) (by omega) ?_
        exact kk _ _ ls ⟨Fam, F, r2, S, tn, tf, n, f, Fh, so, ik, 0, bo, N, Z, P, Kp, Ko, up o 0 ((iI (cbp F w u x)).toInt), hW.sub [22, 0, 1, 2, 3, 4, 5, 6, 7, 8, 9, 10, 11, 12, 13, 14, 15, 23, 24, 25, 26, 27, 28, 29, 30, 31, 32, 33, 34, 35, 37, 38, 16, 17, 18, 19, 20, 21, 39, 40, 41, 42, 43, 44, 45, 46, 47, 36] rfl rfl, INV_r hI hr2⟩ (lv_sub hl [2, 3, 4, 5, 6] rfl)
      · skip
        exact absurd c1026 (by omega)
  · skip
    exact absurd (rfl) c1009
set_option maxHeartbeats 4000000 in
set_option maxRecDepth 100000 in
theorem lk_chainByProducts_1 {p : Program} {l : Launch} {e : Env} {s : State} {m : MethodId} {below : List Frame} {meth : Method} {c : Code} {H : Heap} {locs : List Loc} {cells slots : Nat} {Q : State → Prop} {ls : Array Slot} {g : GG} {b0 L : Nat} {xs : Nat → Int32} (hC : LC p l s m b0 L xs meth c g) {i : Int} (hi : 0 ≤ i ∧ i + 4 ≤ L) (ob tx tc ps b k1 k2 k3 k4 k5 k6 s1 i1 s2 i2 ho ha rk t0 q0 t1 q1 t2 q2 t3 q3 t4 q4 t5 q5 mo az ap ak ax a1 a2 a3 a4 a5 a6 v1 v2 v3 v4 v5 v6 o9 : Nat) (Fam : FT → Prop) (F : FT) (r : RT) (S : PT) (tn : Int) (tf : Nat → Int) (n : Int) (f : Nat → Option Nat) (Fh : Nat → FT) (so : Option Nat) (ik : Int) (th : Int) (bn : Int) (N : NT) (Z : Nat → Int) (P : Nat → Int) (Kp : Nat → Int) (K : KT) (o : Nat → Int) (w : Int) (u : Int) (x : Int) (hI : INV Fam F r S tn tf n f Fh so ik N Z P Kp) (hxw : (xs (i + 1).toNat).toInt = w) (hxu : (xs (i + 2).toNat).toInt = u) (hxx : (xs (i + 3).toNat).toInt = x) (hw : w < 0 ∨ 3 < w) (hW : gLw g Fam (fun q => s.heap.size ≤ q) s.heap H locs [(ob, .inr (10, [.ref tx, .ref ps, .ref ho, .ref rk, va_rf so])), (tx, .inr (9, [.ref tc, .int (iI tn)])), (tc, gC g 40 tf), (ps, .inr (4, [.ref b, .int (iI (pA S)), .int (iI (pO S)), .int (iI (pM S))])), (b, .inr (0, [.ref k1, .ref k2, .ref k3, .ref k4, .ref k5, .ref k6, .int (iI (bN (pB S))), .int (iI (bZ (pB S))), .ref s1, .ref s2])), (k1, gI g 40 (bK (pB S))), (k2, gI g 40 (bU (pB S))), (k3, gI g 40 (bL (pB S))), (k4, gI g 40 (bV (pB S))), (k5, gI g 40 (bD (pB S))), (k6, gI g 40 (bE (pB S))), (s1, .inr (3, [.ref i1, .int (iI (lP (pB S)))])), (i1, gI g 40 (lQ (pB S))), (s2, .inr (3, [.ref i2, .int (iI (wP (pB S)))])), (i2, gI g 40 (wQ (pB S))), (ho, .inr (2, [.ref ha, .int (iI n)])), (ha, gR g 4 f), (rk, .inr (5, [.ref t0, .ref t1, .ref t2, .ref t3, .ref t4, .ref t5, .ref (fS F)])), (t0, .inr (8, [.int (iI 199), .ref q0])), (q0, gI g 796 (rV r)), (t1, .inr (8, [.int (iI 199), .ref q1])), (q1, gI g 796 (rH r)), (t2, .inr (8, [.int (iI 199), .ref q2])), (q2, gI g 796 (rR r)), (t3, .inr (8, [.int (iI 40), .ref q3])), (q3, gI g 160 (nV r)), (t4, .inr (8, [.int (iI 40), .ref q4])), (q4, gI g 160 (nS r)), (t5, .inr (8, [.int (iI 40), .ref q5])), (q5, gI g 160 (nW r)), (mo, .inr (11, [.ref az, .ref ap, .int (iI n), .ref ak, .int (iI ik), .ref ax, .int (iI tn), .int (iI th), .ref a1, .ref a2, .int (iI (nN N)), .ref a3, .int (iI (nP N)), .ref a4, .ref a5, .ref a6, .ref v1, .ref v2, .ref v3, .ref v4, .ref v5, .ref v6, .int (iI bn), .int (iI (nWh N)), .int (iI (nD N)), .int (iI (nG N))])), (az, gI g 325 Z), (ap, gI g 1300 P), (ak, gI g 325 Kp), (ax, gC g 40 tf), (a1, gI g 41 (nK N)), (a2, gI g 41 (nU N)), (a3, gI g 90 (nQ N)), (a4, gI g 796 (kV K)), (a5, gI g 796 (kH K)), (a6, gI g 796 (kR K)), (v1, gI g 41 (kW K)), (v2, gI g 41 (kS K)), (v3, gI g 41 (kL K)), (v4, gI g 41 (kE K)), (v5, gI g 41 (kX K)), (v6, gI g 41 (kT K)), (o9, gJ g 1 o)]) (hl : lv_has ls 7 [(4, .int (iI i)), (3, .ref o9), (2, .ref mo), (1, .ref ob), (0, .ref b0)]) (hR : cells + 7 ≤ 600000 ∧ slots + 200 ≤ 7290000) (kk : ∀ (H1 : Heap) (locs1 : List Loc) (ls1 : Array Slot), LInv g (fun q => s.heap.size ≤ q) s.heap H1 locs1 ob tx tc ps b k1 k2 k3 k4 k5 k6 s1 i1 s2 i2 ho ha rk t0 q0 t1 q1 t2 q2 t3 q3 t4 q4 t5 q5 mo az ap ak ax a1 a2 a3 a4 a5 a6 v1 v2 v3 v4 v5 v6 o9 → lv_has ls1 7 [(4, .int (iI i)), (3, .ref o9), (2, .ref mo), (1, .ref ob), (0, .ref b0)] → W p l e room_1 s m #[.ref b0] below meth c H1 locs1 (cells + 7) (slots + 200) Q (F0 m 1562 ls1 [])) : W p l e room_1 s m #[.ref b0] below meth c H locs cells slots Q (F0 m 954 ls []) := by
  obtain ⟨hGI, hFam, hRI, hB, ht, htf, hHR, hSN, hZ, hz⟩ := id hI
  have S0 := hC.1
  have hK := hC.2.2.2.2.2.1
  have hE := hC.2.2.2.2.2.2.1
  have hl0 := hC.2.2.2.2.1
  have hL8 := hC.2.2.2.2.2.2.2
  have hA : ∀ q : Nat, s.heap.size ≤ q → (fun q : Nat => s.heap.size ≤ q) q := fun _ h => h
  have hbA : ¬ (fun q : Nat => s.heap.size ≤ q) b0 := Nat.not_le.mpr hC.2.2.2.1
  have hG := hGI.1
  have hpr := GF_p hG
  have hn4 := hHR.1
  have hrw := iI_rng (xs (i + 1).toNat)
  rw [hxw] at hrw
  have hru := iI_rng (xs (i + 2).toNat)
  rw [hxu] at hru
  have hrx := iI_rng (xs (i + 3).toNat)
  rw [hxx] at hrx
  refine lv_aload_n S0.1 S0.2.1 dL_law_954 rfl (lv_at hl 3 rfl) ?_
  refine lv_aload_n S0.1 S0.2.1 dL_law_955 rfl (lv_at hl 4 rfl) ?_
  refine lv_iload S0.1 S0.2.1 dL_law_956 (lv_at hl 0 rfl) ?_
  refine q_iconst S0 dL_law_958 ?_
  refine q_iadd S0 dL_law_959 ?_
  refine q_sld S0 hC.2.2.1 hC.2.2.2.1 hbA hW.1.2.2 (by omega) dL_law_960 ?_
  refine q_topI (b := w) (hxw) ?_
  refine lv_aload_n S0.1 S0.2.1 dL_law_961 rfl (lv_at hl 4 rfl) ?_
  refine lv_iload S0.1 S0.2.1 dL_law_962 (lv_at hl 0 rfl) ?_
  refine q_iconst S0 dL_law_964 ?_
  refine q_iadd S0 dL_law_965 ?_
  refine q_sld S0 hC.2.2.1 hC.2.2.2.1 hbA hW.1.2.2 (by omega) dL_law_966 ?_
  refine q_topI (b := u) (hxu) ?_
  refine lv_aload_n S0.1 S0.2.1 dL_law_967 rfl (lv_at hl 4 rfl) ?_
  refine lv_iload S0.1 S0.2.1 dL_law_968 (lv_at hl 0 rfl) ?_
  refine q_iconst S0 dL_law_970 ?_
  refine q_iadd S0 dL_law_971 ?_
  refine q_sld S0 hC.2.2.1 hC.2.2.2.1 hbA hW.1.2.2 (by omega) dL_law_972 ?_
  refine q_topI (b := x) (hxx) ?_
  refine lv_aload_n S0.1 S0.2.1 dL_law_973 rfl (lv_at hl 1 rfl) ?_
  refine q_lS (n := 5) (rest := []) (wr := [(tx, .inr (9, [.ref tc, .int (iI tn)])), (tc, gC g 40 tf), (ps, .inr (4, [.ref b, .int (iI (pA S)), .int (iI (pO S)), .int (iI (pM S))])), (b, .inr (0, [.ref k1, .ref k2, .ref k3, .ref k4, .ref k5, .ref k6, .int (iI (bN (pB S))), .int (iI (bZ (pB S))), .ref s1, .ref s2])), (k1, gI g 40 (bK (pB S))), (k2, gI g 40 (bU (pB S))), (k3, gI g 40 (bL (pB S))), (k4, gI g 40 (bV (pB S))), (k5, gI g 40 (bD (pB S))), (k6, gI g 40 (bE (pB S))), (s1, .inr (3, [.ref i1, .int (iI (lP (pB S)))])), (i1, gI g 40 (lQ (pB S))), (s2, .inr (3, [.ref i2, .int (iI (wP (pB S)))])), (i2, gI g 40 (wQ (pB S))), (ho, .inr (2, [.ref ha, .int (iI n)])), (ha, gR g 4 f), (rk, .inr (5, [.ref t0, .ref t1, .ref t2, .ref t3, .ref t4, .ref t5, .ref (fS F)])), (t0, .inr (8, [.int (iI 199), .ref q0])), (q0, gI g 796 (rV r)), (t1, .inr (8, [.int (iI 199), .ref q1])), (q1, gI g 796 (rH r)), (t2, .inr (8, [.int (iI 199), .ref q2])), (q2, gI g 796 (rR r)), (t3, .inr (8, [.int (iI 40), .ref q3])), (q3, gI g 160 (nV r)), (t4, .inr (8, [.int (iI 40), .ref q4])), (q4, gI g 160 (nS r)), (t5, .inr (8, [.int (iI 40), .ref q5])), (q5, gI g 160 (nW r)), (mo, .inr (11, [.ref az, .ref ap, .int (iI n), .ref ak, .int (iI ik), .ref ax, .int (iI tn), .int (iI th), .ref a1, .ref a2, .int (iI (nN N)), .ref a3, .int (iI (nP N)), .ref a4, .ref a5, .ref a6, .ref v1, .ref v2, .ref v3, .ref v4, .ref v5, .ref v6, .int (iI bn), .int (iI (nWh N)), .int (iI (nD N)), .int (iI (nG N))])), (az, gI g 325 Z), (ap, gI g 1300 P), (ak, gI g 325 Kp), (ax, gC g 40 tf), (a1, gI g 41 (nK N)), (a2, gI g 41 (nU N)), (a3, gI g 90 (nQ N)), (a4, gI g 796 (kV K)), (a5, gI g 796 (kH K)), (a6, gI g 796 (kR K)), (v1, gI g 41 (kW K)), (v2, gI g 41 (kS K)), (v3, gI g 41 (kL K)), (v4, gI g 41 (kE K)), (v5, gI g 41 (kX K)), (v6, gI g 41 (kT K))]) S0 hK hE hA hW (c_L_chainByProducts_1 l hl0 g ob tx ps ho rk so w u x o9 o Fam (by omega) (by omega) (by omega)) gL_law_L_chainByProducts rfl rfl rfl (by decide +kernel) ⟨Nat.le_of_ble_eq_true rfl, Nat.le_of_ble_eq_true rfl⟩ [0, 47] [1, 2, 3, 4, 5, 6, 7, 8, 9, 10, 11, 12, 13, 14, 15, 16, 17, 18, 19, 20, 21, 22, 23, 24, 25, 26, 27, 28, 29, 30, 31, 32, 33, 34, 35, 36, 37, 38, 39, 40, 41, 42, 43, 44, 45, 46] rfl rfl rfl rfl (by decide) rfl rfl hl.1 (Nat.le_of_ble_eq_true rfl) ⟨by show _ ≤ (601024 : Nat); omega, by show _ ≤ (7293034 : Nat); omega⟩ dL_law_974 ?_
  rintro _ H locs _ hW
  have hW : gLw g Fam (fun q => s.heap.size ≤ q) s.heap H _ [(tx, .inr (9, [.ref tc, .int (iI tn)])), (tc, gC g 40 tf), (ps, .inr (4, [.ref b, .int (iI (pA S)), .int (iI (pO S)), .int (iI (pM S))])), (b, .inr (0, [.ref k1, .ref k2, .ref k3, .ref k4, .ref k5, .ref k6, .int (iI (bN (pB S))), .int (iI (bZ (pB S))), .ref s1, .ref s2])), (k1, gI g 40 (bK (pB S))), (k2, gI g 40 (bU (pB S))), (k3, gI g 40 (bL (pB S))), (k4, gI g 40 (bV (pB S))), (k5, gI g 40 (bD (pB S))), (k6, gI g 40 (bE (pB S))), (s1, .inr (3, [.ref i1, .int (iI (lP (pB S)))])), (i1, gI g 40 (lQ (pB S))), (s2, .inr (3, [.ref i2, .int (iI (wP (pB S)))])), (i2, gI g 40 (wQ (pB S))), (ho, .inr (2, [.ref ha, .int (iI n)])), (ha, gR g 4 f), (rk, .inr (5, [.ref t0, .ref t1, .ref t2, .ref t3, .ref t4, .ref t5, .ref (fS F)])), (t0, .inr (8, [.int (iI 199), .ref q0])), (q0, gI g 796 (rV r)), (t1, .inr (8, [.int (iI 199), .ref q1])), (q1, gI g 796 (rH r)), (t2, .inr (8, [.int (iI 199), .ref q2])), (q2, gI g 796 (rR r)), (t3, .inr (8, [.int (iI 40), .ref q3])), (q3, gI g 160 (nV r)), (t4, .inr (8, [.int (iI 40), .ref q4])), (q4, gI g 160 (nS r)), (t5, .inr (8, [.int (iI 40), .ref q5])), (q5, gI g 160 (nW r)), (mo, .inr (11, [.ref az, .ref ap, .int (iI n), .ref ak, .int (iI ik), .ref ax, .int (iI tn), .int (iI th), .ref a1, .ref a2, .int (iI (nN N)), .ref a3, .int (iI (nP N)), .ref a4, .ref a5, .ref a6, .ref v1, .ref v2, .ref v3, .ref v4, .ref v5, .ref v6, .int (iI bn), .int (iI (nWh N)), .int (iI (nD N)), .int (iI (nG N))])), (az, gI g 325 Z), (ap, gI g 1300 P), (ak, gI g 325 Kp), (ax, gC g 40 tf), (a1, gI g 41 (nK N)), (a2, gI g 41 (nU N)), (a3, gI g 90 (nQ N)), (a4, gI g 796 (kV K)), (a5, gI g 796 (kH K)), (a6, gI g 796 (kR K)), (v1, gI g 41 (kW K)), (v2, gI g 41 (kS K)), (v3, gI g 41 (kL K)), (v4, gI g 41 (kE K)), (v5, gI g 41 (kX K)), (v6, gI g 41 (kT K)), (ob, .inr (10, [.ref tx, .ref ps, .ref ho, .ref rk, va_rf so])), (o9, gJ g 1 o)] := hW
  refine W.eq (g2 := F0 m 977 ls [.int (iI 1)]) rfl ?_
  refine lv_istore (lv' := [(5, .int (iI 1)), (4, .int (iI i)), (3, .ref o9), (2, .ref mo), (1, .ref ob), (0, .ref b0)]) S0.1 S0.2.1 dL_law_977 hl (by decide) rfl (fun ls hl => ?_)
  refine lv_aload_n S0.1 S0.2.1 dL_law_979 rfl (lv_at hl 3 rfl) ?_
  refine lv_aload_n S0.1 S0.2.1 dL_law_980 rfl (lv_at hl 5 rfl) ?_
  refine lv_iload S0.1 S0.2.1 dL_law_981 (lv_at hl 1 rfl) ?_
  refine q_iconst S0 dL_law_983 ?_
  refine q_iadd S0 dL_law_984 ?_
  refine q_sld S0 hC.2.2.1 hC.2.2.2.1 hbA hW.1.2.2 (by omega) dL_law_985 ?_
  refine q_topI (b := w) (hxw) ?_
  refine lv_aload_n S0.1 S0.2.1 dL_law_986 rfl (lv_at hl 5 rfl) ?_
  refine lv_iload S0.1 S0.2.1 dL_law_987 (lv_at hl 1 rfl) ?_
  refine q_iconst S0 dL_law_989 ?_
  refine q_iadd S0 dL_law_990 ?_
  refine q_sld S0 hC.2.2.1 hC.2.2.2.1 hbA hW.1.2.2 (by omega) dL_law_991 ?_
  refine q_topI (b := u) (hxu) ?_
  refine lv_aload_n S0.1 S0.2.1 dL_law_992 rfl (lv_at hl 5 rfl) ?_
  refine lv_iload S0.1 S0.2.1 dL_law_993 (lv_at hl 1 rfl) ?_
  refine q_iconst S0 dL_law_995 ?_
  refine q_iadd S0 dL_law_996 ?_
  refine q_sld S0 hC.2.2.1 hC.2.2.2.1 hbA hW.1.2.2 (by omega) dL_law_997 ?_
  refine q_topI (b := x) (hxx) ?_
  refine q_lV (n := 3) (rest := []) (wr := [(tx, .inr (9, [.ref tc, .int (iI tn)])), (tc, gC g 40 tf), (ps, .inr (4, [.ref b, .int (iI (pA S)), .int (iI (pO S)), .int (iI (pM S))])), (b, .inr (0, [.ref k1, .ref k2, .ref k3, .ref k4, .ref k5, .ref k6, .int (iI (bN (pB S))), .int (iI (bZ (pB S))), .ref s1, .ref s2])), (k1, gI g 40 (bK (pB S))), (k2, gI g 40 (bU (pB S))), (k3, gI g 40 (bL (pB S))), (k4, gI g 40 (bV (pB S))), (k5, gI g 40 (bD (pB S))), (k6, gI g 40 (bE (pB S))), (s1, .inr (3, [.ref i1, .int (iI (lP (pB S)))])), (i1, gI g 40 (lQ (pB S))), (s2, .inr (3, [.ref i2, .int (iI (wP (pB S)))])), (i2, gI g 40 (wQ (pB S))), (ho, .inr (2, [.ref ha, .int (iI n)])), (ha, gR g 4 f), (rk, .inr (5, [.ref t0, .ref t1, .ref t2, .ref t3, .ref t4, .ref t5, .ref (fS F)])), (t0, .inr (8, [.int (iI 199), .ref q0])), (q0, gI g 796 (rV r)), (t1, .inr (8, [.int (iI 199), .ref q1])), (q1, gI g 796 (rH r)), (t2, .inr (8, [.int (iI 199), .ref q2])), (q2, gI g 796 (rR r)), (t3, .inr (8, [.int (iI 40), .ref q3])), (q3, gI g 160 (nV r)), (t4, .inr (8, [.int (iI 40), .ref q4])), (q4, gI g 160 (nS r)), (t5, .inr (8, [.int (iI 40), .ref q5])), (q5, gI g 160 (nW r)), (ap, gI g 1300 P), (ak, gI g 325 Kp), (ax, gC g 40 tf), (a1, gI g 41 (nK N)), (a2, gI g 41 (nU N)), (a3, gI g 90 (nQ N)), (a4, gI g 796 (kV K)), (a5, gI g 796 (kH K)), (a6, gI g 796 (kR K)), (v1, gI g 41 (kW K)), (v2, gI g 41 (kS K)), (v3, gI g 41 (kL K)), (v4, gI g 41 (kE K)), (v5, gI g 41 (kX K)), (v6, gI g 41 (kT K)), (ob, .inr (10, [.ref tx, .ref ps, .ref ho, .ref rk, va_rf so])), (o9, gJ g 1 o)]) S0 hK hA hW (c_X11_chainByProducts1 l g mo az ap ak ax a1 a2 a3 a4 a5 a6 v1 v2 v3 v4 v5 v6 n ik tn th (nN N) (nP N) bn (nWh N) (nD N) (nG N) Z F w u x (hG) (hz) (by omega) (by omega)) gL_law_X11_chainByProducts rfl rfl rfl (by decide +kernel) ⟨Nat.le_of_ble_eq_true rfl, Nat.le_of_ble_eq_true rfl⟩ [29, 30] [0, 1, 2, 3, 4, 5, 6, 7, 8, 9, 10, 11, 12, 13, 14, 15, 16, 17, 18, 19, 20, 21, 22, 23, 24, 25, 26, 27, 28, 31, 32, 33, 34, 35, 36, 37, 38, 39, 40, 41, 42, 43, 44, 45, 46, 47] rfl rfl rfl rfl (by decide) (q_recv hK hW.1.1 (ci := 11) (q0 := 29) rfl rfl) (fun _ _ => trivial) (trivial) rfl rfl hl.1 (Nat.le_of_ble_eq_true rfl) ⟨by show _ ≤ (601024 : Nat); omega, by show _ ≤ (7293034 : Nat); omega⟩ dL_law_998 ?_
  rintro _ H locs _ hW
  have hW : gLw g Fam (fun q => s.heap.size ≤ q) s.heap H _ [(tx, .inr (9, [.ref tc, .int (iI tn)])), (tc, gC g 40 tf), (ps, .inr (4, [.ref b, .int (iI (pA S)), .int (iI (pO S)), .int (iI (pM S))])), (b, .inr (0, [.ref k1, .ref k2, .ref k3, .ref k4, .ref k5, .ref k6, .int (iI (bN (pB S))), .int (iI (bZ (pB S))), .ref s1, .ref s2])), (k1, gI g 40 (bK (pB S))), (k2, gI g 40 (bU (pB S))), (k3, gI g 40 (bL (pB S))), (k4, gI g 40 (bV (pB S))), (k5, gI g 40 (bD (pB S))), (k6, gI g 40 (bE (pB S))), (s1, .inr (3, [.ref i1, .int (iI (lP (pB S)))])), (i1, gI g 40 (lQ (pB S))), (s2, .inr (3, [.ref i2, .int (iI (wP (pB S)))])), (i2, gI g 40 (wQ (pB S))), (ho, .inr (2, [.ref ha, .int (iI n)])), (ha, gR g 4 f), (rk, .inr (5, [.ref t0, .ref t1, .ref t2, .ref t3, .ref t4, .ref t5, .ref (fS F)])), (t0, .inr (8, [.int (iI 199), .ref q0])), (q0, gI g 796 (rV r)), (t1, .inr (8, [.int (iI 199), .ref q1])), (q1, gI g 796 (rH r)), (t2, .inr (8, [.int (iI 199), .ref q2])), (q2, gI g 796 (rR r)), (t3, .inr (8, [.int (iI 40), .ref q3])), (q3, gI g 160 (nV r)), (t4, .inr (8, [.int (iI 40), .ref q4])), (q4, gI g 160 (nS r)), (t5, .inr (8, [.int (iI 40), .ref q5])), (q5, gI g 160 (nW r)), (ap, gI g 1300 P), (ak, gI g 325 Kp), (ax, gC g 40 tf), (a1, gI g 41 (nK N)), (a2, gI g 41 (nU N)), (a3, gI g 90 (nQ N)), (a4, gI g 796 (kV K)), (a5, gI g 796 (kH K)), (a6, gI g 796 (kR K)), (v1, gI g 41 (kW K)), (v2, gI g 41 (kS K)), (v3, gI g 41 (kL K)), (v4, gI g 41 (kE K)), (v5, gI g 41 (kX K)), (v6, gI g 41 (kT K)), (ob, .inr (10, [.ref tx, .ref ps, .ref ho, .ref rk, va_rf so])), (o9, gJ g 1 o), (mo, .inr (11, [.ref az, .ref ap, .int (iI n), .ref ak, .int (iI ik), .ref ax, .int (iI tn), .int (iI 1), .ref a1, .ref a2, .int (iI (nN N)), .ref a3, .int (iI (nP N)), .ref a4, .ref a5, .ref a6, .ref v1, .ref v2, .ref v3, .ref v4, .ref v5, .ref v6, .int (iI bn), .int (iI (nWh N)), .int (iI (nD N)), .int (iI (nG N))])), (az, gI g 325 Z)] := hW
  refine W.eq (g2 := F0 m 1001 ls [.int (iI 0)]) rfl ?_
  refine lv_istore (lv' := [(6, .int (iI 0)), (5, .int (iI 1)), (4, .int (iI i)), (3, .ref o9), (2, .ref mo), (1, .ref ob), (0, .ref b0)]) S0.1 S0.2.1 dL_law_1001 hl (by decide) rfl (fun ls hl => ?_)
  refine lv_aload_n S0.1 S0.2.1 dL_law_1003 rfl (lv_at hl 4 rfl) ?_
  refine q_pV (n := 0) (rest := []) S0 hK (c_X11_thrown l g mo az ap ak ax a1 a2 a3 a4 a5 a6 v1 v2 v3 v4 v5 v6 n ik tn 1 (nN N) (nP N) bn (nWh N) (nD N) (nG N)) (subP hW.1.1 [46] rfl) (trivial) gL_law_X11_thrown rfl rfl rfl (by decide +kernel) ⟨Nat.le_of_ble_eq_true rfl, Nat.le_of_ble_eq_true rfl⟩ (q_recv hK hW.1.1 (ci := 11) (q0 := 46) rfl rfl) rfl rfl hl.1 (Nat.le_of_ble_eq_true rfl) ⟨by show _ ≤ (601024 : Nat); omega, by show _ ≤ (7293034 : Nat); omega⟩ dL_law_1004 ?_
  refine W.eq (g2 := F0 m 1007 ls [.int (iI 1)]) rfl ?_
  refine lv_iload S0.1 S0.2.1 dL_law_1007 (lv_at hl 1 rfl) ?_
  refine q_icmp_eq (tgt := 1014) S0 (by omega) dL_law_1009 (by decide) (fun c1009 => ?_) (fun c1009 => ?_)
  · skip
    refine lv_iload S0.1 S0.2.1 dL_law_1014 (lv_at hl 1 rfl) ?_
    refine q_if_ne (tgt := 1031) S0 (by omega) dL_law_1016 (by decide) (fun c1016 => ?_) (fun c1016 => ?_)
    · skip
      refine lv_goto (tgt := 1562) S0.1 S0.2.1 dL_law_1031 (by decide) ?_
      refine W.widen (k := cells + 7) (n := slots + 200) (by omega) (by omega) ?_
      exact kk _ _ ls ⟨Fam, F, r, S, tn, tf, n, f, Fh, so, ik, 1, bn, N, Z, P, Kp, K, o, hW.sub [44, 0, 1, 2, 3, 4, 5, 6, 7, 8, 9, 10, 11, 12, 13, 14, 15, 16, 17, 18, 19, 20, 21, 22, 23, 24, 25, 26, 27, 28, 46, 47, 29, 30, 31, 32, 33, 34, 35, 36, 37, 38, 39, 40, 41, 42, 43, 45] rfl rfl, hI⟩ (lv_sub hl [2, 3, 4, 5, 6] rfl)
    · skip
      exact absurd c1016 (by omega)
  · skip
    exact absurd (rfl) c1009
set_option maxHeartbeats 4000000 in
set_option maxRecDepth 100000 in
theorem lk_chainByProducts_3 {p : Program} {l : Launch} {e : Env} {s : State} {m : MethodId} {below : List Frame} {meth : Method} {c : Code} {H : Heap} {locs : List Loc} {cells slots : Nat} {Q : State → Prop} {ls : Array Slot} {g : GG} {b0 L : Nat} {xs : Nat → Int32} (hC : LC p l s m b0 L xs meth c g) {i : Int} (hi : 0 ≤ i ∧ i + 4 ≤ L) (ob tx tc ps b k1 k2 k3 k4 k5 k6 s1 i1 s2 i2 ho ha rk t0 q0 t1 q1 t2 q2 t3 q3 t4 q4 t5 q5 mo az ap ak ax a1 a2 a3 a4 a5 a6 v1 v2 v3 v4 v5 v6 o9 : Nat) (Fam : FT → Prop) (F : FT) (r : RT) (S : PT) (tn : Int) (tf : Nat → Int) (n : Int) (f : Nat → Option Nat) (Fh : Nat → FT) (so : Option Nat) (ik : Int) (th : Int) (bn : Int) (N : NT) (Z : Nat → Int) (P : Nat → Int) (Kp : Nat → Int) (K : KT) (o : Nat → Int) (w : Int) (u : Int) (x : Int) (hI : INV Fam F r S tn tf n f Fh so ik N Z P Kp) (hxw : (xs (i + 1).toNat).toInt = w) (hxu : (xs (i + 2).toNat).toInt = u) (hxx : (xs (i + 3).toNat).toInt = x) (hw : 0 ≤ w ∧ w < 4) (hu : u < 0 ∨ 3 < u) (hW : gLw g Fam (fun q => s.heap.size ≤ q) s.heap H locs [(ob, .inr (10, [.ref tx, .ref ps, .ref ho, .ref rk, va_rf so])), (tx, .inr (9, [.ref tc, .int (iI tn)])), (tc, gC g 40 tf), (ps, .inr (4, [.ref b, .int (iI (pA S)), .int (iI (pO S)), .int (iI (pM S))])), (b, .inr (0, [.ref k1, .ref k2, .ref k3, .ref k4, .ref k5, .ref k6, .int (iI (bN (pB S))), .int (iI (bZ (pB S))), .ref s1, .ref s2])), (k1, gI g 40 (bK (pB S))), (k2, gI g 40 (bU (pB S))), (k3, gI g 40 (bL (pB S))), (k4, gI g 40 (bV (pB S))), (k5, gI g 40 (bD (pB S))), (k6, gI g 40 (bE (pB S))), (s1, .inr (3, [.ref i1, .int (iI (lP (pB S)))])), (i1, gI g 40 (lQ (pB S))), (s2, .inr (3, [.ref i2, .int (iI (wP (pB S)))])), (i2, gI g 40 (wQ (pB S))), (ho, .inr (2, [.ref ha, .int (iI n)])), (ha, gR g 4 f), (rk, .inr (5, [.ref t0, .ref t1, .ref t2, .ref t3, .ref t4, .ref t5, .ref (fS F)])), (t0, .inr (8, [.int (iI 199), .ref q0])), (q0, gI g 796 (rV r)), (t1, .inr (8, [.int (iI 199), .ref q1])), (q1, gI g 796 (rH r)), (t2, .inr (8, [.int (iI 199), .ref q2])), (q2, gI g 796 (rR r)), (t3, .inr (8, [.int (iI 40), .ref q3])), (q3, gI g 160 (nV r)), (t4, .inr (8, [.int (iI 40), .ref q4])), (q4, gI g 160 (nS r)), (t5, .inr (8, [.int (iI 40), .ref q5])), (q5, gI g 160 (nW r)), (mo, .inr (11, [.ref az, .ref ap, .int (iI n), .ref ak, .int (iI ik), .ref ax, .int (iI tn), .int (iI th), .ref a1, .ref a2, .int (iI (nN N)), .ref a3, .int (iI (nP N)), .ref a4, .ref a5, .ref a6, .ref v1, .ref v2, .ref v3, .ref v4, .ref v5, .ref v6, .int (iI bn), .int (iI (nWh N)), .int (iI (nD N)), .int (iI (nG N))])), (az, gI g 325 Z), (ap, gI g 1300 P), (ak, gI g 325 Kp), (ax, gC g 40 tf), (a1, gI g 41 (nK N)), (a2, gI g 41 (nU N)), (a3, gI g 90 (nQ N)), (a4, gI g 796 (kV K)), (a5, gI g 796 (kH K)), (a6, gI g 796 (kR K)), (v1, gI g 41 (kW K)), (v2, gI g 41 (kS K)), (v3, gI g 41 (kL K)), (v4, gI g 41 (kE K)), (v5, gI g 41 (kX K)), (v6, gI g 41 (kT K)), (o9, gJ g 1 o)]) (hl : lv_has ls 7 [(4, .int (iI i)), (3, .ref o9), (2, .ref mo), (1, .ref ob), (0, .ref b0)]) (hR : cells + 7 ≤ 600000 ∧ slots + 200 ≤ 7290000) (kk : ∀ (H1 : Heap) (locs1 : List Loc) (ls1 : Array Slot), LInv g (fun q => s.heap.size ≤ q) s.heap H1 locs1 ob tx tc ps b k1 k2 k3 k4 k5 k6 s1 i1 s2 i2 ho ha rk t0 q0 t1 q1 t2 q2 t3 q3 t4 q4 t5 q5 mo az ap ak ax a1 a2 a3 a4 a5 a6 v1 v2 v3 v4 v5 v6 o9 → lv_has ls1 7 [(4, .int (iI i)), (3, .ref o9), (2, .ref mo), (1, .ref ob), (0, .ref b0)] → W p l e room_1 s m #[.ref b0] below meth c H1 locs1 (cells + 7) (slots + 200) Q (F0 m 1562 ls1 [])) : W p l e room_1 s m #[.ref b0] below meth c H locs cells slots Q (F0 m 954 ls []) := by
  obtain ⟨hGI, hFam, hRI, hB, ht, htf, hHR, hSN, hZ, hz⟩ := id hI
  have S0 := hC.1
  have hK := hC.2.2.2.2.2.1
  have hE := hC.2.2.2.2.2.2.1
  have hl0 := hC.2.2.2.2.1
  have hL8 := hC.2.2.2.2.2.2.2
  have hA : ∀ q : Nat, s.heap.size ≤ q → (fun q : Nat => s.heap.size ≤ q) q := fun _ h => h
  have hbA : ¬ (fun q : Nat => s.heap.size ≤ q) b0 := Nat.not_le.mpr hC.2.2.2.1
  have hG := hGI.1
  have hpr := GF_p hG
  have hn4 := hHR.1
  have hrw := iI_rng (xs (i + 1).toNat)
  rw [hxw] at hrw
  have hru := iI_rng (xs (i + 2).toNat)
  rw [hxu] at hru
  have hrx := iI_rng (xs (i + 3).toNat)
  rw [hxx] at hrx
  refine lv_aload_n S0.1 S0.2.1 dL_law_954 rfl (lv_at hl 3 rfl) ?_
  refine lv_aload_n S0.1 S0.2.1 dL_law_955 rfl (lv_at hl 4 rfl) ?_
  refine lv_iload S0.1 S0.2.1 dL_law_956 (lv_at hl 0 rfl) ?_
  refine q_iconst S0 dL_law_958 ?_
  refine q_iadd S0 dL_law_959 ?_
  refine q_sld S0 hC.2.2.1 hC.2.2.2.1 hbA hW.1.2.2 (by omega) dL_law_960 ?_
  refine q_topI (b := w) (hxw) ?_
  refine lv_aload_n S0.1 S0.2.1 dL_law_961 rfl (lv_at hl 4 rfl) ?_
  refine lv_iload S0.1 S0.2.1 dL_law_962 (lv_at hl 0 rfl) ?_
  refine q_iconst S0 dL_law_964 ?_
  refine q_iadd S0 dL_law_965 ?_
  refine q_sld S0 hC.2.2.1 hC.2.2.2.1 hbA hW.1.2.2 (by omega) dL_law_966 ?_
  refine q_topI (b := u) (hxu) ?_
  refine lv_aload_n S0.1 S0.2.1 dL_law_967 rfl (lv_at hl 4 rfl) ?_
  refine lv_iload S0.1 S0.2.1 dL_law_968 (lv_at hl 0 rfl) ?_
  refine q_iconst S0 dL_law_970 ?_
  refine q_iadd S0 dL_law_971 ?_
  refine q_sld S0 hC.2.2.1 hC.2.2.2.1 hbA hW.1.2.2 (by omega) dL_law_972 ?_
  refine q_topI (b := x) (hxx) ?_
  refine lv_aload_n S0.1 S0.2.1 dL_law_973 rfl (lv_at hl 1 rfl) ?_
  refine q_lS (n := 5) (rest := []) (wr := [(tx, .inr (9, [.ref tc, .int (iI tn)])), (tc, gC g 40 tf), (ps, .inr (4, [.ref b, .int (iI (pA S)), .int (iI (pO S)), .int (iI (pM S))])), (b, .inr (0, [.ref k1, .ref k2, .ref k3, .ref k4, .ref k5, .ref k6, .int (iI (bN (pB S))), .int (iI (bZ (pB S))), .ref s1, .ref s2])), (k1, gI g 40 (bK (pB S))), (k2, gI g 40 (bU (pB S))), (k3, gI g 40 (bL (pB S))), (k4, gI g 40 (bV (pB S))), (k5, gI g 40 (bD (pB S))), (k6, gI g 40 (bE (pB S))), (s1, .inr (3, [.ref i1, .int (iI (lP (pB S)))])), (i1, gI g 40 (lQ (pB S))), (s2, .inr (3, [.ref i2, .int (iI (wP (pB S)))])), (i2, gI g 40 (wQ (pB S))), (ho, .inr (2, [.ref ha, .int (iI n)])), (ha, gR g 4 f), (rk, .inr (5, [.ref t0, .ref t1, .ref t2, .ref t3, .ref t4, .ref t5, .ref (fS F)])), (t0, .inr (8, [.int (iI 199), .ref q0])), (q0, gI g 796 (rV r)), (t1, .inr (8, [.int (iI 199), .ref q1])), (q1, gI g 796 (rH r)), (t2, .inr (8, [.int (iI 199), .ref q2])), (q2, gI g 796 (rR r)), (t3, .inr (8, [.int (iI 40), .ref q3])), (q3, gI g 160 (nV r)), (t4, .inr (8, [.int (iI 40), .ref q4])), (q4, gI g 160 (nS r)), (t5, .inr (8, [.int (iI 40), .ref q5])), (q5, gI g 160 (nW r)), (mo, .inr (11, [.ref az, .ref ap, .int (iI n), .ref ak, .int (iI ik), .ref ax, .int (iI tn), .int (iI th), .ref a1, .ref a2, .int (iI (nN N)), .ref a3, .int (iI (nP N)), .ref a4, .ref a5, .ref a6, .ref v1, .ref v2, .ref v3, .ref v4, .ref v5, .ref v6, .int (iI bn), .int (iI (nWh N)), .int (iI (nD N)), .int (iI (nG N))])), (az, gI g 325 Z), (ap, gI g 1300 P), (ak, gI g 325 Kp), (ax, gC g 40 tf), (a1, gI g 41 (nK N)), (a2, gI g 41 (nU N)), (a3, gI g 90 (nQ N)), (a4, gI g 796 (kV K)), (a5, gI g 796 (kH K)), (a6, gI g 796 (kR K)), (v1, gI g 41 (kW K)), (v2, gI g 41 (kS K)), (v3, gI g 41 (kL K)), (v4, gI g 41 (kE K)), (v5, gI g 41 (kX K)), (v6, gI g 41 (kT K))]) S0 hK hE hA hW (c_L_chainByProducts_3 l hl0 g ob tx ps ho rk so w u x o9 o Fam (hw) (by omega) (by omega)) gL_law_L_chainByProducts rfl rfl rfl (by decide +kernel) ⟨Nat.le_of_ble_eq_true rfl, Nat.le_of_ble_eq_true rfl⟩ [0, 47] [1, 2, 3, 4, 5, 6, 7, 8, 9, 10, 11, 12, 13, 14, 15, 16, 17, 18, 19, 20, 21, 22, 23, 24, 25, 26, 27, 28, 29, 30, 31, 32, 33, 34, 35, 36, 37, 38, 39, 40, 41, 42, 43, 44, 45, 46] rfl rfl rfl rfl (by decide) rfl rfl hl.1 (Nat.le_of_ble_eq_true rfl) ⟨by show _ ≤ (601024 : Nat); omega, by show _ ≤ (7293034 : Nat); omega⟩ dL_law_974 ?_
  rintro _ H locs _ hW
  have hW : gLw g Fam (fun q => s.heap.size ≤ q) s.heap H _ [(tx, .inr (9, [.ref tc, .int (iI tn)])), (tc, gC g 40 tf), (ps, .inr (4, [.ref b, .int (iI (pA S)), .int (iI (pO S)), .int (iI (pM S))])), (b, .inr (0, [.ref k1, .ref k2, .ref k3, .ref k4, .ref k5, .ref k6, .int (iI (bN (pB S))), .int (iI (bZ (pB S))), .ref s1, .ref s2])), (k1, gI g 40 (bK (pB S))), (k2, gI g 40 (bU (pB S))), (k3, gI g 40 (bL (pB S))), (k4, gI g 40 (bV (pB S))), (k5, gI g 40 (bD (pB S))), (k6, gI g 40 (bE (pB S))), (s1, .inr (3, [.ref i1, .int (iI (lP (pB S)))])), (i1, gI g 40 (lQ (pB S))), (s2, .inr (3, [.ref i2, .int (iI (wP (pB S)))])), (i2, gI g 40 (wQ (pB S))), (ho, .inr (2, [.ref ha, .int (iI n)])), (ha, gR g 4 f), (rk, .inr (5, [.ref t0, .ref t1, .ref t2, .ref t3, .ref t4, .ref t5, .ref (fS F)])), (t0, .inr (8, [.int (iI 199), .ref q0])), (q0, gI g 796 (rV r)), (t1, .inr (8, [.int (iI 199), .ref q1])), (q1, gI g 796 (rH r)), (t2, .inr (8, [.int (iI 199), .ref q2])), (q2, gI g 796 (rR r)), (t3, .inr (8, [.int (iI 40), .ref q3])), (q3, gI g 160 (nV r)), (t4, .inr (8, [.int (iI 40), .ref q4])), (q4, gI g 160 (nS r)), (t5, .inr (8, [.int (iI 40), .ref q5])), (q5, gI g 160 (nW r)), (mo, .inr (11, [.ref az, .ref ap, .int (iI n), .ref ak, .int (iI ik), .ref ax, .int (iI tn), .int (iI th), .ref a1, .ref a2, .int (iI (nN N)), .ref a3, .int (iI (nP N)), .ref a4, .ref a5, .ref a6, .ref v1, .ref v2, .ref v3, .ref v4, .ref v5, .ref v6, .int (iI bn), .int (iI (nWh N)), .int (iI (nD N)), .int (iI (nG N))])), (az, gI g 325 Z), (ap, gI g 1300 P), (ak, gI g 325 Kp), (ax, gC g 40 tf), (a1, gI g 41 (nK N)), (a2, gI g 41 (nU N)), (a3, gI g 90 (nQ N)), (a4, gI g 796 (kV K)), (a5, gI g 796 (kH K)), (a6, gI g 796 (kR K)), (v1, gI g 41 (kW K)), (v2, gI g 41 (kS K)), (v3, gI g 41 (kL K)), (v4, gI g 41 (kE K)), (v5, gI g 41 (kX K)), (v6, gI g 41 (kT K)), (ob, .inr (10, [.ref tx, .ref ps, .ref ho, .ref rk, va_rf so])), (o9, gJ g 1 o)] := hW
  refine W.eq (g2 := F0 m 977 ls [.int (iI 1)]) rfl ?_
  refine lv_istore (lv' := [(5, .int (iI 1)), (4, .int (iI i)), (3, .ref o9), (2, .ref mo), (1, .ref ob), (0, .ref b0)]) S0.1 S0.2.1 dL_law_977 hl (by decide) rfl (fun ls hl => ?_)
  refine lv_aload_n S0.1 S0.2.1 dL_law_979 rfl (lv_at hl 3 rfl) ?_
  refine lv_aload_n S0.1 S0.2.1 dL_law_980 rfl (lv_at hl 5 rfl) ?_
  refine lv_iload S0.1 S0.2.1 dL_law_981 (lv_at hl 1 rfl) ?_
  refine q_iconst S0 dL_law_983 ?_
  refine q_iadd S0 dL_law_984 ?_
  refine q_sld S0 hC.2.2.1 hC.2.2.2.1 hbA hW.1.2.2 (by omega) dL_law_985 ?_
  refine q_topI (b := w) (hxw) ?_
  refine lv_aload_n S0.1 S0.2.1 dL_law_986 rfl (lv_at hl 5 rfl) ?_
  refine lv_iload S0.1 S0.2.1 dL_law_987 (lv_at hl 1 rfl) ?_
  refine q_iconst S0 dL_law_989 ?_
  refine q_iadd S0 dL_law_990 ?_
  refine q_sld S0 hC.2.2.1 hC.2.2.2.1 hbA hW.1.2.2 (by omega) dL_law_991 ?_
  refine q_topI (b := u) (hxu) ?_
  refine lv_aload_n S0.1 S0.2.1 dL_law_992 rfl (lv_at hl 5 rfl) ?_
  refine lv_iload S0.1 S0.2.1 dL_law_993 (lv_at hl 1 rfl) ?_
  refine q_iconst S0 dL_law_995 ?_
  refine q_iadd S0 dL_law_996 ?_
  refine q_sld S0 hC.2.2.1 hC.2.2.2.1 hbA hW.1.2.2 (by omega) dL_law_997 ?_
  refine q_topI (b := x) (hxx) ?_
  refine q_lV (n := 3) (rest := []) (wr := [(tx, .inr (9, [.ref tc, .int (iI tn)])), (tc, gC g 40 tf), (ps, .inr (4, [.ref b, .int (iI (pA S)), .int (iI (pO S)), .int (iI (pM S))])), (b, .inr (0, [.ref k1, .ref k2, .ref k3, .ref k4, .ref k5, .ref k6, .int (iI (bN (pB S))), .int (iI (bZ (pB S))), .ref s1, .ref s2])), (k1, gI g 40 (bK (pB S))), (k2, gI g 40 (bU (pB S))), (k3, gI g 40 (bL (pB S))), (k4, gI g 40 (bV (pB S))), (k5, gI g 40 (bD (pB S))), (k6, gI g 40 (bE (pB S))), (s1, .inr (3, [.ref i1, .int (iI (lP (pB S)))])), (i1, gI g 40 (lQ (pB S))), (s2, .inr (3, [.ref i2, .int (iI (wP (pB S)))])), (i2, gI g 40 (wQ (pB S))), (ho, .inr (2, [.ref ha, .int (iI n)])), (ha, gR g 4 f), (rk, .inr (5, [.ref t0, .ref t1, .ref t2, .ref t3, .ref t4, .ref t5, .ref (fS F)])), (t0, .inr (8, [.int (iI 199), .ref q0])), (q0, gI g 796 (rV r)), (t1, .inr (8, [.int (iI 199), .ref q1])), (q1, gI g 796 (rH r)), (t2, .inr (8, [.int (iI 199), .ref q2])), (q2, gI g 796 (rR r)), (t3, .inr (8, [.int (iI 40), .ref q3])), (q3, gI g 160 (nV r)), (t4, .inr (8, [.int (iI 40), .ref q4])), (q4, gI g 160 (nS r)), (t5, .inr (8, [.int (iI 40), .ref q5])), (q5, gI g 160 (nW r)), (ap, gI g 1300 P), (ak, gI g 325 Kp), (ax, gC g 40 tf), (a1, gI g 41 (nK N)), (a2, gI g 41 (nU N)), (a3, gI g 90 (nQ N)), (a4, gI g 796 (kV K)), (a5, gI g 796 (kH K)), (a6, gI g 796 (kR K)), (v1, gI g 41 (kW K)), (v2, gI g 41 (kS K)), (v3, gI g 41 (kL K)), (v4, gI g 41 (kE K)), (v5, gI g 41 (kX K)), (v6, gI g 41 (kT K)), (ob, .inr (10, [.ref tx, .ref ps, .ref ho, .ref rk, va_rf so])), (o9, gJ g 1 o)]) S0 hK hA hW (c_X11_chainByProducts1 l g mo az ap ak ax a1 a2 a3 a4 a5 a6 v1 v2 v3 v4 v5 v6 n ik tn th (nN N) (nP N) bn (nWh N) (nD N) (nG N) Z F w u x (hG) (hz) (by omega) (by omega)) gL_law_X11_chainByProducts rfl rfl rfl (by decide +kernel) ⟨Nat.le_of_ble_eq_true rfl, Nat.le_of_ble_eq_true rfl⟩ [29, 30] [0, 1, 2, 3, 4, 5, 6, 7, 8, 9, 10, 11, 12, 13, 14, 15, 16, 17, 18, 19, 20, 21, 22, 23, 24, 25, 26, 27, 28, 31, 32, 33, 34, 35, 36, 37, 38, 39, 40, 41, 42, 43, 44, 45, 46, 47] rfl rfl rfl rfl (by decide) (q_recv hK hW.1.1 (ci := 11) (q0 := 29) rfl rfl) (fun _ _ => trivial) (trivial) rfl rfl hl.1 (Nat.le_of_ble_eq_true rfl) ⟨by show _ ≤ (601024 : Nat); omega, by show _ ≤ (7293034 : Nat); omega⟩ dL_law_998 ?_
  rintro _ H locs _ hW
  have hW : gLw g Fam (fun q => s.heap.size ≤ q) s.heap H _ [(tx, .inr (9, [.ref tc, .int (iI tn)])), (tc, gC g 40 tf), (ps, .inr (4, [.ref b, .int (iI (pA S)), .int (iI (pO S)), .int (iI (pM S))])), (b, .inr (0, [.ref k1, .ref k2, .ref k3, .ref k4, .ref k5, .ref k6, .int (iI (bN (pB S))), .int (iI (bZ (pB S))), .ref s1, .ref s2])), (k1, gI g 40 (bK (pB S))), (k2, gI g 40 (bU (pB S))), (k3, gI g 40 (bL (pB S))), (k4, gI g 40 (bV (pB S))), (k5, gI g 40 (bD (pB S))), (k6, gI g 40 (bE (pB S))), (s1, .inr (3, [.ref i1, .int (iI (lP (pB S)))])), (i1, gI g 40 (lQ (pB S))), (s2, .inr (3, [.ref i2, .int (iI (wP (pB S)))])), (i2, gI g 40 (wQ (pB S))), (ho, .inr (2, [.ref ha, .int (iI n)])), (ha, gR g 4 f), (rk, .inr (5, [.ref t0, .ref t1, .ref t2, .ref t3, .ref t4, .ref t5, .ref (fS F)])), (t0, .inr (8, [.int (iI 199), .ref q0])), (q0, gI g 796 (rV r)), (t1, .inr (8, [.int (iI 199), .ref q1])), (q1, gI g 796 (rH r)), (t2, .inr (8, [.int (iI 199), .ref q2])), (q2, gI g 796 (rR r)), (t3, .inr (8, [.int (iI 40), .ref q3])), (q3, gI g 160 (nV r)), (t4, .inr (8, [.int (iI 40), .ref q4])), (q4, gI g 160 (nS r)), (t5, .inr (8, [.int (iI 40), .ref q5])), (q5, gI g 160 (nW r)), (ap, gI g 1300 P), (ak, gI g 325 Kp), (ax, gC g 40 tf), (a1, gI g 41 (nK N)), (a2, gI g 41 (nU N)), (a3, gI g 90 (nQ N)), (a4, gI g 796 (kV K)), (a5, gI g 796 (kH K)), (a6, gI g 796 (kR K)), (v1, gI g 41 (kW K)), (v2, gI g 41 (kS K)), (v3, gI g 41 (kL K)), (v4, gI g 41 (kE K)), (v5, gI g 41 (kX K)), (v6, gI g 41 (kT K)), (ob, .inr (10, [.ref tx, .ref ps, .ref ho, .ref rk, va_rf so])), (o9, gJ g 1 o), (mo, .inr (11, [.ref az, .ref ap, .int (iI n), .ref ak, .int (iI ik), .ref ax, .int (iI tn), .int (iI 1), .ref a1, .ref a2, .int (iI (nN N)), .ref a3, .int (iI (nP N)), .ref a4, .ref a5, .ref a6, .ref v1, .ref v2, .ref v3, .ref v4, .ref v5, .ref v6, .int (iI bn), .int (iI (nWh N)), .int (iI (nD N)), .int (iI (nG N))])), (az, gI g 325 Z)] := hW
  refine W.eq (g2 := F0 m 1001 ls [.int (iI 0)]) rfl ?_
  refine lv_istore (lv' := [(6, .int (iI 0)), (5, .int (iI 1)), (4, .int (iI i)), (3, .ref o9), (2, .ref mo), (1, .ref ob), (0, .ref b0)]) S0.1 S0.2.1 dL_law_1001 hl (by decide) rfl (fun ls hl => ?_)
  refine lv_aload_n S0.1 S0.2.1 dL_law_1003 rfl (lv_at hl 4 rfl) ?_
  refine q_pV (n := 0) (rest := []) S0 hK (c_X11_thrown l g mo az ap ak ax a1 a2 a3 a4 a5 a6 v1 v2 v3 v4 v5 v6 n ik tn 1 (nN N) (nP N) bn (nWh N) (nD N) (nG N)) (subP hW.1.1 [46] rfl) (trivial) gL_law_X11_thrown rfl rfl rfl (by decide +kernel) ⟨Nat.le_of_ble_eq_true rfl, Nat.le_of_ble_eq_true rfl⟩ (q_recv hK hW.1.1 (ci := 11) (q0 := 46) rfl rfl) rfl rfl hl.1 (Nat.le_of_ble_eq_true rfl) ⟨by show _ ≤ (601024 : Nat); omega, by show _ ≤ (7293034 : Nat); omega⟩ dL_law_1004 ?_
  refine W.eq (g2 := F0 m 1007 ls [.int (iI 1)]) rfl ?_
  refine lv_iload S0.1 S0.2.1 dL_law_1007 (lv_at hl 1 rfl) ?_
  refine q_icmp_eq (tgt := 1014) S0 (by omega) dL_law_1009 (by decide) (fun c1009 => ?_) (fun c1009 => ?_)
  · skip
    refine lv_iload S0.1 S0.2.1 dL_law_1014 (lv_at hl 1 rfl) ?_
    refine q_if_ne (tgt := 1031) S0 (by omega) dL_law_1016 (by decide) (fun c1016 => ?_) (fun c1016 => ?_)
    · skip
      refine lv_goto (tgt := 1562) S0.1 S0.2.1 dL_law_1031 (by decide) ?_
      refine W.widen (k := cells + 7) (n := slots + 200) (by omega) (by omega) ?_
      exact kk _ _ ls ⟨Fam, F, r, S, tn, tf, n, f, Fh, so, ik, 1, bn, N, Z, P, Kp, K, o, hW.sub [44, 0, 1, 2, 3, 4, 5, 6, 7, 8, 9, 10, 11, 12, 13, 14, 15, 16, 17, 18, 19, 20, 21, 22, 23, 24, 25, 26, 27, 28, 46, 47, 29, 30, 31, 32, 33, 34, 35, 36, 37, 38, 39, 40, 41, 42, 43, 45] rfl rfl, hI⟩ (lv_sub hl [2, 3, 4, 5, 6] rfl)
    · skip
      exact absurd c1016 (by omega)
  · skip
    exact absurd (rfl) c1009
set_option maxHeartbeats 4000000 in
set_option maxRecDepth 100000 in
theorem lk_chainByProducts_2 {p : Program} {l : Launch} {e : Env} {s : State} {m : MethodId} {below : List Frame} {meth : Method} {c : Code} {H : Heap} {locs : List Loc} {cells slots : Nat} {Q : State → Prop} {ls : Array Slot} {g : GG} {b0 L : Nat} {xs : Nat → Int32} (hC : LC p l s m b0 L xs meth c g) {i : Int} (hi : 0 ≤ i ∧ i + 4 ≤ L) (ob tx tc ps b k1 k2 k3 k4 k5 k6 s1 i1 s2 i2 ho ha rk t0 q0 t1 q1 t2 q2 t3 q3 t4 q4 t5 q5 mo az ap ak ax a1 a2 a3 a4 a5 a6 v1 v2 v3 v4 v5 v6 o9 : Nat) (Fam : FT → Prop) (F : FT) (r : RT) (S : PT) (tn : Int) (tf : Nat → Int) (n : Int) (f : Nat → Option Nat) (Fh : Nat → FT) (so : Option Nat) (ik : Int) (th : Int) (bn : Int) (N : NT) (Z : Nat → Int) (P : Nat → Int) (Kp : Nat → Int) (K : KT) (o : Nat → Int) (w : Int) (u : Int) (x : Int) (hI : INV Fam F r S tn tf n f Fh so ik N Z P Kp) (hxw : (xs (i + 1).toNat).toInt = w) (hxu : (xs (i + 2).toNat).toInt = u) (hxx : (xs (i + 3).toNat).toInt = x) (hw : 0 ≤ w ∧ w < 4) (hu : 0 ≤ u ∧ u < 4) (hx : x < 0 ∨ fP F ≤ x) (hW : gLw g Fam (fun q => s.heap.size ≤ q) s.heap H locs [(ob, .inr (10, [.ref tx, .ref ps, .ref ho, .ref rk, va_rf so])), (tx, .inr (9, [.ref tc, .int (iI tn)])), (tc, gC g 40 tf), (ps, .inr (4, [.ref b, .int (iI (pA S)), .int (iI (pO S)), .int (iI (pM S))])), (b, .inr (0, [.ref k1, .ref k2, .ref k3, .ref k4, .ref k5, .ref k6, .int (iI (bN (pB S))), .int (iI (bZ (pB S))), .ref s1, .ref s2])), (k1, gI g 40 (bK (pB S))), (k2, gI g 40 (bU (pB S))), (k3, gI g 40 (bL (pB S))), (k4, gI g 40 (bV (pB S))), (k5, gI g 40 (bD (pB S))), (k6, gI g 40 (bE (pB S))), (s1, .inr (3, [.ref i1, .int (iI (lP (pB S)))])), (i1, gI g 40 (lQ (pB S))), (s2, .inr (3, [.ref i2, .int (iI (wP (pB S)))])), (i2, gI g 40 (wQ (pB S))), (ho, .inr (2, [.ref ha, .int (iI n)])), (ha, gR g 4 f), (rk, .inr (5, [.ref t0, .ref t1, .ref t2, .ref t3, .ref t4, .ref t5, .ref (fS F)])), (t0, .inr (8, [.int (iI 199), .ref q0])), (q0, gI g 796 (rV r)), (t1, .inr (8, [.int (iI 199), .ref q1])), (q1, gI g 796 (rH r)), (t2, .inr (8, [.int (iI 199), .ref q2])), (q2, gI g 796 (rR r)), (t3, .inr (8, [.int (iI 40), .ref q3])), (q3, gI g 160 (nV r)), (t4, .inr (8, [.int (iI 40), .ref q4])), (q4, gI g 160 (nS r)), (t5, .inr (8, [.int (iI 40), .ref q5])), (q5, gI g 160 (nW r)), (mo, .inr (11, [.ref az, .ref ap, .int (iI n), .ref ak, .int (iI ik), .ref ax, .int (iI tn), .int (iI th), .ref a1, .ref a2, .int (iI (nN N)), .ref a3, .int (iI (nP N)), .ref a4, .ref a5, .ref a6, .ref v1, .ref v2, .ref v3, .ref v4, .ref v5, .ref v6, .int (iI bn), .int (iI (nWh N)), .int (iI (nD N)), .int (iI (nG N))])), (az, gI g 325 Z), (ap, gI g 1300 P), (ak, gI g 325 Kp), (ax, gC g 40 tf), (a1, gI g 41 (nK N)), (a2, gI g 41 (nU N)), (a3, gI g 90 (nQ N)), (a4, gI g 796 (kV K)), (a5, gI g 796 (kH K)), (a6, gI g 796 (kR K)), (v1, gI g 41 (kW K)), (v2, gI g 41 (kS K)), (v3, gI g 41 (kL K)), (v4, gI g 41 (kE K)), (v5, gI g 41 (kX K)), (v6, gI g 41 (kT K)), (o9, gJ g 1 o)]) (hl : lv_has ls 7 [(4, .int (iI i)), (3, .ref o9), (2, .ref mo), (1, .ref ob), (0, .ref b0)]) (hR : cells + 7 ≤ 600000 ∧ slots + 200 ≤ 7290000) (kk : ∀ (H1 : Heap) (locs1 : List Loc) (ls1 : Array Slot), LInv g (fun q => s.heap.size ≤ q) s.heap H1 locs1 ob tx tc ps b k1 k2 k3 k4 k5 k6 s1 i1 s2 i2 ho ha rk t0 q0 t1 q1 t2 q2 t3 q3 t4 q4 t5 q5 mo az ap ak ax a1 a2 a3 a4 a5 a6 v1 v2 v3 v4 v5 v6 o9 → lv_has ls1 7 [(4, .int (iI i)), (3, .ref o9), (2, .ref mo), (1, .ref ob), (0, .ref b0)] → W p l e room_1 s m #[.ref b0] below meth c H1 locs1 (cells + 7) (slots + 200) Q (F0 m 1562 ls1 [])) : W p l e room_1 s m #[.ref b0] below meth c H locs cells slots Q (F0 m 954 ls []) := by
  obtain ⟨hGI, hFam, hRI, hB, ht, htf, hHR, hSN, hZ, hz⟩ := id hI
  have S0 := hC.1
  have hK := hC.2.2.2.2.2.1
  have hE := hC.2.2.2.2.2.2.1
  have hl0 := hC.2.2.2.2.1
  have hL8 := hC.2.2.2.2.2.2.2
  have hA : ∀ q : Nat, s.heap.size ≤ q → (fun q : Nat => s.heap.size ≤ q) q := fun _ h => h
  have hbA : ¬ (fun q : Nat => s.heap.size ≤ q) b0 := Nat.not_le.mpr hC.2.2.2.1
  have hG := hGI.1
  have hpr := GF_p hG
  have hn4 := hHR.1
  have hrw := iI_rng (xs (i + 1).toNat)
  rw [hxw] at hrw
  have hru := iI_rng (xs (i + 2).toNat)
  rw [hxu] at hru
  have hrx := iI_rng (xs (i + 3).toNat)
  rw [hxx] at hrx
  refine lv_aload_n S0.1 S0.2.1 dL_law_954 rfl (lv_at hl 3 rfl) ?_
  refine lv_aload_n S0.1 S0.2.1 dL_law_955 rfl (lv_at hl 4 rfl) ?_
  refine lv_iload S0.1 S0.2.1 dL_law_956 (lv_at hl 0 rfl) ?_
  refine q_iconst S0 dL_law_958 ?_
  refine q_iadd S0 dL_law_959 ?_
  refine q_sld S0 hC.2.2.1 hC.2.2.2.1 hbA hW.1.2.2 (by omega) dL_law_960 ?_
  refine q_topI (b := w) (hxw) ?_
  refine lv_aload_n S0.1 S0.2.1 dL_law_961 rfl (lv_at hl 4 rfl) ?_
  refine lv_iload S0.1 S0.2.1 dL_law_962 (lv_at hl 0 rfl) ?_
  refine q_iconst S0 dL_law_964 ?_
  refine q_iadd S0 dL_law_965 ?_
  refine q_sld S0 hC.2.2.1 hC.2.2.2.1 hbA hW.1.2.2 (by omega) dL_law_966 ?_
  refine q_topI (b := u) (hxu) ?_
  refine lv_aload_n S0.1 S0.2.1 dL_law_967 rfl (lv_at hl 4 rfl) ?_
  refine lv_iload S0.1 S0.2.1 dL_law_968 (lv_at hl 0 rfl) ?_
  refine q_iconst S0 dL_law_970 ?_
  refine q_iadd S0 dL_law_971 ?_
  refine q_sld S0 hC.2.2.1 hC.2.2.2.1 hbA hW.1.2.2 (by omega) dL_law_972 ?_
  refine q_topI (b := x) (hxx) ?_
  refine lv_aload_n S0.1 S0.2.1 dL_law_973 rfl (lv_at hl 1 rfl) ?_
  refine q_lS (n := 5) (rest := []) (wr := [(tx, .inr (9, [.ref tc, .int (iI tn)])), (tc, gC g 40 tf), (ps, .inr (4, [.ref b, .int (iI (pA S)), .int (iI (pO S)), .int (iI (pM S))])), (b, .inr (0, [.ref k1, .ref k2, .ref k3, .ref k4, .ref k5, .ref k6, .int (iI (bN (pB S))), .int (iI (bZ (pB S))), .ref s1, .ref s2])), (k1, gI g 40 (bK (pB S))), (k2, gI g 40 (bU (pB S))), (k3, gI g 40 (bL (pB S))), (k4, gI g 40 (bV (pB S))), (k5, gI g 40 (bD (pB S))), (k6, gI g 40 (bE (pB S))), (s1, .inr (3, [.ref i1, .int (iI (lP (pB S)))])), (i1, gI g 40 (lQ (pB S))), (s2, .inr (3, [.ref i2, .int (iI (wP (pB S)))])), (i2, gI g 40 (wQ (pB S))), (ho, .inr (2, [.ref ha, .int (iI n)])), (ha, gR g 4 f), (t0, .inr (8, [.int (iI 199), .ref q0])), (q0, gI g 796 (rV r)), (t1, .inr (8, [.int (iI 199), .ref q1])), (q1, gI g 796 (rH r)), (t2, .inr (8, [.int (iI 199), .ref q2])), (q2, gI g 796 (rR r)), (t3, .inr (8, [.int (iI 40), .ref q3])), (q3, gI g 160 (nV r)), (t4, .inr (8, [.int (iI 40), .ref q4])), (q4, gI g 160 (nS r)), (t5, .inr (8, [.int (iI 40), .ref q5])), (q5, gI g 160 (nW r)), (mo, .inr (11, [.ref az, .ref ap, .int (iI n), .ref ak, .int (iI ik), .ref ax, .int (iI tn), .int (iI th), .ref a1, .ref a2, .int (iI (nN N)), .ref a3, .int (iI (nP N)), .ref a4, .ref a5, .ref a6, .ref v1, .ref v2, .ref v3, .ref v4, .ref v5, .ref v6, .int (iI bn), .int (iI (nWh N)), .int (iI (nD N)), .int (iI (nG N))])), (az, gI g 325 Z), (ap, gI g 1300 P), (ak, gI g 325 Kp), (ax, gC g 40 tf), (a1, gI g 41 (nK N)), (a2, gI g 41 (nU N)), (a3, gI g 90 (nQ N)), (a4, gI g 796 (kV K)), (a5, gI g 796 (kH K)), (a6, gI g 796 (kR K)), (v1, gI g 41 (kW K)), (v2, gI g 41 (kS K)), (v3, gI g 41 (kL K)), (v4, gI g 41 (kE K)), (v5, gI g 41 (kX K)), (v6, gI g 41 (kT K))]) S0 hK hE hA hW (c_L_chainByProducts_2 l hl0 g ob tx ps ho rk t0 t1 t2 t3 t4 t5 so F w u x o9 o Fam (hpr) (hw) (hu) (by omega) (hFam)) gL_law_L_chainByProducts rfl rfl rfl (by decide +kernel) ⟨Nat.le_of_ble_eq_true rfl, Nat.le_of_ble_eq_true rfl⟩ [0, 17, 47] [1, 2, 3, 4, 5, 6, 7, 8, 9, 10, 11, 12, 13, 14, 15, 16, 18, 19, 20, 21, 22, 23, 24, 25, 26, 27, 28, 29, 30, 31, 32, 33, 34, 35, 36, 37, 38, 39, 40, 41, 42, 43, 44, 45, 46] rfl rfl rfl rfl (by decide) rfl rfl hl.1 (Nat.le_of_ble_eq_true rfl) ⟨by show _ ≤ (601024 : Nat); omega, by show _ ≤ (7293034 : Nat); omega⟩ dL_law_974 ?_
  rintro _ H locs _ hW
  have hW : gLw g Fam (fun q => s.heap.size ≤ q) s.heap H _ [(tx, .inr (9, [.ref tc, .int (iI tn)])), (tc, gC g 40 tf), (ps, .inr (4, [.ref b, .int (iI (pA S)), .int (iI (pO S)), .int (iI (pM S))])), (b, .inr (0, [.ref k1, .ref k2, .ref k3, .ref k4, .ref k5, .ref k6, .int (iI (bN (pB S))), .int (iI (bZ (pB S))), .ref s1, .ref s2])), (k1, gI g 40 (bK (pB S))), (k2, gI g 40 (bU (pB S))), (k3, gI g 40 (bL (pB S))), (k4, gI g 40 (bV (pB S))), (k5, gI g 40 (bD (pB S))), (k6, gI g 40 (bE (pB S))), (s1, .inr (3, [.ref i1, .int (iI (lP (pB S)))])), (i1, gI g 40 (lQ (pB S))), (s2, .inr (3, [.ref i2, .int (iI (wP (pB S)))])), (i2, gI g 40 (wQ (pB S))), (ho, .inr (2, [.ref ha, .int (iI n)])), (ha, gR g 4 f), (t0, .inr (8, [.int (iI 199), .ref q0])), (q0, gI g 796 (rV r)), (t1, .inr (8, [.int (iI 199), .ref q1])), (q1, gI g 796 (rH r)), (t2, .inr (8, [.int (iI 199), .ref q2])), (q2, gI g 796 (rR r)), (t3, .inr (8, [.int (iI 40), .ref q3])), (q3, gI g 160 (nV r)), (t4, .inr (8, [.int (iI 40), .ref q4])), (q4, gI g 160 (nS r)), (t5, .inr (8, [.int (iI 40), .ref q5])), (q5, gI g 160 (nW r)), (mo, .inr (11, [.ref az, .ref ap, .int (iI n), .ref ak, .int (iI ik), .ref ax, .int (iI tn), .int (iI th), .ref a1, .ref a2, .int (iI (nN N)), .ref a3, .int (iI (nP N)), .ref a4, .ref a5, .ref a6, .ref v1, .ref v2, .ref v3, .ref v4, .ref v5, .ref v6, .int (iI bn), .int (iI (nWh N)), .int (iI (nD N)), .int (iI (nG N))])), (az, gI g 325 Z), (ap, gI g 1300 P), (ak, gI g 325 Kp), (ax, gC g 40 tf), (a1, gI g 41 (nK N)), (a2, gI g 41 (nU N)), (a3, gI g 90 (nQ N)), (a4, gI g 796 (kV K)), (a5, gI g 796 (kH K)), (a6, gI g 796 (kR K)), (v1, gI g 41 (kW K)), (v2, gI g 41 (kS K)), (v3, gI g 41 (kL K)), (v4, gI g 41 (kE K)), (v5, gI g 41 (kX K)), (v6, gI g 41 (kT K)), (ob, .inr (10, [.ref tx, .ref ps, .ref ho, .ref rk, va_rf so])), (rk, .inr (5, [.ref t0, .ref t1, .ref t2, .ref t3, .ref t4, .ref t5, .ref (fS F)])), (o9, gJ g 1 o)] := hW
  refine W.eq (g2 := F0 m 977 ls [.int (iI 2)]) rfl ?_
  refine lv_istore (lv' := [(5, .int (iI 2)), (4, .int (iI i)), (3, .ref o9), (2, .ref mo), (1, .ref ob), (0, .ref b0)]) S0.1 S0.2.1 dL_law_977 hl (by decide) rfl (fun ls hl => ?_)
  refine lv_aload_n S0.1 S0.2.1 dL_law_979 rfl (lv_at hl 3 rfl) ?_
  refine lv_aload_n S0.1 S0.2.1 dL_law_980 rfl (lv_at hl 5 rfl) ?_
  refine lv_iload S0.1 S0.2.1 dL_law_981 (lv_at hl 1 rfl) ?_
  refine q_iconst S0 dL_law_983 ?_
  refine q_iadd S0 dL_law_984 ?_
  refine q_sld S0 hC.2.2.1 hC.2.2.2.1 hbA hW.1.2.2 (by omega) dL_law_985 ?_
  refine q_topI (b := w) (hxw) ?_
  refine lv_aload_n S0.1 S0.2.1 dL_law_986 rfl (lv_at hl 5 rfl) ?_
  refine lv_iload S0.1 S0.2.1 dL_law_987 (lv_at hl 1 rfl) ?_
  refine q_iconst S0 dL_law_989 ?_
  refine q_iadd S0 dL_law_990 ?_
  refine q_sld S0 hC.2.2.1 hC.2.2.2.1 hbA hW.1.2.2 (by omega) dL_law_991 ?_
  refine q_topI (b := u) (hxu) ?_
  refine lv_aload_n S0.1 S0.2.1 dL_law_992 rfl (lv_at hl 5 rfl) ?_
  refine lv_iload S0.1 S0.2.1 dL_law_993 (lv_at hl 1 rfl) ?_
  refine q_iconst S0 dL_law_995 ?_
  refine q_iadd S0 dL_law_996 ?_
  refine q_sld S0 hC.2.2.1 hC.2.2.2.1 hbA hW.1.2.2 (by omega) dL_law_997 ?_
  refine q_topI (b := x) (hxx) ?_
  refine q_lV (n := 3) (rest := []) (wr := [(tx, .inr (9, [.ref tc, .int (iI tn)])), (tc, gC g 40 tf), (ps, .inr (4, [.ref b, .int (iI (pA S)), .int (iI (pO S)), .int (iI (pM S))])), (b, .inr (0, [.ref k1, .ref k2, .ref k3, .ref k4, .ref k5, .ref k6, .int (iI (bN (pB S))), .int (iI (bZ (pB S))), .ref s1, .ref s2])), (k1, gI g 40 (bK (pB S))), (k2, gI g 40 (bU (pB S))), (k3, gI g 40 (bL (pB S))), (k4, gI g 40 (bV (pB S))), (k5, gI g 40 (bD (pB S))), (k6, gI g 40 (bE (pB S))), (s1, .inr (3, [.ref i1, .int (iI (lP (pB S)))])), (i1, gI g 40 (lQ (pB S))), (s2, .inr (3, [.ref i2, .int (iI (wP (pB S)))])), (i2, gI g 40 (wQ (pB S))), (ho, .inr (2, [.ref ha, .int (iI n)])), (ha, gR g 4 f), (t0, .inr (8, [.int (iI 199), .ref q0])), (q0, gI g 796 (rV r)), (t1, .inr (8, [.int (iI 199), .ref q1])), (q1, gI g 796 (rH r)), (t2, .inr (8, [.int (iI 199), .ref q2])), (q2, gI g 796 (rR r)), (t3, .inr (8, [.int (iI 40), .ref q3])), (q3, gI g 160 (nV r)), (t4, .inr (8, [.int (iI 40), .ref q4])), (q4, gI g 160 (nS r)), (t5, .inr (8, [.int (iI 40), .ref q5])), (q5, gI g 160 (nW r)), (ap, gI g 1300 P), (ak, gI g 325 Kp), (ax, gC g 40 tf), (a1, gI g 41 (nK N)), (a2, gI g 41 (nU N)), (a3, gI g 90 (nQ N)), (a4, gI g 796 (kV K)), (a5, gI g 796 (kH K)), (a6, gI g 796 (kR K)), (v1, gI g 41 (kW K)), (v2, gI g 41 (kS K)), (v3, gI g 41 (kL K)), (v4, gI g 41 (kE K)), (v5, gI g 41 (kX K)), (v6, gI g 41 (kT K)), (ob, .inr (10, [.ref tx, .ref ps, .ref ho, .ref rk, va_rf so])), (rk, .inr (5, [.ref t0, .ref t1, .ref t2, .ref t3, .ref t4, .ref t5, .ref (fS F)])), (o9, gJ g 1 o)]) S0 hK hA hW (c_X11_chainByProducts2 l g mo az ap ak ax a1 a2 a3 a4 a5 a6 v1 v2 v3 v4 v5 v6 n ik tn th (nN N) (nP N) bn (nWh N) (nD N) (nG N) Z F w u x (hG) (hz) (hw) (hu) (by omega)) gL_law_X11_chainByProducts rfl rfl rfl (by decide +kernel) ⟨Nat.le_of_ble_eq_true rfl, Nat.le_of_ble_eq_true rfl⟩ [28, 29] [0, 1, 2, 3, 4, 5, 6, 7, 8, 9, 10, 11, 12, 13, 14, 15, 16, 17, 18, 19, 20, 21, 22, 23, 24, 25, 26, 27, 30, 31, 32, 33, 34, 35, 36, 37, 38, 39, 40, 41, 42, 43, 44, 45, 46, 47] rfl rfl rfl rfl (by decide) (q_recv hK hW.1.1 (ci := 11) (q0 := 28) rfl rfl) (fun _ _ => trivial) (trivial) rfl rfl hl.1 (Nat.le_of_ble_eq_true rfl) ⟨by show _ ≤ (601024 : Nat); omega, by show _ ≤ (7293034 : Nat); omega⟩ dL_law_998 ?_
  rintro _ H locs _ hW
  have hW : gLw g Fam (fun q => s.heap.size ≤ q) s.heap H _ [(tx, .inr (9, [.ref tc, .int (iI tn)])), (tc, gC g 40 tf), (ps, .inr (4, [.ref b, .int (iI (pA S)), .int (iI (pO S)), .int (iI (pM S))])), (b, .inr (0, [.ref k1, .ref k2, .ref k3, .ref k4, .ref k5, .ref k6, .int (iI (bN (pB S))), .int (iI (bZ (pB S))), .ref s1, .ref s2])), (k1, gI g 40 (bK (pB S))), (k2, gI g 40 (bU (pB S))), (k3, gI g 40 (bL (pB S))), (k4, gI g 40 (bV (pB S))), (k5, gI g 40 (bD (pB S))), (k6, gI g 40 (bE (pB S))), (s1, .inr (3, [.ref i1, .int (iI (lP (pB S)))])), (i1, gI g 40 (lQ (pB S))), (s2, .inr (3, [.ref i2, .int (iI (wP (pB S)))])), (i2, gI g 40 (wQ (pB S))), (ho, .inr (2, [.ref ha, .int (iI n)])), (ha, gR g 4 f), (t0, .inr (8, [.int (iI 199), .ref q0])), (q0, gI g 796 (rV r)), (t1, .inr (8, [.int (iI 199), .ref q1])), (q1, gI g 796 (rH r)), (t2, .inr (8, [.int (iI 199), .ref q2])), (q2, gI g 796 (rR r)), (t3, .inr (8, [.int (iI 40), .ref q3])), (q3, gI g 160 (nV r)), (t4, .inr (8, [.int (iI 40), .ref q4])), (q4, gI g 160 (nS r)), (t5, .inr (8, [.int (iI 40), .ref q5])), (q5, gI g 160 (nW r)), (ap, gI g 1300 P), (ak, gI g 325 Kp), (ax, gC g 40 tf), (a1, gI g 41 (nK N)), (a2, gI g 41 (nU N)), (a3, gI g 90 (nQ N)), (a4, gI g 796 (kV K)), (a5, gI g 796 (kH K)), (a6, gI g 796 (kR K)), (v1, gI g 41 (kW K)), (v2, gI g 41 (kS K)), (v3, gI g 41 (kL K)), (v4, gI g 41 (kE K)), (v5, gI g 41 (kX K)), (v6, gI g 41 (kT K)), (ob, .inr (10, [.ref tx, .ref ps, .ref ho, .ref rk, va_rf so])), (rk, .inr (5, [.ref t0, .ref t1, .ref t2, .ref t3, .ref t4, .ref t5, .ref (fS F)])), (o9, gJ g 1 o), (mo, .inr (11, [.ref az, .ref ap, .int (iI n), .ref ak, .int (iI ik), .ref ax, .int (iI tn), .int (iI 2), .ref a1, .ref a2, .int (iI (nN N)), .ref a3, .int (iI (nP N)), .ref a4, .ref a5, .ref a6, .ref v1, .ref v2, .ref v3, .ref v4, .ref v5, .ref v6, .int (iI bn), .int (iI (nWh N)), .int (iI (nD N)), .int (iI (nG N))])), (az, gI g 325 Z)] := hW
  refine W.eq (g2 := F0 m 1001 ls [.int (iI 0)]) rfl ?_
  refine lv_istore (lv' := [(6, .int (iI 0)), (5, .int (iI 2)), (4, .int (iI i)), (3, .ref o9), (2, .ref mo), (1, .ref ob), (0, .ref b0)]) S0.1 S0.2.1 dL_law_1001 hl (by decide) rfl (fun ls hl => ?_)
  refine lv_aload_n S0.1 S0.2.1 dL_law_1003 rfl (lv_at hl 4 rfl) ?_
  refine q_pV (n := 0) (rest := []) S0 hK (c_X11_thrown l g mo az ap ak ax a1 a2 a3 a4 a5 a6 v1 v2 v3 v4 v5 v6 n ik tn 2 (nN N) (nP N) bn (nWh N) (nD N) (nG N)) (subP hW.1.1 [46] rfl) (trivial) gL_law_X11_thrown rfl rfl rfl (by decide +kernel) ⟨Nat.le_of_ble_eq_true rfl, Nat.le_of_ble_eq_true rfl⟩ (q_recv hK hW.1.1 (ci := 11) (q0 := 46) rfl rfl) rfl rfl hl.1 (Nat.le_of_ble_eq_true rfl) ⟨by show _ ≤ (601024 : Nat); omega, by show _ ≤ (7293034 : Nat); omega⟩ dL_law_1004 ?_
  refine W.eq (g2 := F0 m 1007 ls [.int (iI 2)]) rfl ?_
  refine lv_iload S0.1 S0.2.1 dL_law_1007 (lv_at hl 1 rfl) ?_
  refine q_icmp_eq (tgt := 1014) S0 (by omega) dL_law_1009 (by decide) (fun c1009 => ?_) (fun c1009 => ?_)
  · skip
    refine lv_iload S0.1 S0.2.1 dL_law_1014 (lv_at hl 1 rfl) ?_
    refine q_if_ne (tgt := 1031) S0 (by omega) dL_law_1016 (by decide) (fun c1016 => ?_) (fun c1016 => ?_)
    · skip
      refine lv_goto (tgt := 1562) S0.1 S0.2.1 dL_law_1031 (by decide) ?_
      refine W.widen (k := cells + 7) (n := slots + 200) (by omega) (by omega) ?_
      exact kk _ _ ls ⟨Fam, F, r, S, tn, tf, n, f, Fh, so, ik, 2, bn, N, Z, P, Kp, K, o, hW.sub [43, 0, 1, 2, 3, 4, 5, 6, 7, 8, 9, 10, 11, 12, 13, 14, 15, 44, 16, 17, 18, 19, 20, 21, 22, 23, 24, 25, 26, 27, 46, 47, 28, 29, 30, 31, 32, 33, 34, 35, 36, 37, 38, 39, 40, 41, 42, 45] rfl rfl, hI⟩ (lv_sub hl [2, 3, 4, 5, 6] rfl)
    · skip
      exact absurd c1016 (by omega)
  · skip
    exact absurd (rfl) c1009
set_option maxHeartbeats 4000000 in
set_option maxRecDepth 100000 in
theorem lk_chainByFeeding_0 {p : Program} {l : Launch} {e : Env} {s : State} {m : MethodId} {below : List Frame} {meth : Method} {c : Code} {H : Heap} {locs : List Loc} {cells slots : Nat} {Q : State → Prop} {ls : Array Slot} {g : GG} {b0 L : Nat} {xs : Nat → Int32} (hC : LC p l s m b0 L xs meth c g) {i : Int} (hi : 0 ≤ i ∧ i + 4 ≤ L) (ob tx tc ps b k1 k2 k3 k4 k5 k6 s1 i1 s2 i2 ho ha rk t0 q0 t1 q1 t2 q2 t3 q3 t4 q4 t5 q5 mo az ap ak ax a1 a2 a3 a4 a5 a6 v1 v2 v3 v4 v5 v6 o9 : Nat) (Fam : FT → Prop) (F : FT) (r : RT) (S : PT) (tn : Int) (tf : Nat → Int) (n : Int) (f : Nat → Option Nat) (Fh : Nat → FT) (so : Option Nat) (ik : Int) (th : Int) (bn : Int) (N : NT) (Z : Nat → Int) (P : Nat → Int) (Kp : Nat → Int) (K : KT) (o : Nat → Int) (w : Int) (u : Int) (x : Int) (hI : INV Fam F r S tn tf n f Fh so ik N Z P Kp) (hxw : (xs (i + 1).toNat).toInt = w) (hxu : (xs (i + 2).toNat).toInt = u) (hxx : (xs (i + 3).toNat).toInt = x) (hw : 0 ≤ w ∧ w < 4) (hu : 0 ≤ u ∧ u < 4) (hx : 0 ≤ x ∧ x < fP F) (hW : gLw g Fam (fun q => s.heap.size ≤ q) s.heap H locs [(ob, .inr (10, [.ref tx, .ref ps, .ref ho, .ref rk, va_rf so])), (tx, .inr (9, [.ref tc, .int (iI tn)])), (tc, gC g 40 tf), (ps, .inr (4, [.ref b, .int (iI (pA S)), .int (iI (pO S)), .int (iI (pM S))])), (b, .inr (0, [.ref k1, .ref k2, .ref k3, .ref k4, .ref k5, .ref k6, .int (iI (bN (pB S))), .int (iI (bZ (pB S))), .ref s1, .ref s2])), (k1, gI g 40 (bK (pB S))), (k2, gI g 40 (bU (pB S))), (k3, gI g 40 (bL (pB S))), (k4, gI g 40 (bV (pB S))), (k5, gI g 40 (bD (pB S))), (k6, gI g 40 (bE (pB S))), (s1, .inr (3, [.ref i1, .int (iI (lP (pB S)))])), (i1, gI g 40 (lQ (pB S))), (s2, .inr (3, [.ref i2, .int (iI (wP (pB S)))])), (i2, gI g 40 (wQ (pB S))), (ho, .inr (2, [.ref ha, .int (iI n)])), (ha, gR g 4 f), (rk, .inr (5, [.ref t0, .ref t1, .ref t2, .ref t3, .ref t4, .ref t5, .ref (fS F)])), (t0, .inr (8, [.int (iI 199), .ref q0])), (q0, gI g 796 (rV r)), (t1, .inr (8, [.int (iI 199), .ref q1])), (q1, gI g 796 (rH r)), (t2, .inr (8, [.int (iI 199), .ref q2])), (q2, gI g 796 (rR r)), (t3, .inr (8, [.int (iI 40), .ref q3])), (q3, gI g 160 (nV r)), (t4, .inr (8, [.int (iI 40), .ref q4])), (q4, gI g 160 (nS r)), (t5, .inr (8, [.int (iI 40), .ref q5])), (q5, gI g 160 (nW r)), (mo, .inr (11, [.ref az, .ref ap, .int (iI n), .ref ak, .int (iI ik), .ref ax, .int (iI tn), .int (iI th), .ref a1, .ref a2, .int (iI (nN N)), .ref a3, .int (iI (nP N)), .ref a4, .ref a5, .ref a6, .ref v1, .ref v2, .ref v3, .ref v4, .ref v5, .ref v6, .int (iI bn), .int (iI (nWh N)), .int (iI (nD N)), .int (iI (nG N))])), (az, gI g 325 Z), (ap, gI g 1300 P), (ak, gI g 325 Kp), (ax, gC g 40 tf), (a1, gI g 41 (nK N)), (a2, gI g 41 (nU N)), (a3, gI g 90 (nQ N)), (a4, gI g 796 (kV K)), (a5, gI g 796 (kH K)), (a6, gI g 796 (kR K)), (v1, gI g 41 (kW K)), (v2, gI g 41 (kS K)), (v3, gI g 41 (kL K)), (v4, gI g 41 (kE K)), (v5, gI g 41 (kX K)), (v6, gI g 41 (kT K)), (o9, gJ g 1 o)]) (hl : lv_has ls 7 [(4, .int (iI i)), (3, .ref o9), (2, .ref mo), (1, .ref ob), (0, .ref b0)]) (hR : cells + 7 ≤ 600000 ∧ slots + 200 ≤ 7290000) (kk : ∀ (H1 : Heap) (locs1 : List Loc) (ls1 : Array Slot), LInv g (fun q => s.heap.size ≤ q) s.heap H1 locs1 ob tx tc ps b k1 k2 k3 k4 k5 k6 s1 i1 s2 i2 ho ha rk t0 q0 t1 q1 t2 q2 t3 q3 t4 q4 t5 q5 mo az ap ak ax a1 a2 a3 a4 a5 a6 v1 v2 v3 v4 v5 v6 o9 → lv_has ls1 7 [(4, .int (iI i)), (3, .ref o9), (2, .ref mo), (1, .ref ob), (0, .ref b0)] → W p l e room_1 s m #[.ref b0] below meth c H1 locs1 (cells + 7) (slots + 200) Q (F0 m 1562 ls1 [])) : W p l e room_1 s m #[.ref b0] below meth c H locs cells slots Q (F0 m 1034 ls []) := by
  obtain ⟨hGI, hFam, hRI, hB, ht, htf, hHR, hSN, hZ, hz⟩ := id hI
  have S0 := hC.1
  have hK := hC.2.2.2.2.2.1
  have hE := hC.2.2.2.2.2.2.1
  have hl0 := hC.2.2.2.2.1
  have hL8 := hC.2.2.2.2.2.2.2
  have hA : ∀ q : Nat, s.heap.size ≤ q → (fun q : Nat => s.heap.size ≤ q) q := fun _ h => h
  have hbA : ¬ (fun q : Nat => s.heap.size ≤ q) b0 := Nat.not_le.mpr hC.2.2.2.1
  have hG := hGI.1
  have hpr := GF_p hG
  have hn4 := hHR.1
  have hrw := iI_rng (xs (i + 1).toNat)
  rw [hxw] at hrw
  have hru := iI_rng (xs (i + 2).toNat)
  rw [hxu] at hru
  have hrx := iI_rng (xs (i + 3).toNat)
  rw [hxx] at hrx
  refine lv_aload_n S0.1 S0.2.1 dL_law_1034 rfl (lv_at hl 3 rfl) ?_
  refine lv_aload_n S0.1 S0.2.1 dL_law_1035 rfl (lv_at hl 4 rfl) ?_
  refine lv_iload S0.1 S0.2.1 dL_law_1036 (lv_at hl 0 rfl) ?_
  refine q_iconst S0 dL_law_1038 ?_
  refine q_iadd S0 dL_law_1039 ?_
  refine q_sld S0 hC.2.2.1 hC.2.2.2.1 hbA hW.1.2.2 (by omega) dL_law_1040 ?_
  refine q_topI (b := w) (hxw) ?_
  refine lv_aload_n S0.1 S0.2.1 dL_law_1041 rfl (lv_at hl 4 rfl) ?_
  refine lv_iload S0.1 S0.2.1 dL_law_1042 (lv_at hl 0 rfl) ?_
  refine q_iconst S0 dL_law_1044 ?_
  refine q_iadd S0 dL_law_1045 ?_
  refine q_sld S0 hC.2.2.1 hC.2.2.2.1 hbA hW.1.2.2 (by omega) dL_law_1046 ?_
  refine q_topI (b := u) (hxu) ?_
  refine lv_aload_n S0.1 S0.2.1 dL_law_1047 rfl (lv_at hl 4 rfl) ?_
  refine lv_iload S0.1 S0.2.1 dL_law_1048 (lv_at hl 0 rfl) ?_
  refine q_iconst S0 dL_law_1050 ?_
  refine q_iadd S0 dL_law_1051 ?_
  refine q_sld S0 hC.2.2.1 hC.2.2.2.1 hbA hW.1.2.2 (by omega) dL_law_1052 ?_
  refine q_topI (b := x) (hxx) ?_
  refine lv_aload_n S0.1 S0.2.1 dL_law_1053 rfl (lv_at hl 1 rfl) ?_
  refine q_lS (n := 5) (rest := []) (wr := [(tx, .inr (9, [.ref tc, .int (iI tn)])), (tc, gC g 40 tf), (ps, .inr (4, [.ref b, .int (iI (pA S)), .int (iI (pO S)), .int (iI (pM S))])), (b, .inr (0, [.ref k1, .ref k2, .ref k3, .ref k4, .ref k5, .ref k6, .int (iI (bN (pB S))), .int (iI (bZ (pB S))), .ref s1, .ref s2])), (k1, gI g 40 (bK (pB S))), (k2, gI g 40 (bU (pB S))), (k3, gI g 40 (bL (pB S))), (k4, gI g 40 (bV (pB S))), (k5, gI g 40 (bD (pB S))), (k6, gI g 40 (bE (pB S))), (s1, .inr (3, [.ref i1, .int (iI (lP (pB S)))])), (i1, gI g 40 (lQ (pB S))), (s2, .inr (3, [.ref i2, .int (iI (wP (pB S)))])), (i2, gI g 40 (wQ (pB S))), (ho, .inr (2, [.ref ha, .int (iI n)])), (ha, gR g 4 f), (mo, .inr (11, [.ref az, .ref ap, .int (iI n), .ref ak, .int (iI ik), .ref ax, .int (iI tn), .int (iI th), .ref a1, .ref a2, .int (iI (nN N)), .ref a3, .int (iI (nP N)), .ref a4, .ref a5, .ref a6, .ref v1, .ref v2, .ref v3, .ref v4, .ref v5, .ref v6, .int (iI bn), .int (iI (nWh N)), .int (iI (nD N)), .int (iI (nG N))])), (az, gI g 325 Z), (ap, gI g 1300 P), (ak, gI g 325 Kp), (ax, gC g 40 tf), (a1, gI g 41 (nK N)), (a2, gI g 41 (nU N)), (a3, gI g 90 (nQ N)), (a4, gI g 796 (kV K)), (a5, gI g 796 (kH K)), (a6, gI g 796 (kR K)), (v1, gI g 41 (kW K)), (v2, gI g 41 (kS K)), (v3, gI g 41 (kL K)), (v4, gI g 41 (kE K)), (v5, gI g 41 (kX K)), (v6, gI g 41 (kT K))]) S0 hK hE hA hW (c_L_chainByFeeding_0 l hl0 g ob tx ps ho so F rk t0 q0 t1 q1 t2 q2 t3 q3 t4 q4 t5 q5 r w u x o9 o Fam (hG) (hRI) (hw) (hu) (hx) (hFam)) gL_law_L_chainByFeeding rfl rfl rfl (by decide +kernel) ⟨Nat.le_of_ble_eq_true rfl, Nat.le_of_ble_eq_true rfl⟩ [0, 17, 18, 19, 20, 21, 22, 23, 24, 25, 26, 27, 28, 29, 47] [1, 2, 3, 4, 5, 6, 7, 8, 9, 10, 11, 12, 13, 14, 15, 16, 30, 31, 32, 33, 34, 35, 36, 37, 38, 39, 40, 41, 42, 43, 44, 45, 46] rfl rfl rfl rfl (by decide) rfl rfl hl.1 (Nat.le_of_ble_eq_true rfl) ⟨by show _ ≤ (601024 : Nat); omega, by show _ ≤ (7293034 : Nat); omega⟩ dL_law_1054 ?_
  rintro r2 H locs hp hW
  try dsimp only at hp
  have hW : gLw g Fam (fun q => s.heap.size ≤ q) s.heap H _ [(tx, .inr (9, [.ref tc, .int (iI tn)])), (tc, gC g 40 tf), (ps, .inr (4, [.ref b, .int (iI (pA S)), .int (iI (pO S)), .int (iI (pM S))])), (b, .inr (0, [.ref k1, .ref k2, .ref k3, .ref k4, .ref k5, .ref k6, .int (iI (bN (pB S))), .int (iI (bZ (pB S))), .ref s1, .ref s2])), (k1, gI g 40 (bK (pB S))), (k2, gI g 40 (bU (pB S))), (k3, gI g 40 (bL (pB S))), (k4, gI g 40 (bV (pB S))), (k5, gI g 40 (bD (pB S))), (k6, gI g 40 (bE (pB S))), (s1, .inr (3, [.ref i1, .int (iI (lP (pB S)))])), (i1, gI g 40 (lQ (pB S))), (s2, .inr (3, [.ref i2, .int (iI (wP (pB S)))])), (i2, gI g 40 (wQ (pB S))), (ho, .inr (2, [.ref ha, .int (iI n)])), (ha, gR g 4 f), (mo, .inr (11, [.ref az, .ref ap, .int (iI n), .ref ak, .int (iI ik), .ref ax, .int (iI tn), .int (iI th), .ref a1, .ref a2, .int (iI (nN N)), .ref a3, .int (iI (nP N)), .ref a4, .ref a5, .ref a6, .ref v1, .ref v2, .ref v3, .ref v4, .ref v5, .ref v6, .int (iI bn), .int (iI (nWh N)), .int (iI (nD N)), .int (iI (nG N))])), (az, gI g 325 Z), (ap, gI g 1300 P), (ak, gI g 325 Kp), (ax, gC g 40 tf), (a1, gI g 41 (nK N)), (a2, gI g 41 (nU N)), (a3, gI g 90 (nQ N)), (a4, gI g 796 (kV K)), (a5, gI g 796 (kH K)), (a6, gI g 796 (kR K)), (v1, gI g 41 (kW K)), (v2, gI g 41 (kS K)), (v3, gI g 41 (kL K)), (v4, gI g 41 (kE K)), (v5, gI g 41 (kX K)), (v6, gI g 41 (kT K)), (ob, .inr (10, [.ref tx, .ref ps, .ref ho, .ref rk, va_rf so])), (rk, .inr (5, [.ref t0, .ref t1, .ref t2, .ref t3, .ref t4, .ref t5, .ref (fS F)])), (t0, .inr (8, [.int (iI 199), .ref q0])), (q0, gI g 796 (rV r2)), (t1, .inr (8, [.int (iI 199), .ref q1])), (q1, gI g 796 (rH r2)), (t2, .inr (8, [.int (iI 199), .ref q2])), (q2, gI g 796 (rR r2)), (t3, .inr (8, [.int (iI 40), .ref q3])), (q3, gI g 160 (nV r2)), (t4, .inr (8, [.int (iI 40), .ref q4])), (q4, gI g 160 (nS r2)), (t5, .inr (8, [.int (iI 40), .ref q5])), (q5, gI g 160 (nW r2)), (o9, gJ g 1 (up o 0 ((iI (cbf F w u x)).toInt)))] := hW
  refine W.eq (g2 := F0 m 1057 ls [.int (iI 0)]) rfl ?_
  have hr2 := hp
  refine lv_istore (lv' := [(5, .int (iI 0)), (4, .int (iI i)), (3, .ref o9), (2, .ref mo), (1, .ref ob), (0, .ref b0)]) S0.1 S0.2.1 dL_law_1057 hl (by decide) rfl (fun ls hl => ?_)
  refine lv_aload_n S0.1 S0.2.1 dL_law_1059 rfl (lv_at hl 3 rfl) ?_
  refine lv_aload_n S0.1 S0.2.1 dL_law_1060 rfl (lv_at hl 5 rfl) ?_
  refine lv_iload S0.1 S0.2.1 dL_law_1061 (lv_at hl 1 rfl) ?_
  refine q_iconst S0 dL_law_1063 ?_
  refine q_iadd S0 dL_law_1064 ?_
  refine q_sld S0 hC.2.2.1 hC.2.2.2.1 hbA hW.1.2.2 (by omega) dL_law_1065 ?_
  refine q_topI (b := w) (hxw) ?_
  refine lv_aload_n S0.1 S0.2.1 dL_law_1066 rfl (lv_at hl 5 rfl) ?_
  refine lv_iload S0.1 S0.2.1 dL_law_1067 (lv_at hl 1 rfl) ?_
  refine q_iconst S0 dL_law_1069 ?_
  refine q_iadd S0 dL_law_1070 ?_
  refine q_sld S0 hC.2.2.1 hC.2.2.2.1 hbA hW.1.2.2 (by omega) dL_law_1071 ?_
  refine q_topI (b := u) (hxu) ?_
  refine lv_aload_n S0.1 S0.2.1 dL_law_1072 rfl (lv_at hl 5 rfl) ?_
  refine lv_iload S0.1 S0.2.1 dL_law_1073 (lv_at hl 1 rfl) ?_
  refine q_iconst S0 dL_law_1075 ?_
  refine q_iadd S0 dL_law_1076 ?_
  refine q_sld S0 hC.2.2.1 hC.2.2.2.1 hbA hW.1.2.2 (by omega) dL_law_1077 ?_
  refine q_topI (b := x) (hxx) ?_
  refine q_lV (n := 3) (rest := []) (wr := [(tx, .inr (9, [.ref tc, .int (iI tn)])), (tc, gC g 40 tf), (ps, .inr (4, [.ref b, .int (iI (pA S)), .int (iI (pO S)), .int (iI (pM S))])), (b, .inr (0, [.ref k1, .ref k2, .ref k3, .ref k4, .ref k5, .ref k6, .int (iI (bN (pB S))), .int (iI (bZ (pB S))), .ref s1, .ref s2])), (k1, gI g 40 (bK (pB S))), (k2, gI g 40 (bU (pB S))), (k3, gI g 40 (bL (pB S))), (k4, gI g 40 (bV (pB S))), (k5, gI g 40 (bD (pB S))), (k6, gI g 40 (bE (pB S))), (s1, .inr (3, [.ref i1, .int (iI (lP (pB S)))])), (i1, gI g 40 (lQ (pB S))), (s2, .inr (3, [.ref i2, .int (iI (wP (pB S)))])), (i2, gI g 40 (wQ (pB S))), (ho, .inr (2, [.ref ha, .int (iI n)])), (ha, gR g 4 f), (ap, gI g 1300 P), (ak, gI g 325 Kp), (ax, gC g 40 tf), (a1, gI g 41 (nK N)), (a2, gI g 41 (nU N)), (a3, gI g 90 (nQ N)), (ob, .inr (10, [.ref tx, .ref ps, .ref ho, .ref rk, va_rf so])), (rk, .inr (5, [.ref t0, .ref t1, .ref t2, .ref t3, .ref t4, .ref t5, .ref (fS F)])), (t0, .inr (8, [.int (iI 199), .ref q0])), (q0, gI g 796 (rV r2)), (t1, .inr (8, [.int (iI 199), .ref q1])), (q1, gI g 796 (rH r2)), (t2, .inr (8, [.int (iI 199), .ref q2])), (q2, gI g 796 (rR r2)), (t3, .inr (8, [.int (iI 40), .ref q3])), (q3, gI g 160 (nV r2)), (t4, .inr (8, [.int (iI 40), .ref q4])), (q4, gI g 160 (nS r2)), (t5, .inr (8, [.int (iI 40), .ref q5])), (q5, gI g 160 (nW r2)), (o9, gJ g 1 (up o 0 ((iI (cbf F w u x)).toInt)))]) S0 hK hA hW (c_X11_chainByFeeding0 l g mo az ap ak ax a1 a2 a3 a4 a5 a6 v1 v2 v3 v4 v5 v6 n ik tn th (nN N) (nP N) bn (nWh N) (nD N) (nG N) Z F K w u x (hG) (hz) (hGI.2.1) (hw) (hu) (hx)) gL_law_X11_chainByFeeding rfl rfl rfl (by decide +kernel) ⟨Nat.le_of_ble_eq_true rfl, Nat.le_of_ble_eq_true rfl⟩ [16, 17, 24, 25, 26, 27, 28, 29, 30, 31, 32] [0, 1, 2, 3, 4, 5, 6, 7, 8, 9, 10, 11, 12, 13, 14, 15, 18, 19, 20, 21, 22, 23, 33, 34, 35, 36, 37, 38, 39, 40, 41, 42, 43, 44, 45, 46, 47] rfl rfl rfl rfl (by decide) (q_recv hK hW.1.1 (ci := 11) (q0 := 16) rfl rfl) (fun _ _ => trivial) (trivial) rfl rfl hl.1 (Nat.le_of_ble_eq_true rfl) ⟨by show _ ≤ (601024 : Nat); omega, by show _ ≤ (7293034 : Nat); omega⟩ dL_law_1078 ?_
  rintro ⟨Ko, bo⟩ H locs hp hW
  try dsimp only at hp
  have hW : gLw g Fam (fun q => s.heap.size ≤ q) s.heap H _ [(tx, .inr (9, [.ref tc, .int (iI tn)])), (tc, gC g 40 tf), (ps, .inr (4, [.ref b, .int (iI (pA S)), .int (iI (pO S)), .int (iI (pM S))])), (b, .inr (0, [.ref k1, .ref k2, .ref k3, .ref k4, .ref k5, .ref k6, .int (iI (bN (pB S))), .int (iI (bZ (pB S))), .ref s1, .ref s2])), (k1, gI g 40 (bK (pB S))), (k2, gI g 40 (bU (pB S))), (k3, gI g 40 (bL (pB S))), (k4, gI g 40 (bV (pB S))), (k5, gI g 40 (bD (pB S))), (k6, gI g 40 (bE (pB S))), (s1, .inr (3, [.ref i1, .int (iI (lP (pB S)))])), (i1, gI g 40 (lQ (pB S))), (s2, .inr (3, [.ref i2, .int (iI (wP (pB S)))])), (i2, gI g 40 (wQ (pB S))), (ho, .inr (2, [.ref ha, .int (iI n)])), (ha, gR g 4 f), (ap, gI g 1300 P), (ak, gI g 325 Kp), (ax, gC g 40 tf), (a1, gI g 41 (nK N)), (a2, gI g 41 (nU N)), (a3, gI g 90 (nQ N)), (ob, .inr (10, [.ref tx, .ref ps, .ref ho, .ref rk, va_rf so])), (rk, .inr (5, [.ref t0, .ref t1, .ref t2, .ref t3, .ref t4, .ref t5, .ref (fS F)])), (t0, .inr (8, [.int (iI 199), .ref q0])), (q0, gI g 796 (rV r2)), (t1, .inr (8, [.int (iI 199), .ref q1])), (q1, gI g 796 (rH r2)), (t2, .inr (8, [.int (iI 199), .ref q2])), (q2, gI g 796 (rR r2)), (t3, .inr (8, [.int (iI 40), .ref q3])), (q3, gI g 160 (nV r2)), (t4, .inr (8, [.int (iI 40), .ref q4])), (q4, gI g 160 (nS r2)), (t5, .inr (8, [.int (iI 40), .ref q5])), (q5, gI g 160 (nW r2)), (o9, gJ g 1 (up o 0 ((iI (cbf F w u x)).toInt))), (mo, .inr (11, [.ref az, .ref ap, .int (iI n), .ref ak, .int (iI ik), .ref ax, .int (iI tn), .int (iI 0), .ref a1, .ref a2, .int (iI (nN N)), .ref a3, .int (iI (nP N)), .ref a4, .ref a5, .ref a6, .ref v1, .ref v2, .ref v3, .ref v4, .ref v5, .ref v6, .int (iI bo), .int (iI (nWh N)), .int (iI (nD N)), .int (iI (nG N))])), (az, gI g 325 Z), (a4, gI g 796 (kV Ko)), (a5, gI g 796 (kH Ko)), (a6, gI g 796 (kR Ko)), (v1, gI g 41 (kW Ko)), (v2, gI g 41 (kS Ko)), (v3, gI g 41 (kL Ko)), (v4, gI g 41 (kE Ko)), (v5, gI g 41 (kX Ko)), (v6, gI g 41 (kT Ko))] := hW
  refine W.eq (g2 := F0 m 1081 ls [.int (iI (cbf F w u x))]) rfl ?_
  refine lv_istore (lv' := [(6, .int (iI (cbf F w u x))), (5, .int (iI 0)), (4, .int (iI i)), (3, .ref o9), (2, .ref mo), (1, .ref ob), (0, .ref b0)]) S0.1 S0.2.1 dL_law_1081 hl (by decide) rfl (fun ls hl => ?_)
  refine lv_aload_n S0.1 S0.2.1 dL_law_1083 rfl (lv_at hl 4 rfl) ?_
  refine q_pV (n := 0) (rest := []) S0 hK (c_X11_thrown l g mo az ap ak ax a1 a2 a3 a4 a5 a6 v1 v2 v3 v4 v5 v6 n ik tn 0 (nN N) (nP N) bo (nWh N) (nD N) (nG N)) (subP hW.1.1 [37] rfl) (trivial) gL_law_X11_thrown rfl rfl rfl (by decide +kernel) ⟨Nat.le_of_ble_eq_true rfl, Nat.le_of_ble_eq_true rfl⟩ (q_recv hK hW.1.1 (ci := 11) (q0 := 37) rfl rfl) rfl rfl hl.1 (Nat.le_of_ble_eq_true rfl) ⟨by show _ ≤ (601024 : Nat); omega, by show _ ≤ (7293034 : Nat); omega⟩ dL_law_1084 ?_
  refine W.eq (g2 := F0 m 1087 ls [.int (iI 0)]) rfl ?_
  refine lv_iload S0.1 S0.2.1 dL_law_1087 (lv_at hl 1 rfl) ?_
  refine q_icmp_eq (tgt := 1094) S0 (by omega) dL_law_1089 (by decide) (fun c1089 => ?_) (fun c1089 => ?_)
  · skip
    refine lv_iload S0.1 S0.2.1 dL_law_1094 (lv_at hl 1 rfl) ?_
    refine q_if_ne (tgt := 1111) S0 (by omega) dL_law_1096 (by decide) (fun c1096 => ?_) (fun c1096 => ?_)
    · skip
      exact absurd c1096 (by omega)
    · skip
      refine lv_aload_n S0.1 S0.2.1 dL_law_1099 rfl (lv_at hl 3 rfl) ?_
      refine q_iconst S0 dL_law_1100 ?_
      refine q_lald S0 hK hW.1.1 36 rfl (by omega) dL_law_1101 ?_
      refine q_top (w := .long (lI ((iI (cbf F w u x)).toInt))) (congrArg (fun z => Value.long (lI z)) up_s) ?_
      refine lv_iload S0.1 S0.2.1 dL_law_1102 (lv_at hl 0 rfl) ?_
      refine lv_i2l S0.1 S0.2.1 dL_law_1104 (i2l_v (iI (cbf F w u x))) ?_
      refine W.lcmp S0.1 S0.2.1 dL_law_1105 ?_
      refine q_top (w := .int (iI 0)) (by rw [show ((iI (cbf F w u x)).toInt) = ((iI (cbf F w u x)).toInt) from rfl]; exact congrArg Value.int (lcmp_self _)) ?_
      refine q_if_eq (tgt := 1111) S0 (by omega) dL_law_1106 (by decide) (fun c1106 => ?_) (fun c1106 => ?_)
      · skip
        refine lv_goto (tgt := 1562) S0.1 S0.2.1 dL_law_1111 (by decide) ?_
        refine W.widen (k := cells + 7) (n := slots + 200) (by omega) (by omega) ?_
        exact kk _ _ ls ⟨Fam, F, r2, S, tn, tf, n, f, Fh, so, ik, 0, bo, N, Z, P, Kp, Ko, up o 0 ((iI (cbf F w u x)).toInt), hW.sub [22, 0, 1, 2, 3, 4, 5, 6, 7, 8, 9, 10, 11, 12, 13, 14, 15, 23, 24, 25, 26, 27, 28, 29, 30, 31, 32, 33, 34, 35, 37, 38, 16, 17, 18, 19, 20, 21, 39, 40, 41, 42, 43, 44, 45, 46, 47, 36] rfl rfl, INV_r hI hr2⟩ (lv_sub hl [2, 3, 4, 5, 6] rfl)
      · skip
        exact absurd c1106 (by omega)
  · skip
    exact absurd (rfl) c1089
set_option maxHeartbeats 4000000 in
set_option maxRecDepth 100000 in
theorem lk_chainByFeeding_1 {p : Program} {l : Launch} {e : Env} {s : State} {m : MethodId} {below : List Frame} {meth : Method} {c : Code} {H : Heap} {locs : List Loc} {cells slots : Nat} {Q : State → Prop} {ls : Array Slot} {g : GG} {b0 L : Nat} {xs : Nat → Int32} (hC : LC p l s m b0 L xs meth c g) {i : Int} (hi : 0 ≤ i ∧ i + 4 ≤ L) (ob tx tc ps b k1 k2 k3 k4 k5 k6 s1 i1 s2 i2 ho ha rk t0 q0 t1 q1 t2 q2 t3 q3 t4 q4 t5 q5 mo az ap ak ax a1 a2 a3 a4 a5 a6 v1 v2 v3 v4 v5 v6 o9 : Nat) (Fam : FT → Prop) (F : FT) (r : RT) (S : PT) (tn : Int) (tf : Nat → Int) (n : Int) (f : Nat → Option Nat) (Fh : Nat → FT) (so : Option Nat) (ik : Int) (th : Int) (bn : Int) (N : NT) (Z : Nat → Int) (P : Nat → Int) (Kp : Nat → Int) (K : KT) (o : Nat → Int) (w : Int) (u : Int) (x : Int) (hI : INV Fam F r S tn tf n f Fh so ik N Z P Kp) (hxw : (xs (i + 1).toNat).toInt = w) (hxu : (xs (i + 2).toNat).toInt = u) (hxx : (xs (i + 3).toNat).toInt = x) (hw : w < 0 ∨ 3 < w) (hW : gLw g Fam (fun q => s.heap.size ≤ q) s.heap H locs [(ob, .inr (10, [.ref tx, .ref ps, .ref ho, .ref rk, va_rf so])), (tx, .inr (9, [.ref tc, .int (iI tn)])), (tc, gC g 40 tf), (ps, .inr (4, [.ref b, .int (iI (pA S)), .int (iI (pO S)), .int (iI (pM S))])), (b, .inr (0, [.ref k1, .ref k2, .ref k3, .ref k4, .ref k5, .ref k6, .int (iI (bN (pB S))), .int (iI (bZ (pB S))), .ref s1, .ref s2])), (k1, gI g 40 (bK (pB S))), (k2, gI g 40 (bU (pB S))), (k3, gI g 40 (bL (pB S))), (k4, gI g 40 (bV (pB S))), (k5, gI g 40 (bD (pB S))), (k6, gI g 40 (bE (pB S))), (s1, .inr (3, [.ref i1, .int (iI (lP (pB S)))])), (i1, gI g 40 (lQ (pB S))), (s2, .inr (3, [.ref i2, .int (iI (wP (pB S)))])), (i2, gI g 40 (wQ (pB S))), (ho, .inr (2, [.ref ha, .int (iI n)])), (ha, gR g 4 f), (rk, .inr (5, [.ref t0, .ref t1, .ref t2, .ref t3, .ref t4, .ref t5, .ref (fS F)])), (t0, .inr (8, [.int (iI 199), .ref q0])), (q0, gI g 796 (rV r)), (t1, .inr (8, [.int (iI 199), .ref q1])), (q1, gI g 796 (rH r)), (t2, .inr (8, [.int (iI 199), .ref q2])), (q2, gI g 796 (rR r)), (t3, .inr (8, [.int (iI 40), .ref q3])), (q3, gI g 160 (nV r)), (t4, .inr (8, [.int (iI 40), .ref q4])), (q4, gI g 160 (nS r)), (t5, .inr (8, [.int (iI 40), .ref q5])), (q5, gI g 160 (nW r)), (mo, .inr (11, [.ref az, .ref ap, .int (iI n), .ref ak, .int (iI ik), .ref ax, .int (iI tn), .int (iI th), .ref a1, .ref a2, .int (iI (nN N)), .ref a3, .int (iI (nP N)), .ref a4, .ref a5, .ref a6, .ref v1, .ref v2, .ref v3, .ref v4, .ref v5, .ref v6, .int (iI bn), .int (iI (nWh N)), .int (iI (nD N)), .int (iI (nG N))])), (az, gI g 325 Z), (ap, gI g 1300 P), (ak, gI g 325 Kp), (ax, gC g 40 tf), (a1, gI g 41 (nK N)), (a2, gI g 41 (nU N)), (a3, gI g 90 (nQ N)), (a4, gI g 796 (kV K)), (a5, gI g 796 (kH K)), (a6, gI g 796 (kR K)), (v1, gI g 41 (kW K)), (v2, gI g 41 (kS K)), (v3, gI g 41 (kL K)), (v4, gI g 41 (kE K)), (v5, gI g 41 (kX K)), (v6, gI g 41 (kT K)), (o9, gJ g 1 o)]) (hl : lv_has ls 7 [(4, .int (iI i)), (3, .ref o9), (2, .ref mo), (1, .ref ob), (0, .ref b0)]) (hR : cells + 7 ≤ 600000 ∧ slots + 200 ≤ 7290000) (kk : ∀ (H1 : Heap) (locs1 : List Loc) (ls1 : Array Slot), LInv g (fun q => s.heap.size ≤ q) s.heap H1 locs1 ob tx tc ps b k1 k2 k3 k4 k5 k6 s1 i1 s2 i2 ho ha rk t0 q0 t1 q1 t2 q2 t3 q3 t4 q4 t5 q5 mo az ap ak ax a1 a2 a3 a4 a5 a6 v1 v2 v3 v4 v5 v6 o9 → lv_has ls1 7 [(4, .int (iI i)), (3, .ref o9), (2, .ref mo), (1, .ref ob), (0, .ref b0)] → W p l e room_1 s m #[.ref b0] below meth c H1 locs1 (cells + 7) (slots + 200) Q (F0 m 1562 ls1 [])) : W p l e room_1 s m #[.ref b0] below meth c H locs cells slots Q (F0 m 1034 ls []) := by
  obtain ⟨hGI, hFam, hRI, hB, ht, htf, hHR, hSN, hZ, hz⟩ := id hI
  have S0 := hC.1
  have hK := hC.2.2.2.2.2.1
  have hE := hC.2.2.2.2.2.2.1
  have hl0 := hC.2.2.2.2.1
  have hL8 := hC.2.2.2.2.2.2.2
  have hA : ∀ q : Nat, s.heap.size ≤ q → (fun q : Nat => s.heap.size ≤ q) q := fun _ h => h
  have hbA : ¬ (fun q : Nat => s.heap.size ≤ q) b0 := Nat.not_le.mpr hC.2.2.2.1
  have hG := hGI.1
  have hpr := GF_p hG
  have hn4 := hHR.1
  have hrw := iI_rng (xs (i + 1).toNat)
  rw [hxw] at hrw
  have hru := iI_rng (xs (i + 2).toNat)
  rw [hxu] at hru
  have hrx := iI_rng (xs (i + 3).toNat)
  rw [hxx] at hrx
  refine lv_aload_n S0.1 S0.2.1 dL_law_1034 rfl (lv_at hl 3 rfl) ?_
  refine lv_aload_n S0.1 S0.2.1 dL_law_1035 rfl (lv_at hl 4 rfl) ?_
  refine lv_iload S0.1 S0.2.1 dL_law_1036 (lv_at hl 0 rfl) ?_
  refine q_iconst S0 dL_law_1038 ?_
  refine q_iadd S0 dL_law_1039 ?_
  refine q_sld S0 hC.2.2.1 hC.2.2.2.1 hbA hW.1.2.2 (by omega) dL_law_1040 ?_
  refine q_topI (b := w) (hxw) ?_
  refine lv_aload_n S0.1 S0.2.1 dL_law_1041 rfl (lv_at hl 4 rfl) ?_
  refine lv_iload S0.1 S0.2.1 dL_law_1042 (lv_at hl 0 rfl) ?_
  refine q_iconst S0 dL_law_1044 ?_
  refine q_iadd S0 dL_law_1045 ?_
  refine q_sld S0 hC.2.2.1 hC.2.2.2.1 hbA hW.1.2.2 (by omega) dL_law_1046 ?_
  refine q_topI (b := u) (hxu) ?_
  refine lv_aload_n S0.1 S0.2.1 dL_law_1047 rfl (lv_at hl 4 rfl) ?_
  refine lv_iload S0.1 S0.2.1 dL_law_1048 (lv_at hl 0 rfl) ?_
  refine q_iconst S0 dL_law_1050 ?_
  refine q_iadd S0 dL_law_1051 ?_
  refine q_sld S0 hC.2.2.1 hC.2.2.2.1 hbA hW.1.2.2 (by omega) dL_law_1052 ?_
  refine q_topI (b := x) (hxx) ?_
  refine lv_aload_n S0.1 S0.2.1 dL_law_1053 rfl (lv_at hl 1 rfl) ?_
  refine q_lS (n := 5) (rest := []) (wr := [(tx, .inr (9, [.ref tc, .int (iI tn)])), (tc, gC g 40 tf), (ps, .inr (4, [.ref b, .int (iI (pA S)), .int (iI (pO S)), .int (iI (pM S))])), (b, .inr (0, [.ref k1, .ref k2, .ref k3, .ref k4, .ref k5, .ref k6, .int (iI (bN (pB S))), .int (iI (bZ (pB S))), .ref s1, .ref s2])), (k1, gI g 40 (bK (pB S))), (k2, gI g 40 (bU (pB S))), (k3, gI g 40 (bL (pB S))), (k4, gI g 40 (bV (pB S))), (k5, gI g 40 (bD (pB S))), (k6, gI g 40 (bE (pB S))), (s1, .inr (3, [.ref i1, .int (iI (lP (pB S)))])), (i1, gI g 40 (lQ (pB S))), (s2, .inr (3, [.ref i2, .int (iI (wP (pB S)))])), (i2, gI g 40 (wQ (pB S))), (ho, .inr (2, [.ref ha, .int (iI n)])), (ha, gR g 4 f), (rk, .inr (5, [.ref t0, .ref t1, .ref t2, .ref t3, .ref t4, .ref t5, .ref (fS F)])), (t0, .inr (8, [.int (iI 199), .ref q0])), (q0, gI g 796 (rV r)), (t1, .inr (8, [.int (iI 199), .ref q1])), (q1, gI g 796 (rH r)), (t2, .inr (8, [.int (iI 199), .ref q2])), (q2, gI g 796 (rR r)), (t3, .inr (8, [.int (iI 40), .ref q3])), (q3, gI g 160 (nV r)), (t4, .inr (8, [.int (iI 40), .ref q4])), (q4, gI g 160 (nS r)), (t5, .inr (8, [.int (iI 40), .ref q5])), (q5, gI g 160 (nW r)), (mo, .inr (11, [.ref az, .ref ap, .int (iI n), .ref ak, .int (iI ik), .ref ax, .int (iI tn), .int (iI th), .ref a1, .ref a2, .int (iI (nN N)), .ref a3, .int (iI (nP N)), .ref a4, .ref a5, .ref a6, .ref v1, .ref v2, .ref v3, .ref v4, .ref v5, .ref v6, .int (iI bn), .int (iI (nWh N)), .int (iI (nD N)), .int (iI (nG N))])), (az, gI g 325 Z), (ap, gI g 1300 P), (ak, gI g 325 Kp), (ax, gC g 40 tf), (a1, gI g 41 (nK N)), (a2, gI g 41 (nU N)), (a3, gI g 90 (nQ N)), (a4, gI g 796 (kV K)), (a5, gI g 796 (kH K)), (a6, gI g 796 (kR K)), (v1, gI g 41 (kW K)), (v2, gI g 41 (kS K)), (v3, gI g 41 (kL K)), (v4, gI g 41 (kE K)), (v5, gI g 41 (kX K)), (v6, gI g 41 (kT K))]) S0 hK hE hA hW (c_L_chainByFeeding_1 l hl0 g ob tx ps ho rk so w u x o9 o Fam (by omega) (by omega) (by omega)) gL_law_L_chainByFeeding rfl rfl rfl (by decide +kernel) ⟨Nat.le_of_ble_eq_true rfl, Nat.le_of_ble_eq_true rfl⟩ [0, 47] [1, 2, 3, 4, 5, 6, 7, 8, 9, 10, 11, 12, 13, 14, 15, 16, 17, 18, 19, 20, 21, 22, 23, 24, 25, 26, 27, 28, 29, 30, 31, 32, 33, 34, 35, 36, 37, 38, 39, 40, 41, 42, 43, 44, 45, 46] rfl rfl rfl rfl (by decide) rfl rfl hl.1 (Nat.le_of_ble_eq_true rfl) ⟨by show _ ≤ (601024 : Nat); omega, by show _ ≤ (7293034 : Nat); omega⟩ dL_law_1054 ?_
  rintro _ H locs _ hW
  have hW : gLw g Fam (fun q => s.heap.size ≤ q) s.heap H _ [(tx, .inr (9, [.ref tc, .int (iI tn)])), (tc, gC g 40 tf), (ps, .inr (4, [.ref b, .int (iI (pA S)), .int (iI (pO S)), .int (iI (pM S))])), (b, .inr (0, [.ref k1, .ref k2, .ref k3, .ref k4, .ref k5, .ref k6, .int (iI (bN (pB S))), .int (iI (bZ (pB S))), .ref s1, .ref s2])), (k1, gI g 40 (bK (pB S))), (k2, gI g 40 (bU (pB S))), (k3, gI g 40 (bL (pB S))), (k4, gI g 40 (bV (pB S))), (k5, gI g 40 (bD (pB S))), (k6, gI g 40 (bE (pB S))), (s1, .inr (3, [.ref i1, .int (iI (lP (pB S)))])), (i1, gI g 40 (lQ (pB S))), (s2, .inr (3, [.ref i2, .int (iI (wP (pB S)))])), (i2, gI g 40 (wQ (pB S))), (ho, .inr (2, [.ref ha, .int (iI n)])), (ha, gR g 4 f), (rk, .inr (5, [.ref t0, .ref t1, .ref t2, .ref t3, .ref t4, .ref t5, .ref (fS F)])), (t0, .inr (8, [.int (iI 199), .ref q0])), (q0, gI g 796 (rV r)), (t1, .inr (8, [.int (iI 199), .ref q1])), (q1, gI g 796 (rH r)), (t2, .inr (8, [.int (iI 199), .ref q2])), (q2, gI g 796 (rR r)), (t3, .inr (8, [.int (iI 40), .ref q3])), (q3, gI g 160 (nV r)), (t4, .inr (8, [.int (iI 40), .ref q4])), (q4, gI g 160 (nS r)), (t5, .inr (8, [.int (iI 40), .ref q5])), (q5, gI g 160 (nW r)), (mo, .inr (11, [.ref az, .ref ap, .int (iI n), .ref ak, .int (iI ik), .ref ax, .int (iI tn), .int (iI th), .ref a1, .ref a2, .int (iI (nN N)), .ref a3, .int (iI (nP N)), .ref a4, .ref a5, .ref a6, .ref v1, .ref v2, .ref v3, .ref v4, .ref v5, .ref v6, .int (iI bn), .int (iI (nWh N)), .int (iI (nD N)), .int (iI (nG N))])), (az, gI g 325 Z), (ap, gI g 1300 P), (ak, gI g 325 Kp), (ax, gC g 40 tf), (a1, gI g 41 (nK N)), (a2, gI g 41 (nU N)), (a3, gI g 90 (nQ N)), (a4, gI g 796 (kV K)), (a5, gI g 796 (kH K)), (a6, gI g 796 (kR K)), (v1, gI g 41 (kW K)), (v2, gI g 41 (kS K)), (v3, gI g 41 (kL K)), (v4, gI g 41 (kE K)), (v5, gI g 41 (kX K)), (v6, gI g 41 (kT K)), (ob, .inr (10, [.ref tx, .ref ps, .ref ho, .ref rk, va_rf so])), (o9, gJ g 1 o)] := hW
  refine W.eq (g2 := F0 m 1057 ls [.int (iI 1)]) rfl ?_
  refine lv_istore (lv' := [(5, .int (iI 1)), (4, .int (iI i)), (3, .ref o9), (2, .ref mo), (1, .ref ob), (0, .ref b0)]) S0.1 S0.2.1 dL_law_1057 hl (by decide) rfl (fun ls hl => ?_)
  refine lv_aload_n S0.1 S0.2.1 dL_law_1059 rfl (lv_at hl 3 rfl) ?_
  refine lv_aload_n S0.1 S0.2.1 dL_law_1060 rfl (lv_at hl 5 rfl) ?_
  refine lv_iload S0.1 S0.2.1 dL_law_1061 (lv_at hl 1 rfl) ?_
  refine q_iconst S0 dL_law_1063 ?_
  refine q_iadd S0 dL_law_1064 ?_
  refine q_sld S0 hC.2.2.1 hC.2.2.2.1 hbA hW.1.2.2 (by omega) dL_law_1065 ?_
  refine q_topI (b := w) (hxw) ?_
  refine lv_aload_n S0.1 S0.2.1 dL_law_1066 rfl (lv_at hl 5 rfl) ?_
  refine lv_iload S0.1 S0.2.1 dL_law_1067 (lv_at hl 1 rfl) ?_
  refine q_iconst S0 dL_law_1069 ?_
  refine q_iadd S0 dL_law_1070 ?_
  refine q_sld S0 hC.2.2.1 hC.2.2.2.1 hbA hW.1.2.2 (by omega) dL_law_1071 ?_
  refine q_topI (b := u) (hxu) ?_
  refine lv_aload_n S0.1 S0.2.1 dL_law_1072 rfl (lv_at hl 5 rfl) ?_
  refine lv_iload S0.1 S0.2.1 dL_law_1073 (lv_at hl 1 rfl) ?_
  refine q_iconst S0 dL_law_1075 ?_
  refine q_iadd S0 dL_law_1076 ?_
  refine q_sld S0 hC.2.2.1 hC.2.2.2.1 hbA hW.1.2.2 (by omega) dL_law_1077 ?_
  refine q_topI (b := x) (hxx) ?_
  refine q_lV (n := 3) (rest := []) (wr := [(tx, .inr (9, [.ref tc, .int (iI tn)])), (tc, gC g 40 tf), (ps, .inr (4, [.ref b, .int (iI (pA S)), .int (iI (pO S)), .int (iI (pM S))])), (b, .inr (0, [.ref k1, .ref k2, .ref k3, .ref k4, .ref k5, .ref k6, .int (iI (bN (pB S))), .int (iI (bZ (pB S))), .ref s1, .ref s2])), (k1, gI g 40 (bK (pB S))), (k2, gI g 40 (bU (pB S))), (k3, gI g 40 (bL (pB S))), (k4, gI g 40 (bV (pB S))), (k5, gI g 40 (bD (pB S))), (k6, gI g 40 (bE (pB S))), (s1, .inr (3, [.ref i1, .int (iI (lP (pB S)))])), (i1, gI g 40 (lQ (pB S))), (s2, .inr (3, [.ref i2, .int (iI (wP (pB S)))])), (i2, gI g 40 (wQ (pB S))), (ho, .inr (2, [.ref ha, .int (iI n)])), (ha, gR g 4 f), (rk, .inr (5, [.ref t0, .ref t1, .ref t2, .ref t3, .ref t4, .ref t5, .ref (fS F)])), (t0, .inr (8, [.int (iI 199), .ref q0])), (q0, gI g 796 (rV r)), (t1, .inr (8, [.int (iI 199), .ref q1])), (q1, gI g 796 (rH r)), (t2, .inr (8, [.int (iI 199), .ref q2])), (q2, gI g 796 (rR r)), (t3, .inr (8, [.int (iI 40), .ref q3])), (q3, gI g 160 (nV r)), (t4, .inr (8, [.int (iI 40), .ref q4])), (q4, gI g 160 (nS r)), (t5, .inr (8, [.int (iI 40), .ref q5])), (q5, gI g 160 (nW r)), (ap, gI g 1300 P), (ak, gI g 325 Kp), (ax, gC g 40 tf), (a1, gI g 41 (nK N)), (a2, gI g 41 (nU N)), (a3, gI g 90 (nQ N)), (a4, gI g 796 (kV K)), (a5, gI g 796 (kH K)), (a6, gI g 796 (kR K)), (v1, gI g 41 (kW K)), (v2, gI g 41 (kS K)), (v3, gI g 41 (kL K)), (v4, gI g 41 (kE K)), (v5, gI g 41 (kX K)), (v6, gI g 41 (kT K)), (ob, .inr (10, [.ref tx, .ref ps, .ref ho, .ref rk, va_rf so])), (o9, gJ g 1 o)]) S0 hK hA hW (c_X11_chainByFeeding1 l g mo az ap ak ax a1 a2 a3 a4 a5 a6 v1 v2 v3 v4 v5 v6 n ik tn th (nN N) (nP N) bn (nWh N) (nD N) (nG N) Z F w u x (hG) (hz) (by omega) (by omega)) gL_law_X11_chainByFeeding rfl rfl rfl (by decide +kernel) ⟨Nat.le_of_ble_eq_true rfl, Nat.le_of_ble_eq_true rfl⟩ [29, 30] [0, 1, 2, 3, 4, 5, 6, 7, 8, 9, 10, 11, 12, 13, 14, 15, 16, 17, 18, 19, 20, 21, 22, 23, 24, 25, 26, 27, 28, 31, 32, 33, 34, 35, 36, 37, 38, 39, 40, 41, 42, 43, 44, 45, 46, 47] rfl rfl rfl rfl (by decide) (q_recv hK hW.1.1 (ci := 11) (q0 := 29) rfl rfl) (fun _ _ => trivial) (trivial) rfl rfl hl.1 (Nat.le_of_ble_eq_true rfl) ⟨by show _ ≤ (601024 : Nat); omega, by show _ ≤ (7293034 : Nat); omega⟩ dL_law_1078 ?_
  rintro _ H locs _ hW
  have hW : gLw g Fam (fun q => s.heap.size ≤ q) s.heap H _ [(tx, .inr (9, [.ref tc, .int (iI tn)])), (tc, gC g 40 tf), (ps, .inr (4, [.ref b, .int (iI (pA S)), .int (iI (pO S)), .int (iI (pM S))])), (b, .inr (0, [.ref k1, .ref k2, .ref k3, .ref k4, .ref k5, .ref k6, .int (iI (bN (pB S))), .int (iI (bZ (pB S))), .ref s1, .ref s2])), (k1, gI g 40 (bK (pB S))), (k2, gI g 40 (bU (pB S))), (k3, gI g 40 (bL (pB S))), (k4, gI g 40 (bV (pB S))), (k5, gI g 40 (bD (pB S))), (k6, gI g 40 (bE (pB S))), (s1, .inr (3, [.ref i1, .int (iI (lP (pB S)))])), (i1, gI g 40 (lQ (pB S))), (s2, .inr (3, [.ref i2, .int (iI (wP (pB S)))])), (i2, gI g 40 (wQ (pB S))), (ho, .inr (2, [.ref ha, .int (iI n)])), (ha, gR g 4 f), (rk, .inr (5, [.ref t0, .ref t1, .ref t2, .ref t3, .ref t4, .ref t5, .ref (fS F)])), (t0, .inr (8, [.int (iI 199), .ref q0])), (q0, gI g 796 (rV r)), (t1, .inr (8, [.int (iI 199), .ref q1])), (q1, gI g 796 (rH r)), (t2, .inr (8, [.int (iI 199), .ref q2])), (q2, gI g 796 (rR r)), (t3, .inr (8, [.int (iI 40), .ref q3])), (q3, gI g 160 (nV r)), (t4, .inr (8, [.int (iI 40), .ref q4])), (q4, gI g 160 (nS r)), (t5, .inr (8, [.int (iI 40), .ref q5])), (q5, gI g 160 (nW r)), (ap, gI g 1300 P), (ak, gI g 325 Kp), (ax, gC g 40 tf), (a1, gI g 41 (nK N)), (a2, gI g 41 (nU N)), (a3, gI g 90 (nQ N)), (a4, gI g 796 (kV K)), (a5, gI g 796 (kH K)), (a6, gI g 796 (kR K)), (v1, gI g 41 (kW K)), (v2, gI g 41 (kS K)), (v3, gI g 41 (kL K)), (v4, gI g 41 (kE K)), (v5, gI g 41 (kX K)), (v6, gI g 41 (kT K)), (ob, .inr (10, [.ref tx, .ref ps, .ref ho, .ref rk, va_rf so])), (o9, gJ g 1 o), (mo, .inr (11, [.ref az, .ref ap, .int (iI n), .ref ak, .int (iI ik), .ref ax, .int (iI tn), .int (iI 1), .ref a1, .ref a2, .int (iI (nN N)), .ref a3, .int (iI (nP N)), .ref a4, .ref a5, .ref a6, .ref v1, .ref v2, .ref v3, .ref v4, .ref v5, .ref v6, .int (iI bn), .int (iI (nWh N)), .int (iI (nD N)), .int (iI (nG N))])), (az, gI g 325 Z)] := hW
  refine W.eq (g2 := F0 m 1081 ls [.int (iI 0)]) rfl ?_
  refine lv_istore (lv' := [(6, .int (iI 0)), (5, .int (iI 1)), (4, .int (iI i)), (3, .ref o9), (2, .ref mo), (1, .ref ob), (0, .ref b0)]) S0.1 S0.2.1 dL_law_1081 hl (by decide) rfl (fun ls hl => ?_)
  refine lv_aload_n S0.1 S0.2.1 dL_law_1083 rfl (lv_at hl 4 rfl) ?_
  refine q_pV (n := 0) (rest := []) S0 hK (c_X11_thrown l g mo az ap ak ax a1 a2 a3 a4 a5 a6 v1 v2 v3 v4 v5 v6 n ik tn 1 (nN N) (nP N) bn (nWh N) (nD N) (nG N)) (subP hW.1.1 [46] rfl) (trivial) gL_law_X11_thrown rfl rfl rfl (by decide +kernel) ⟨Nat.le_of_ble_eq_true rfl, Nat.le_of_ble_eq_true rfl⟩ (q_recv hK hW.1.1 (ci := 11) (q0 := 46) rfl rfl) rfl rfl hl.1 (Nat.le_of_ble_eq_true rfl) ⟨by show _ ≤ (601024 : Nat); omega, by show _ ≤ (7293034 : Nat); omega⟩ dL_law_1084 ?_
  refine W.eq (g2 := F0 m 1087 ls [.int (iI 1)]) rfl ?_
  refine lv_iload S0.1 S0.2.1 dL_law_1087 (lv_at hl 1 rfl) ?_
  refine q_icmp_eq (tgt := 1094) S0 (by omega) dL_law_1089 (by decide) (fun c1089 => ?_) (fun c1089 => ?_)
  · skip
    refine lv_iload S0.1 S0.2.1 dL_law_1094 (lv_at hl 1 rfl) ?_
    refine q_if_ne (tgt := 1111) S0 (by omega) dL_law_1096 (by decide) (fun c1096 => ?_) (fun c1096 => ?_)
    · skip
      refine lv_goto (tgt := 1562) S0.1 S0.2.1 dL_law_1111 (by decide) ?_
      refine W.widen (k := cells + 7) (n := slots + 200) (by omega) (by omega) ?_
      exact kk _ _ ls ⟨Fam, F, r, S, tn, tf, n, f, Fh, so, ik, 1, bn, N, Z, P, Kp, K, o, hW.sub [44, 0, 1, 2, 3, 4, 5, 6, 7, 8, 9, 10, 11, 12, 13, 14, 15, 16, 17, 18, 19, 20, 21, 22, 23, 24, 25, 26, 27, 28, 46, 47, 29, 30, 31, 32, 33, 34, 35, 36, 37, 38, 39, 40, 41, 42, 43, 45] rfl rfl, hI⟩ (lv_sub hl [2, 3, 4, 5, 6] rfl)
    · skip
      exact absurd c1096 (by omega)
  · skip
    exact absurd (rfl) c1089
set_option maxHeartbeats 4000000 in
set_option maxRecDepth 100000 in
theorem lk_chainByFeeding_3 {p : Program} {l : Launch} {e : Env} {s : State} {m : MethodId} {below : List Frame} {meth : Method} {c : Code} {H : Heap} {locs : List Loc} {cells slots : Nat} {Q : State → Prop} {ls : Array Slot} {g : GG} {b0 L : Nat} {xs : Nat → Int32} (hC : LC p l s m b0 L xs meth c g) {i : Int} (hi : 0 ≤ i ∧ i + 4 ≤ L) (ob tx tc ps b k1 k2 k3 k4 k5 k6 s1 i1 s2 i2 ho ha rk t0 q0 t1 q1 t2 q2 t3 q3 t4 q4 t5 q5 mo az ap ak ax a1 a2 a3 a4 a5 a6 v1 v2 v3 v4 v5 v6 o9 : Nat) (Fam : FT → Prop) (F : FT) (r : RT) (S : PT) (tn : Int) (tf : Nat → Int) (n : Int) (f : Nat → Option Nat) (Fh : Nat → FT) (so : Option Nat) (ik : Int) (th : Int) (bn : Int) (N : NT) (Z : Nat → Int) (P : Nat → Int) (Kp : Nat → Int) (K : KT) (o : Nat → Int) (w : Int) (u : Int) (x : Int) (hI : INV Fam F r S tn tf n f Fh so ik N Z P Kp) (hxw : (xs (i + 1).toNat).toInt = w) (hxu : (xs (i + 2).toNat).toInt = u) (hxx : (xs (i + 3).toNat).toInt = x) (hw : 0 ≤ w ∧ w < 4) (hu : u < 0 ∨ 3 < u) (hW : gLw g Fam (fun q => s.heap.size ≤ q) s.heap H locs [(ob, .inr (10, [.ref tx, .ref ps, .ref ho, .ref rk, va_rf so])), (tx, .inr (9, [.ref tc, .int (iI tn)])), (tc, gC g 40 tf), (ps, .inr (4, [.ref b, .int (iI (pA S)), .int (iI (pO S)), .int (iI (pM S))])), (b, .inr (0, [.ref k1, .ref k2, .ref k3, .ref k4, .ref k5, .ref k6, .int (iI (bN (pB S))), .int (iI (bZ (pB S))), .ref s1, .ref s2])), (k1, gI g 40 (bK (pB S))), (k2, gI g 40 (bU (pB S))), (k3, gI g 40 (bL (pB S))), (k4, gI g 40 (bV (pB S))), (k5, gI g 40 (bD (pB S))), (k6, gI g 40 (bE (pB S))), (s1, .inr (3, [.ref i1, .int (iI (lP (pB S)))])), (i1, gI g 40 (lQ (pB S))), (s2, .inr (3, [.ref i2, .int (iI (wP (pB S)))])), (i2, gI g 40 (wQ (pB S))), (ho, .inr (2, [.ref ha, .int (iI n)])), (ha, gR g 4 f), (rk, .inr (5, [.ref t0, .ref t1, .ref t2, .ref t3, .ref t4, .ref t5, .ref (fS F)])), (t0, .inr (8, [.int (iI 199), .ref q0])), (q0, gI g 796 (rV r)), (t1, .inr (8, [.int (iI 199), .ref q1])), (q1, gI g 796 (rH r)), (t2, .inr (8, [.int (iI 199), .ref q2])), (q2, gI g 796 (rR r)), (t3, .inr (8, [.int (iI 40), .ref q3])), (q3, gI g 160 (nV r)), (t4, .inr (8, [.int (iI 40), .ref q4])), (q4, gI g 160 (nS r)), (t5, .inr (8, [.int (iI 40), .ref q5])), (q5, gI g 160 (nW r)), (mo, .inr (11, [.ref az, .ref ap, .int (iI n), .ref ak, .int (iI ik), .ref ax, .int (iI tn), .int (iI th), .ref a1, .ref a2, .int (iI (nN N)), .ref a3, .int (iI (nP N)), .ref a4, .ref a5, .ref a6, .ref v1, .ref v2, .ref v3, .ref v4, .ref v5, .ref v6, .int (iI bn), .int (iI (nWh N)), .int (iI (nD N)), .int (iI (nG N))])), (az, gI g 325 Z), (ap, gI g 1300 P), (ak, gI g 325 Kp), (ax, gC g 40 tf), (a1, gI g 41 (nK N)), (a2, gI g 41 (nU N)), (a3, gI g 90 (nQ N)), (a4, gI g 796 (kV K)), (a5, gI g 796 (kH K)), (a6, gI g 796 (kR K)), (v1, gI g 41 (kW K)), (v2, gI g 41 (kS K)), (v3, gI g 41 (kL K)), (v4, gI g 41 (kE K)), (v5, gI g 41 (kX K)), (v6, gI g 41 (kT K)), (o9, gJ g 1 o)]) (hl : lv_has ls 7 [(4, .int (iI i)), (3, .ref o9), (2, .ref mo), (1, .ref ob), (0, .ref b0)]) (hR : cells + 7 ≤ 600000 ∧ slots + 200 ≤ 7290000) (kk : ∀ (H1 : Heap) (locs1 : List Loc) (ls1 : Array Slot), LInv g (fun q => s.heap.size ≤ q) s.heap H1 locs1 ob tx tc ps b k1 k2 k3 k4 k5 k6 s1 i1 s2 i2 ho ha rk t0 q0 t1 q1 t2 q2 t3 q3 t4 q4 t5 q5 mo az ap ak ax a1 a2 a3 a4 a5 a6 v1 v2 v3 v4 v5 v6 o9 → lv_has ls1 7 [(4, .int (iI i)), (3, .ref o9), (2, .ref mo), (1, .ref ob), (0, .ref b0)] → W p l e room_1 s m #[.ref b0] below meth c H1 locs1 (cells + 7) (slots + 200) Q (F0 m 1562 ls1 [])) : W p l e room_1 s m #[.ref b0] below meth c H locs cells slots Q (F0 m 1034 ls []) := by
  obtain ⟨hGI, hFam, hRI, hB, ht, htf, hHR, hSN, hZ, hz⟩ := id hI
  have S0 := hC.1
  have hK := hC.2.2.2.2.2.1
  have hE := hC.2.2.2.2.2.2.1
  have hl0 := hC.2.2.2.2.1
  have hL8 := hC.2.2.2.2.2.2.2
  have hA : ∀ q : Nat, s.heap.size ≤ q → (fun q : Nat => s.heap.size ≤ q) q := fun _ h => h
  have hbA : ¬ (fun q : Nat => s.heap.size ≤ q) b0 := Nat.not_le.mpr hC.2.2.2.1
  have hG := hGI.1
  have hpr := GF_p hG
  have hn4 := hHR.1
  have hrw := iI_rng (xs (i + 1).toNat)
  rw [hxw] at hrw
  have hru := iI_rng (xs (i + 2).toNat)
  rw [hxu] at hru
  have hrx := iI_rng (xs (i + 3).toNat)
  rw [hxx] at hrx
  refine lv_aload_n S0.1 S0.2.1 dL_law_1034 rfl (lv_at hl 3 rfl) ?_
  refine lv_aload_n S0.1 S0.2.1 dL_law_1035 rfl (lv_at hl 4 rfl) ?_
  refine lv_iload S0.1 S0.2.1 dL_law_1036 (lv_at hl 0 rfl) ?_
  refine q_iconst S0 dL_law_1038 ?_
  refine q_iadd S0 dL_law_1039 ?_
  refine q_sld S0 hC.2.2.1 hC.2.2.2.1 hbA hW.1.2.2 (by omega) dL_law_1040 ?_
  refine q_topI (b := w) (hxw) ?_
  refine lv_aload_n S0.1 S0.2.1 dL_law_1041 rfl (lv_at hl 4 rfl) ?_
  refine lv_iload S0.1 S0.2.1 dL_law_1042 (lv_at hl 0 rfl) ?_
  refine q_iconst S0 dL_law_1044 ?_
  refine q_iadd S0 dL_law_1045 ?_
  refine q_sld S0 hC.2.2.1 hC.2.2.2.1 hbA hW.1.2.2 (by omega) dL_law_1046 ?_
  refine q_topI (b := u) (hxu) ?_
  refine lv_aload_n S0.1 S0.2.1 dL_law_1047 rfl (lv_at hl 4 rfl) ?_
  refine lv_iload S0.1 S0.2.1 dL_law_1048 (lv_at hl 0 rfl) ?_
  refine q_iconst S0 dL_law_1050 ?_
  refine q_iadd S0 dL_law_1051 ?_
  refine q_sld S0 hC.2.2.1 hC.2.2.2.1 hbA hW.1.2.2 (by omega) dL_law_1052 ?_
  refine q_topI (b := x) (hxx) ?_
  refine lv_aload_n S0.1 S0.2.1 dL_law_1053 rfl (lv_at hl 1 rfl) ?_
  refine q_lS (n := 5) (rest := []) (wr := [(tx, .inr (9, [.ref tc, .int (iI tn)])), (tc, gC g 40 tf), (ps, .inr (4, [.ref b, .int (iI (pA S)), .int (iI (pO S)), .int (iI (pM S))])), (b, .inr (0, [.ref k1, .ref k2, .ref k3, .ref k4, .ref k5, .ref k6, .int (iI (bN (pB S))), .int (iI (bZ (pB S))), .ref s1, .ref s2])), (k1, gI g 40 (bK (pB S))), (k2, gI g 40 (bU (pB S))), (k3, gI g 40 (bL (pB S))), (k4, gI g 40 (bV (pB S))), (k5, gI g 40 (bD (pB S))), (k6, gI g 40 (bE (pB S))), (s1, .inr (3, [.ref i1, .int (iI (lP (pB S)))])), (i1, gI g 40 (lQ (pB S))), (s2, .inr (3, [.ref i2, .int (iI (wP (pB S)))])), (i2, gI g 40 (wQ (pB S))), (ho, .inr (2, [.ref ha, .int (iI n)])), (ha, gR g 4 f), (rk, .inr (5, [.ref t0, .ref t1, .ref t2, .ref t3, .ref t4, .ref t5, .ref (fS F)])), (t0, .inr (8, [.int (iI 199), .ref q0])), (q0, gI g 796 (rV r)), (t1, .inr (8, [.int (iI 199), .ref q1])), (q1, gI g 796 (rH r)), (t2, .inr (8, [.int (iI 199), .ref q2])), (q2, gI g 796 (rR r)), (t3, .inr (8, [.int (iI 40), .ref q3])), (q3, gI g 160 (nV r)), (t4, .inr (8, [.int (iI 40), .ref q4])), (q4, gI g 160 (nS r)), (t5, .inr (8, [.int (iI 40), .ref q5])), (q5, gI g 160 (nW r)), (mo, .inr (11, [.ref az, .ref ap, .int (iI n), .ref ak, .int (iI ik), .ref ax, .int (iI tn), .int (iI th), .ref a1, .ref a2, .int (iI (nN N)), .ref a3, .int (iI (nP N)), .ref a4, .ref a5, .ref a6, .ref v1, .ref v2, .ref v3, .ref v4, .ref v5, .ref v6, .int (iI bn), .int (iI (nWh N)), .int (iI (nD N)), .int (iI (nG N))])), (az, gI g 325 Z), (ap, gI g 1300 P), (ak, gI g 325 Kp), (ax, gC g 40 tf), (a1, gI g 41 (nK N)), (a2, gI g 41 (nU N)), (a3, gI g 90 (nQ N)), (a4, gI g 796 (kV K)), (a5, gI g 796 (kH K)), (a6, gI g 796 (kR K)), (v1, gI g 41 (kW K)), (v2, gI g 41 (kS K)), (v3, gI g 41 (kL K)), (v4, gI g 41 (kE K)), (v5, gI g 41 (kX K)), (v6, gI g 41 (kT K))]) S0 hK hE hA hW (c_L_chainByFeeding_3 l hl0 g ob tx ps ho rk so w u x o9 o Fam (hw) (by omega) (by omega)) gL_law_L_chainByFeeding rfl rfl rfl (by decide +kernel) ⟨Nat.le_of_ble_eq_true rfl, Nat.le_of_ble_eq_true rfl⟩ [0, 47] [1, 2, 3, 4, 5, 6, 7, 8, 9, 10, 11, 12, 13, 14, 15, 16, 17, 18, 19, 20, 21, 22, 23, 24, 25, 26, 27, 28, 29, 30, 31, 32, 33, 34, 35, 36, 37, 38, 39, 40, 41, 42, 43, 44, 45, 46] rfl rfl rfl rfl (by decide) rfl rfl hl.1 (Nat.le_of_ble_eq_true rfl) ⟨by show _ ≤ (601024 : Nat); omega, by show _ ≤ (7293034 : Nat); omega⟩ dL_law_1054 ?_
  rintro _ H locs _ hW
  have hW : gLw g Fam (fun q => s.heap.size ≤ q) s.heap H _ [(tx, .inr (9, [.ref tc, .int (iI tn)])), (tc, gC g 40 tf), (ps, .inr (4, [.ref b, .int (iI (pA S)), .int (iI (pO S)), .int (iI (pM S))])), (b, .inr (0, [.ref k1, .ref k2, .ref k3, .ref k4, .ref k5, .ref k6, .int (iI (bN (pB S))), .int (iI (bZ (pB S))), .ref s1, .ref s2])), (k1, gI g 40 (bK (pB S))), (k2, gI g 40 (bU (pB S))), (k3, gI g 40 (bL (pB S))), (k4, gI g 40 (bV (pB S))), (k5, gI g 40 (bD (pB S))), (k6, gI g 40 (bE (pB S))), (s1, .inr (3, [.ref i1, .int (iI (lP (pB S)))])), (i1, gI g 40 (lQ (pB S))), (s2, .inr (3, [.ref i2, .int (iI (wP (pB S)))])), (i2, gI g 40 (wQ (pB S))), (ho, .inr (2, [.ref ha, .int (iI n)])), (ha, gR g 4 f), (rk, .inr (5, [.ref t0, .ref t1, .ref t2, .ref t3, .ref t4, .ref t5, .ref (fS F)])), (t0, .inr (8, [.int (iI 199), .ref q0])), (q0, gI g 796 (rV r)), (t1, .inr (8, [.int (iI 199), .ref q1])), (q1, gI g 796 (rH r)), (t2, .inr (8, [.int (iI 199), .ref q2])), (q2, gI g 796 (rR r)), (t3, .inr (8, [.int (iI 40), .ref q3])), (q3, gI g 160 (nV r)), (t4, .inr (8, [.int (iI 40), .ref q4])), (q4, gI g 160 (nS r)), (t5, .inr (8, [.int (iI 40), .ref q5])), (q5, gI g 160 (nW r)), (mo, .inr (11, [.ref az, .ref ap, .int (iI n), .ref ak, .int (iI ik), .ref ax, .int (iI tn), .int (iI th), .ref a1, .ref a2, .int (iI (nN N)), .ref a3, .int (iI (nP N)), .ref a4, .ref a5, .ref a6, .ref v1, .ref v2, .ref v3, .ref v4, .ref v5, .ref v6, .int (iI bn), .int (iI (nWh N)), .int (iI (nD N)), .int (iI (nG N))])), (az, gI g 325 Z), (ap, gI g 1300 P), (ak, gI g 325 Kp), (ax, gC g 40 tf), (a1, gI g 41 (nK N)), (a2, gI g 41 (nU N)), (a3, gI g 90 (nQ N)), (a4, gI g 796 (kV K)), (a5, gI g 796 (kH K)), (a6, gI g 796 (kR K)), (v1, gI g 41 (kW K)), (v2, gI g 41 (kS K)), (v3, gI g 41 (kL K)), (v4, gI g 41 (kE K)), (v5, gI g 41 (kX K)), (v6, gI g 41 (kT K)), (ob, .inr (10, [.ref tx, .ref ps, .ref ho, .ref rk, va_rf so])), (o9, gJ g 1 o)] := hW
  refine W.eq (g2 := F0 m 1057 ls [.int (iI 1)]) rfl ?_
  refine lv_istore (lv' := [(5, .int (iI 1)), (4, .int (iI i)), (3, .ref o9), (2, .ref mo), (1, .ref ob), (0, .ref b0)]) S0.1 S0.2.1 dL_law_1057 hl (by decide) rfl (fun ls hl => ?_)
  refine lv_aload_n S0.1 S0.2.1 dL_law_1059 rfl (lv_at hl 3 rfl) ?_
  refine lv_aload_n S0.1 S0.2.1 dL_law_1060 rfl (lv_at hl 5 rfl) ?_
  refine lv_iload S0.1 S0.2.1 dL_law_1061 (lv_at hl 1 rfl) ?_
  refine q_iconst S0 dL_law_1063 ?_
  refine q_iadd S0 dL_law_1064 ?_
  refine q_sld S0 hC.2.2.1 hC.2.2.2.1 hbA hW.1.2.2 (by omega) dL_law_1065 ?_
  refine q_topI (b := w) (hxw) ?_
  refine lv_aload_n S0.1 S0.2.1 dL_law_1066 rfl (lv_at hl 5 rfl) ?_
  refine lv_iload S0.1 S0.2.1 dL_law_1067 (lv_at hl 1 rfl) ?_
  refine q_iconst S0 dL_law_1069 ?_
  refine q_iadd S0 dL_law_1070 ?_
  refine q_sld S0 hC.2.2.1 hC.2.2.2.1 hbA hW.1.2.2 (by omega) dL_law_1071 ?_
  refine q_topI (b := u) (hxu) ?_
  refine lv_aload_n S0.1 S0.2.1 dL_law_1072 rfl (lv_at hl 5 rfl) ?_
  refine lv_iload S0.1 S0.2.1 dL_law_1073 (lv_at hl 1 rfl) ?_
  refine q_iconst S0 dL_law_1075 ?_
  refine q_iadd S0 dL_law_1076 ?_
  refine q_sld S0 hC.2.2.1 hC.2.2.2.1 hbA hW.1.2.2 (by omega) dL_law_1077 ?_
  refine q_topI (b := x) (hxx) ?_
  refine q_lV (n := 3) (rest := []) (wr := [(tx, .inr (9, [.ref tc, .int (iI tn)])), (tc, gC g 40 tf), (ps, .inr (4, [.ref b, .int (iI (pA S)), .int (iI (pO S)), .int (iI (pM S))])), (b, .inr (0, [.ref k1, .ref k2, .ref k3, .ref k4, .ref k5, .ref k6, .int (iI (bN (pB S))), .int (iI (bZ (pB S))), .ref s1, .ref s2])), (k1, gI g 40 (bK (pB S))), (k2, gI g 40 (bU (pB S))), (k3, gI g 40 (bL (pB S))), (k4, gI g 40 (bV (pB S))), (k5, gI g 40 (bD (pB S))), (k6, gI g 40 (bE (pB S))), (s1, .inr (3, [.ref i1, .int (iI (lP (pB S)))])), (i1, gI g 40 (lQ (pB S))), (s2, .inr (3, [.ref i2, .int (iI (wP (pB S)))])), (i2, gI g 40 (wQ (pB S))), (ho, .inr (2, [.ref ha, .int (iI n)])), (ha, gR g 4 f), (rk, .inr (5, [.ref t0, .ref t1, .ref t2, .ref t3, .ref t4, .ref t5, .ref (fS F)])), (t0, .inr (8, [.int (iI 199), .ref q0])), (q0, gI g 796 (rV r)), (t1, .inr (8, [.int (iI 199), .ref q1])), (q1, gI g 796 (rH r)), (t2, .inr (8, [.int (iI 199), .ref q2])), (q2, gI g 796 (rR r)), (t3, .inr (8, [.int (iI 40), .ref q3])), (q3, gI g 160 (nV r)), (t4, .inr (8, [.int (iI 40), .ref q4])), (q4, gI g 160 (nS r)), (t5, .inr (8, [.int (iI 40), .ref q5])), (q5, gI g 160 (nW r)), (ap, gI g 1300 P), (ak, gI g 325 Kp), (ax, gC g 40 tf), (a1, gI g 41 (nK N)), (a2, gI g 41 (nU N)), (a3, gI g 90 (nQ N)), (a4, gI g 796 (kV K)), (a5, gI g 796 (kH K)), (a6, gI g 796 (kR K)), (v1, gI g 41 (kW K)), (v2, gI g 41 (kS K)), (v3, gI g 41 (kL K)), (v4, gI g 41 (kE K)), (v5, gI g 41 (kX K)), (v6, gI g 41 (kT K)), (ob, .inr (10, [.ref tx, .ref ps, .ref ho, .ref rk, va_rf so])), (o9, gJ g 1 o)]) S0 hK hA hW (c_X11_chainByFeeding1 l g mo az ap ak ax a1 a2 a3 a4 a5 a6 v1 v2 v3 v4 v5 v6 n ik tn th (nN N) (nP N) bn (nWh N) (nD N) (nG N) Z F w u x (hG) (hz) (by omega) (by omega)) gL_law_X11_chainByFeeding rfl rfl rfl (by decide +kernel) ⟨Nat.le_of_ble_eq_true rfl, Nat.le_of_ble_eq_true rfl⟩ [29, 30] [0, 1, 2, 3, 4, 5, 6, 7, 8, 9, 10, 11, 12, 13, 14, 15, 16, 17, 18, 19, 20, 21, 22, 23, 24, 25, 26, 27, 28, 31, 32, 33, 34, 35, 36, 37, 38, 39, 40, 41, 42, 43, 44, 45, 46, 47] rfl rfl rfl rfl (by decide) (q_recv hK hW.1.1 (ci := 11) (q0 := 29) rfl rfl) (fun _ _ => trivial) (trivial) rfl rfl hl.1 (Nat.le_of_ble_eq_true rfl) ⟨by show _ ≤ (601024 : Nat); omega, by show _ ≤ (7293034 : Nat); omega⟩ dL_law_1078 ?_
  rintro _ H locs _ hW
  have hW : gLw g Fam (fun q => s.heap.size ≤ q) s.heap H _ [(tx, .inr (9, [.ref tc, .int (iI tn)])), (tc, gC g 40 tf), (ps, .inr (4, [.ref b, .int (iI (pA S)), .int (iI (pO S)), .int (iI (pM S))])), (b, .inr (0, [.ref k1, .ref k2, .ref k3, .ref k4, .ref k5, .ref k6, .int (iI (bN (pB S))), .int (iI (bZ (pB S))), .ref s1, .ref s2])), (k1, gI g 40 (bK (pB S))), (k2, gI g 40 (bU (pB S))), (k3, gI g 40 (bL (pB S))), (k4, gI g 40 (bV (pB S))), (k5, gI g 40 (bD (pB S))), (k6, gI g 40 (bE (pB S))), (s1, .inr (3, [.ref i1, .int (iI (lP (pB S)))])), (i1, gI g 40 (lQ (pB S))), (s2, .inr (3, [.ref i2, .int (iI (wP (pB S)))])), (i2, gI g 40 (wQ (pB S))), (ho, .inr (2, [.ref ha, .int (iI n)])), (ha, gR g 4 f), (rk, .inr (5, [.ref t0, .ref t1, .ref t2, .ref t3, .ref t4, .ref t5, .ref (fS F)])), (t0, .inr (8, [.int (iI 199), .ref q0])), (q0, gI g 796 (rV r)), (t1, .inr (8, [.int (iI 199), .ref q1])), (q1, gI g 796 (rH r)), (t2, .inr (8, [.int (iI 199), .ref q2])), (q2, gI g 796 (rR r)), (t3, .inr (8, [.int (iI 40), .ref q3])), (q3, gI g 160 (nV r)), (t4, .inr (8, [.int (iI 40), .ref q4])), (q4, gI g 160 (nS r)), (t5, .inr (8, [.int (iI 40), .ref q5])), (q5, gI g 160 (nW r)), (ap, gI g 1300 P), (ak, gI g 325 Kp), (ax, gC g 40 tf), (a1, gI g 41 (nK N)), (a2, gI g 41 (nU N)), (a3, gI g 90 (nQ N)), (a4, gI g 796 (kV K)), (a5, gI g 796 (kH K)), (a6, gI g 796 (kR K)), (v1, gI g 41 (kW K)), (v2, gI g 41 (kS K)), (v3, gI g 41 (kL K)), (v4, gI g 41 (kE K)), (v5, gI g 41 (kX K)), (v6, gI g 41 (kT K)), (ob, .inr (10, [.ref tx, .ref ps, .ref ho, .ref rk, va_rf so])), (o9, gJ g 1 o), (mo, .inr (11, [.ref az, .ref ap, .int (iI n), .ref ak, .int (iI ik), .ref ax, .int (iI tn), .int (iI 1), .ref a1, .ref a2, .int (iI (nN N)), .ref a3, .int (iI (nP N)), .ref a4, .ref a5, .ref a6, .ref v1, .ref v2, .ref v3, .ref v4, .ref v5, .ref v6, .int (iI bn), .int (iI (nWh N)), .int (iI (nD N)), .int (iI (nG N))])), (az, gI g 325 Z)] := hW
  refine W.eq (g2 := F0 m 1081 ls [.int (iI 0)]) rfl ?_
  refine lv_istore (lv' := [(6, .int (iI 0)), (5, .int (iI 1)), (4, .int (iI i)), (3, .ref o9), (2, .ref mo), (1, .ref ob), (0, .ref b0)]) S0.1 S0.2.1 dL_law_1081 hl (by decide) rfl (fun ls hl => ?_)
  refine lv_aload_n S0.1 S0.2.1 dL_law_1083 rfl (lv_at hl 4 rfl) ?_
  refine q_pV (n := 0) (rest := []) S0 hK (c_X11_thrown l g mo az ap ak ax a1 a2 a3 a4 a5 a6 v1 v2 v3 v4 v5 v6 n ik tn 1 (nN N) (nP N) bn (nWh N) (nD N) (nG N)) (subP hW.1.1 [46] rfl) (trivial) gL_law_X11_thrown rfl rfl rfl (by decide +kernel) ⟨Nat.le_of_ble_eq_true rfl, Nat.le_of_ble_eq_true rfl⟩ (q_recv hK hW.1.1 (ci := 11) (q0 := 46) rfl rfl) rfl rfl hl.1 (Nat.le_of_ble_eq_true rfl) ⟨by show _ ≤ (601024 : Nat); omega, by show _ ≤ (7293034 : Nat); omega⟩ dL_law_1084 ?_
  refine W.eq (g2 := F0 m 1087 ls [.int (iI 1)]) rfl ?_
  refine lv_iload S0.1 S0.2.1 dL_law_1087 (lv_at hl 1 rfl) ?_
  refine q_icmp_eq (tgt := 1094) S0 (by omega) dL_law_1089 (by decide) (fun c1089 => ?_) (fun c1089 => ?_)
  · skip
    refine lv_iload S0.1 S0.2.1 dL_law_1094 (lv_at hl 1 rfl) ?_
    refine q_if_ne (tgt := 1111) S0 (by omega) dL_law_1096 (by decide) (fun c1096 => ?_) (fun c1096 => ?_)
    · skip
      refine lv_goto (tgt := 1562) S0.1 S0.2.1 dL_law_1111 (by decide) ?_
      refine W.widen (k := cells + 7) (n := slots + 200) (by omega) (by omega) ?_
      exact kk _ _ ls ⟨Fam, F, r, S, tn, tf, n, f, Fh, so, ik, 1, bn, N, Z, P, Kp, K, o, hW.sub [44, 0, 1, 2, 3, 4, 5, 6, 7, 8, 9, 10, 11, 12, 13, 14, 15, 16, 17, 18, 19, 20, 21, 22, 23, 24, 25, 26, 27, 28, 46, 47, 29, 30, 31, 32, 33, 34, 35, 36, 37, 38, 39, 40, 41, 42, 43, 45] rfl rfl, hI⟩ (lv_sub hl [2, 3, 4, 5, 6] rfl)
    · skip
      exact absurd c1096 (by omega)
  · skip
    exact absurd (rfl) c1089
set_option maxHeartbeats 4000000 in
set_option maxRecDepth 100000 in
theorem lk_chainByFeeding_2 {p : Program} {l : Launch} {e : Env} {s : State} {m : MethodId} {below : List Frame} {meth : Method} {c : Code} {H : Heap} {locs : List Loc} {cells slots : Nat} {Q : State → Prop} {ls : Array Slot} {g : GG} {b0 L : Nat} {xs : Nat → Int32} (hC : LC p l s m b0 L xs meth c g) {i : Int} (hi : 0 ≤ i ∧ i + 4 ≤ L) (ob tx tc ps b k1 k2 k3 k4 k5 k6 s1 i1 s2 i2 ho ha rk t0 q0 t1 q1 t2 q2 t3 q3 t4 q4 t5 q5 mo az ap ak ax a1 a2 a3 a4 a5 a6 v1 v2 v3 v4 v5 v6 o9 : Nat) (Fam : FT → Prop) (F : FT) (r : RT) (S : PT) (tn : Int) (tf : Nat → Int) (n : Int) (f : Nat → Option Nat) (Fh : Nat → FT) (so : Option Nat) (ik : Int) (th : Int) (bn : Int) (N : NT) (Z : Nat → Int) (P : Nat → Int) (Kp : Nat → Int) (K : KT) (o : Nat → Int) (w : Int) (u : Int) (x : Int) (hI : INV Fam F r S tn tf n f Fh so ik N Z P Kp) (hxw : (xs (i + 1).toNat).toInt = w) (hxu : (xs (i + 2).toNat).toInt = u) (hxx : (xs (i + 3).toNat).toInt = x) (hw : 0 ≤ w ∧ w < 4) (hu : 0 ≤ u ∧ u < 4) (hx : x < 0 ∨ fP F ≤ x) (hW : gLw g Fam (fun q => s.heap.size ≤ q) s.heap H locs [(ob, .inr (10, [.ref tx, .ref ps, .ref ho, .ref rk, va_rf so])), (tx, .inr (9, [.ref tc, .int (iI tn)])), (tc, gC g 40 tf), (ps, .inr (4, [.ref b, .int (iI (pA S)), .int (iI (pO S)), .int (iI (pM S))])), (b, .inr (0, [.ref k1, .ref k2, .ref k3, .ref k4, .ref k5, .ref k6, .int (iI (bN (pB S))), .int (iI (bZ (pB S))), .ref s1, .ref s2])), (k1, gI g 40 (bK (pB S))), (k2, gI g 40 (bU (pB S))), (k3, gI g 40 (bL (pB S))), (k4, gI g 40 (bV (pB S))), (k5, gI g 40 (bD (pB S))), (k6, gI g 40 (bE (pB S))), (s1, .inr (3, [.ref i1, .int (iI (lP (pB S)))])), (i1, gI g 40 (lQ (pB S))), (s2, .inr (3, [.ref i2, .int (iI (wP (pB S)))])), (i2, gI g 40 (wQ (pB S))), (ho, .inr (2, [.ref ha, .int (iI n)])), (ha, gR g 4 f), (rk, .inr (5, [.ref t0, .ref t1, .ref t2, .ref t3, .ref t4, .ref t5, .ref (fS F)])), (t0, .inr (8, [.int (iI 199), .ref q0])), (q0, gI g 796 (rV r)), (t1, .inr (8, [.int (iI 199), .ref q1])), (q1, gI g 796 (rH r)), (t2, .inr (8, [.int (iI 199), .ref q2])), (q2, gI g 796 (rR r)), (t3, .inr (8, [.int (iI 40), .ref q3])), (q3, gI g 160 (nV r)), (t4, .inr (8, [.int (iI 40), .ref q4])), (q4, gI g 160 (nS r)), (t5, .inr (8, [.int (iI 40), .ref q5])), (q5, gI g 160 (nW r)), (mo, .inr (11, [.ref az, .ref ap, .int (iI n), .ref ak, .int (iI ik), .ref ax, .int (iI tn), .int (iI th), .ref a1, .ref a2, .int (iI (nN N)), .ref a3, .int (iI (nP N)), .ref a4, .ref a5, .ref a6, .ref v1, .ref v2, .ref v3, .ref v4, .ref v5, .ref v6, .int (iI bn), .int (iI (nWh N)), .int (iI (nD N)), .int (iI (nG N))])), (az, gI g 325 Z), (ap, gI g 1300 P), (ak, gI g 325 Kp), (ax, gC g 40 tf), (a1, gI g 41 (nK N)), (a2, gI g 41 (nU N)), (a3, gI g 90 (nQ N)), (a4, gI g 796 (kV K)), (a5, gI g 796 (kH K)), (a6, gI g 796 (kR K)), (v1, gI g 41 (kW K)), (v2, gI g 41 (kS K)), (v3, gI g 41 (kL K)), (v4, gI g 41 (kE K)), (v5, gI g 41 (kX K)), (v6, gI g 41 (kT K)), (o9, gJ g 1 o)]) (hl : lv_has ls 7 [(4, .int (iI i)), (3, .ref o9), (2, .ref mo), (1, .ref ob), (0, .ref b0)]) (hR : cells + 7 ≤ 600000 ∧ slots + 200 ≤ 7290000) (kk : ∀ (H1 : Heap) (locs1 : List Loc) (ls1 : Array Slot), LInv g (fun q => s.heap.size ≤ q) s.heap H1 locs1 ob tx tc ps b k1 k2 k3 k4 k5 k6 s1 i1 s2 i2 ho ha rk t0 q0 t1 q1 t2 q2 t3 q3 t4 q4 t5 q5 mo az ap ak ax a1 a2 a3 a4 a5 a6 v1 v2 v3 v4 v5 v6 o9 → lv_has ls1 7 [(4, .int (iI i)), (3, .ref o9), (2, .ref mo), (1, .ref ob), (0, .ref b0)] → W p l e room_1 s m #[.ref b0] below meth c H1 locs1 (cells + 7) (slots + 200) Q (F0 m 1562 ls1 [])) : W p l e room_1 s m #[.ref b0] below meth c H locs cells slots Q (F0 m 1034 ls []) := by
  obtain ⟨hGI, hFam, hRI, hB, ht, htf, hHR, hSN, hZ, hz⟩ := id hI
  have S0 := hC.1
  have hK := hC.2.2.2.2.2.1
  have hE := hC.2.2.2.2.2.2.1
  have hl0 := hC.2.2.2.2.1
  have hL8 := hC.2.2.2.2.2.2.2
  have hA : ∀ q : Nat, s.heap.size ≤ q → (fun q : Nat => s.heap.size ≤ q) q := fun _ h => h
  have hbA : ¬ (fun q : Nat => s.heap.size ≤ q) b0 := Nat.not_le.mpr hC.2.2.2.1
  have hG := hGI.1
  have hpr := GF_p hG
  have hn4 := hHR.1
  have hrw := iI_rng (xs (i + 1).toNat)
  rw [hxw] at hrw
  have hru := iI_rng (xs (i + 2).toNat)
  rw [hxu] at hru
  have hrx := iI_rng (xs (i + 3).toNat)
  rw [hxx] at hrx
  refine lv_aload_n S0.1 S0.2.1 dL_law_1034 rfl (lv_at hl 3 rfl) ?_
  refine lv_aload_n S0.1 S0.2.1 dL_law_1035 rfl (lv_at hl 4 rfl) ?_
  refine lv_iload S0.1 S0.2.1 dL_law_1036 (lv_at hl 0 rfl) ?_
  refine q_iconst S0 dL_law_1038 ?_
  refine q_iadd S0 dL_law_1039 ?_
  refine q_sld S0 hC.2.2.1 hC.2.2.2.1 hbA hW.1.2.2 (by omega) dL_law_1040 ?_
  refine q_topI (b := w) (hxw) ?_
  refine lv_aload_n S0.1 S0.2.1 dL_law_1041 rfl (lv_at hl 4 rfl) ?_
  refine lv_iload S0.1 S0.2.1 dL_law_1042 (lv_at hl 0 rfl) ?_
  refine q_iconst S0 dL_law_1044 ?_
  refine q_iadd S0 dL_law_1045 ?_
  refine q_sld S0 hC.2.2.1 hC.2.2.2.1 hbA hW.1.2.2 (by omega) dL_law_1046 ?_
  refine q_topI (b := u) (hxu) ?_
  refine lv_aload_n S0.1 S0.2.1 dL_law_1047 rfl (lv_at hl 4 rfl) ?_
  refine lv_iload S0.1 S0.2.1 dL_law_1048 (lv_at hl 0 rfl) ?_
  refine q_iconst S0 dL_law_1050 ?_
  refine q_iadd S0 dL_law_1051 ?_
  refine q_sld S0 hC.2.2.1 hC.2.2.2.1 hbA hW.1.2.2 (by omega) dL_law_1052 ?_
  refine q_topI (b := x) (hxx) ?_
  refine lv_aload_n S0.1 S0.2.1 dL_law_1053 rfl (lv_at hl 1 rfl) ?_
  refine q_lS (n := 5) (rest := []) (wr := [(tx, .inr (9, [.ref tc, .int (iI tn)])), (tc, gC g 40 tf), (ps, .inr (4, [.ref b, .int (iI (pA S)), .int (iI (pO S)), .int (iI (pM S))])), (b, .inr (0, [.ref k1, .ref k2, .ref k3, .ref k4, .ref k5, .ref k6, .int (iI (bN (pB S))), .int (iI (bZ (pB S))), .ref s1, .ref s2])), (k1, gI g 40 (bK (pB S))), (k2, gI g 40 (bU (pB S))), (k3, gI g 40 (bL (pB S))), (k4, gI g 40 (bV (pB S))), (k5, gI g 40 (bD (pB S))), (k6, gI g 40 (bE (pB S))), (s1, .inr (3, [.ref i1, .int (iI (lP (pB S)))])), (i1, gI g 40 (lQ (pB S))), (s2, .inr (3, [.ref i2, .int (iI (wP (pB S)))])), (i2, gI g 40 (wQ (pB S))), (ho, .inr (2, [.ref ha, .int (iI n)])), (ha, gR g 4 f), (t0, .inr (8, [.int (iI 199), .ref q0])), (q0, gI g 796 (rV r)), (t1, .inr (8, [.int (iI 199), .ref q1])), (q1, gI g 796 (rH r)), (t2, .inr (8, [.int (iI 199), .ref q2])), (q2, gI g 796 (rR r)), (t3, .inr (8, [.int (iI 40), .ref q3])), (q3, gI g 160 (nV r)), (t4, .inr (8, [.int (iI 40), .ref q4])), (q4, gI g 160 (nS r)), (t5, .inr (8, [.int (iI 40), .ref q5])), (q5, gI g 160 (nW r)), (mo, .inr (11, [.ref az, .ref ap, .int (iI n), .ref ak, .int (iI ik), .ref ax, .int (iI tn), .int (iI th), .ref a1, .ref a2, .int (iI (nN N)), .ref a3, .int (iI (nP N)), .ref a4, .ref a5, .ref a6, .ref v1, .ref v2, .ref v3, .ref v4, .ref v5, .ref v6, .int (iI bn), .int (iI (nWh N)), .int (iI (nD N)), .int (iI (nG N))])), (az, gI g 325 Z), (ap, gI g 1300 P), (ak, gI g 325 Kp), (ax, gC g 40 tf), (a1, gI g 41 (nK N)), (a2, gI g 41 (nU N)), (a3, gI g 90 (nQ N)), (a4, gI g 796 (kV K)), (a5, gI g 796 (kH K)), (a6, gI g 796 (kR K)), (v1, gI g 41 (kW K)), (v2, gI g 41 (kS K)), (v3, gI g 41 (kL K)), (v4, gI g 41 (kE K)), (v5, gI g 41 (kX K)), (v6, gI g 41 (kT K))]) S0 hK hE hA hW (c_L_chainByFeeding_2 l hl0 g ob tx ps ho rk t0 t1 t2 t3 t4 t5 so F w u x o9 o Fam (hpr) (hw) (hu) (by omega) (hFam)) gL_law_L_chainByFeeding rfl rfl rfl (by decide +kernel) ⟨Nat.le_of_ble_eq_true rfl, Nat.le_of_ble_eq_true rfl⟩ [0, 17, 47] [1, 2, 3, 4, 5, 6, 7, 8, 9, 10, 11, 12, 13, 14, 15, 16, 18, 19, 20, 21, 22, 23, 24, 25, 26, 27, 28, 29, 30, 31, 32, 33, 34, 35, 36, 37, 38, 39, 40, 41, 42, 43, 44, 45, 46] rfl rfl rfl rfl (by decide) rfl rfl hl.1 (Nat.le_of_ble_eq_true rfl) ⟨by show _ ≤ (601024 : Nat); omega, by show _ ≤ (7293034 : Nat); omega⟩ dL_law_1054 ?_
  rintro _ H locs _ hW
  have hW : gLw g Fam (fun q => s.heap.size ≤ q) s.heap H _ [(tx, .inr (9, [.ref tc, .int (iI tn)])), (tc, gC g 40 tf), (ps, .inr (4, [.ref b, .int (iI (pA S)), .int (iI (pO S)), .int (iI (pM S))])), (b, .inr (0, [.ref k1, .ref k2, .ref k3, .ref k4, .ref k5, .ref k6, .int (iI (bN (pB S))), .int (iI (bZ (pB S))), .ref s1, .ref s2])), (k1, gI g 40 (bK (pB S))), (k2, gI g 40 (bU (pB S))), (k3, gI g 40 (bL (pB S))), (k4, gI g 40 (bV (pB S))), (k5, gI g 40 (bD (pB S))), (k6, gI g 40 (bE (pB S))), (s1, .inr (3, [.ref i1, .int (iI (lP (pB S)))])), (i1, gI g 40 (lQ (pB S))), (s2, .inr (3, [.ref i2, .int (iI (wP (pB S)))])), (i2, gI g 40 (wQ (pB S))), (ho, .inr (2, [.ref ha, .int (iI n)])), (ha, gR g 4 f), (t0, .inr (8, [.int (iI 199), .ref q0])), (q0, gI g 796 (rV r)), (t1, .inr (8, [.int (iI 199), .ref q1])), (q1, gI g 796 (rH r)), (t2, .inr (8, [.int (iI 199), .ref q2])), (q2, gI g 796 (rR r)), (t3, .inr (8, [.int (iI 40), .ref q3])), (q3, gI g 160 (nV r)), (t4, .inr (8, [.int (iI 40), .ref q4])), (q4, gI g 160 (nS r)), (t5, .inr (8, [.int (iI 40), .ref q5])), (q5, gI g 160 (nW r)), (mo, .inr (11, [.ref az, .ref ap, .int (iI n), .ref ak, .int (iI ik), .ref ax, .int (iI tn), .int (iI th), .ref a1, .ref a2, .int (iI (nN N)), .ref a3, .int (iI (nP N)), .ref a4, .ref a5, .ref a6, .ref v1, .ref v2, .ref v3, .ref v4, .ref v5, .ref v6, .int (iI bn), .int (iI (nWh N)), .int (iI (nD N)), .int (iI (nG N))])), (az, gI g 325 Z), (ap, gI g 1300 P), (ak, gI g 325 Kp), (ax, gC g 40 tf), (a1, gI g 41 (nK N)), (a2, gI g 41 (nU N)), (a3, gI g 90 (nQ N)), (a4, gI g 796 (kV K)), (a5, gI g 796 (kH K)), (a6, gI g 796 (kR K)), (v1, gI g 41 (kW K)), (v2, gI g 41 (kS K)), (v3, gI g 41 (kL K)), (v4, gI g 41 (kE K)), (v5, gI g 41 (kX K)), (v6, gI g 41 (kT K)), (ob, .inr (10, [.ref tx, .ref ps, .ref ho, .ref rk, va_rf so])), (rk, .inr (5, [.ref t0, .ref t1, .ref t2, .ref t3, .ref t4, .ref t5, .ref (fS F)])), (o9, gJ g 1 o)] := hW
  refine W.eq (g2 := F0 m 1057 ls [.int (iI 2)]) rfl ?_
  refine lv_istore (lv' := [(5, .int (iI 2)), (4, .int (iI i)), (3, .ref o9), (2, .ref mo), (1, .ref ob), (0, .ref b0)]) S0.1 S0.2.1 dL_law_1057 hl (by decide) rfl (fun ls hl => ?_)
  refine lv_aload_n S0.1 S0.2.1 dL_law_1059 rfl (lv_at hl 3 rfl) ?_
  refine lv_aload_n S0.1 S0.2.1 dL_law_1060 rfl (lv_at hl 5 rfl) ?_
  refine lv_iload S0.1 S0.2.1 dL_law_1061 (lv_at hl 1 rfl) ?_
  refine q_iconst S0 dL_law_1063 ?_
  refine q_iadd S0 dL_law_1064 ?_
  refine q_sld S0 hC.2.2.1 hC.2.2.2.1 hbA hW.1.2.2 (by omega) dL_law_1065 ?_
  refine q_topI (b := w) (hxw) ?_
  refine lv_aload_n S0.1 S0.2.1 dL_law_1066 rfl (lv_at hl 5 rfl) ?_
  refine lv_iload S0.1 S0.2.1 dL_law_1067 (lv_at hl 1 rfl) ?_
  refine q_iconst S0 dL_law_1069 ?_
  refine q_iadd S0 dL_law_1070 ?_
  refine q_sld S0 hC.2.2.1 hC.2.2.2.1 hbA hW.1.2.2 (by omega) dL_law_1071 ?_
  refine q_topI (b := u) (hxu) ?_
  refine lv_aload_n S0.1 S0.2.1 dL_law_1072 rfl (lv_at hl 5 rfl) ?_
  refine lv_iload S0.1 S0.2.1 dL_law_1073 (lv_at hl 1 rfl) ?_
  refine q_iconst S0 dL_law_1075 ?_
  refine q_iadd S0 dL_law_1076 ?_
  refine q_sld S0 hC.2.2.1 hC.2.2.2.1 hbA hW.1.2.2 (by omega) dL_law_1077 ?_
  refine q_topI (b := x) (hxx) ?_
  refine q_lV (n := 3) (rest := []) (wr := [(tx, .inr (9, [.ref tc, .int (iI tn)])), (tc, gC g 40 tf), (ps, .inr (4, [.ref b, .int (iI (pA S)), .int (iI (pO S)), .int (iI (pM S))])), (b, .inr (0, [.ref k1, .ref k2, .ref k3, .ref k4, .ref k5, .ref k6, .int (iI (bN (pB S))), .int (iI (bZ (pB S))), .ref s1, .ref s2])), (k1, gI g 40 (bK (pB S))), (k2, gI g 40 (bU (pB S))), (k3, gI g 40 (bL (pB S))), (k4, gI g 40 (bV (pB S))), (k5, gI g 40 (bD (pB S))), (k6, gI g 40 (bE (pB S))), (s1, .inr (3, [.ref i1, .int (iI (lP (pB S)))])), (i1, gI g 40 (lQ (pB S))), (s2, .inr (3, [.ref i2, .int (iI (wP (pB S)))])), (i2, gI g 40 (wQ (pB S))), (ho, .inr (2, [.ref ha, .int (iI n)])), (ha, gR g 4 f), (t0, .inr (8, [.int (iI 199), .ref q0])), (q0, gI g 796 (rV r)), (t1, .inr (8, [.int (iI 199), .ref q1])), (q1, gI g 796 (rH r)), (t2, .inr (8, [.int (iI 199), .ref q2])), (q2, gI g 796 (rR r)), (t3, .inr (8, [.int (iI 40), .ref q3])), (q3, gI g 160 (nV r)), (t4, .inr (8, [.int (iI 40), .ref q4])), (q4, gI g 160 (nS r)), (t5, .inr (8, [.int (iI 40), .ref q5])), (q5, gI g 160 (nW r)), (ap, gI g 1300 P), (ak, gI g 325 Kp), (ax, gC g 40 tf), (a1, gI g 41 (nK N)), (a2, gI g 41 (nU N)), (a3, gI g 90 (nQ N)), (a4, gI g 796 (kV K)), (a5, gI g 796 (kH K)), (a6, gI g 796 (kR K)), (v1, gI g 41 (kW K)), (v2, gI g 41 (kS K)), (v3, gI g 41 (kL K)), (v4, gI g 41 (kE K)), (v5, gI g 41 (kX K)), (v6, gI g 41 (kT K)), (ob, .inr (10, [.ref tx, .ref ps, .ref ho, .ref rk, va_rf so])), (rk, .inr (5, [.ref t0, .ref t1, .ref t2, .ref t3, .ref t4, .ref t5, .ref (fS F)])), (o9, gJ g 1 o)]) S0 hK hA hW (c_X11_chainByFeeding2 l g mo az ap ak ax a1 a2 a3 a4 a5 a6 v1 v2 v3 v4 v5 v6 n ik tn th (nN N) (nP N) bn (nWh N) (nD N) (nG N) Z F w u x (hG) (hz) (hw) (hu) (by omega)) gL_law_X11_chainByFeeding rfl rfl rfl (by decide +kernel) ⟨Nat.le_of_ble_eq_true rfl, Nat.le_of_ble_eq_true rfl⟩ [28, 29] [0, 1, 2, 3, 4, 5, 6, 7, 8, 9, 10, 11, 12, 13, 14, 15, 16, 17, 18, 19, 20, 21, 22, 23, 24, 25, 26, 27, 30, 31, 32, 33, 34, 35, 36, 37, 38, 39, 40, 41, 42, 43, 44, 45, 46, 47] rfl rfl rfl rfl (by decide) (q_recv hK hW.1.1 (ci := 11) (q0 := 28) rfl rfl) (fun _ _ => trivial) (trivial) rfl rfl hl.1 (Nat.le_of_ble_eq_true rfl) ⟨by show _ ≤ (601024 : Nat); omega, by show _ ≤ (7293034 : Nat); omega⟩ dL_law_1078 ?_
  rintro _ H locs _ hW
  have hW : gLw g Fam (fun q => s.heap.size ≤ q) s.heap H _ [(tx, .inr (9, [.ref tc, .int (iI tn)])), (tc, gC g 40 tf), (ps, .inr (4, [.ref b, .int (iI (pA S)), .int (iI (pO S)), .int (iI (pM S))])), (b, .inr (0, [.ref k1, .ref k2, .ref k3, .ref k4, .ref k5, .ref k6, .int (iI (bN (pB S))), .int (iI (bZ (pB S))), .ref s1, .ref s2])), (k1, gI g 40 (bK (pB S))), (k2, gI g 40 (bU (pB S))), (k3, gI g 40 (bL (pB S))), (k4, gI g 40 (bV (pB S))), (k5, gI g 40 (bD (pB S))), (k6, gI g 40 (bE (pB S))), (s1, .inr (3, [.ref i1, .int (iI (lP (pB S)))])), (i1, gI g 40 (lQ (pB S))), (s2, .inr (3, [.ref i2, .int (iI (wP (pB S)))])), (i2, gI g 40 (wQ (pB S))), (ho, .inr (2, [.ref ha, .int (iI n)])), (ha, gR g 4 f), (t0, .inr (8, [.int (iI 199), .ref q0])), (q0, gI g 796 (rV r)), (t1, .inr (8, [.int (iI 199), .ref q1])), (q1, gI g 796 (rH r)), (t2, .inr (8, [.int (iI 199), .ref q2])), (q2, gI g 796 (rR r)), (t3, .inr (8, [.int (iI 40), .ref q3])), (q3, gI g 160 (nV r)), (t4, .inr (8, [.int (iI 40), .ref q4])), (q4, gI g 160 (nS r)), (t5, .inr (8, [.int (iI 40), .ref q5])), (q5, gI g 160 (nW r)), (ap, gI g 1300 P), (ak, gI g 325 Kp), (ax, gC g 40 tf), (a1, gI g 41 (nK N)), (a2, gI g 41 (nU N)), (a3, gI g 90 (nQ N)), (a4, gI g 796 (kV K)), (a5, gI g 796 (kH K)), (a6, gI g 796 (kR K)), (v1, gI g 41 (kW K)), (v2, gI g 41 (kS K)), (v3, gI g 41 (kL K)), (v4, gI g 41 (kE K)), (v5, gI g 41 (kX K)), (v6, gI g 41 (kT K)), (ob, .inr (10, [.ref tx, .ref ps, .ref ho, .ref rk, va_rf so])), (rk, .inr (5, [.ref t0, .ref t1, .ref t2, .ref t3, .ref t4, .ref t5, .ref (fS F)])), (o9, gJ g 1 o), (mo, .inr (11, [.ref az, .ref ap, .int (iI n), .ref ak, .int (iI ik), .ref ax, .int (iI tn), .int (iI 2), .ref a1, .ref a2, .int (iI (nN N)), .ref a3, .int (iI (nP N)), .ref a4, .ref a5, .ref a6, .ref v1, .ref v2, .ref v3, .ref v4, .ref v5, .ref v6, .int (iI bn), .int (iI (nWh N)), .int (iI (nD N)), .int (iI (nG N))])), (az, gI g 325 Z)] := hW
  refine W.eq (g2 := F0 m 1081 ls [.int (iI 0)]) rfl ?_
  refine lv_istore (lv' := [(6, .int (iI 0)), (5, .int (iI 2)), (4, .int (iI i)), (3, .ref o9), (2, .ref mo), (1, .ref ob), (0, .ref b0)]) S0.1 S0.2.1 dL_law_1081 hl (by decide) rfl (fun ls hl => ?_)
  refine lv_aload_n S0.1 S0.2.1 dL_law_1083 rfl (lv_at hl 4 rfl) ?_
  refine q_pV (n := 0) (rest := []) S0 hK (c_X11_thrown l g mo az ap ak ax a1 a2 a3 a4 a5 a6 v1 v2 v3 v4 v5 v6 n ik tn 2 (nN N) (nP N) bn (nWh N) (nD N) (nG N)) (subP hW.1.1 [46] rfl) (trivial) gL_law_X11_thrown rfl rfl rfl (by decide +kernel) ⟨Nat.le_of_ble_eq_true rfl, Nat.le_of_ble_eq_true rfl⟩ (q_recv hK hW.1.1 (ci := 11) (q0 := 46) rfl rfl) rfl rfl hl.1 (Nat.le_of_ble_eq_true rfl) ⟨by show _ ≤ (601024 : Nat); omega, by show _ ≤ (7293034 : Nat); omega⟩ dL_law_1084 ?_
  refine W.eq (g2 := F0 m 1087 ls [.int (iI 2)]) rfl ?_
  refine lv_iload S0.1 S0.2.1 dL_law_1087 (lv_at hl 1 rfl) ?_
  refine q_icmp_eq (tgt := 1094) S0 (by omega) dL_law_1089 (by decide) (fun c1089 => ?_) (fun c1089 => ?_)
  · skip
    refine lv_iload S0.1 S0.2.1 dL_law_1094 (lv_at hl 1 rfl) ?_
    refine q_if_ne (tgt := 1111) S0 (by omega) dL_law_1096 (by decide) (fun c1096 => ?_) (fun c1096 => ?_)
    · skip
      refine lv_goto (tgt := 1562) S0.1 S0.2.1 dL_law_1111 (by decide) ?_
      refine W.widen (k := cells + 7) (n := slots + 200) (by omega) (by omega) ?_
      exact kk _ _ ls ⟨Fam, F, r, S, tn, tf, n, f, Fh, so, ik, 2, bn, N, Z, P, Kp, K, o, hW.sub [43, 0, 1, 2, 3, 4, 5, 6, 7, 8, 9, 10, 11, 12, 13, 14, 15, 44, 16, 17, 18, 19, 20, 21, 22, 23, 24, 25, 26, 27, 46, 47, 28, 29, 30, 31, 32, 33, 34, 35, 36, 37, 38, 39, 40, 41, 42, 45] rfl rfl, hI⟩ (lv_sub hl [2, 3, 4, 5, 6] rfl)
    · skip
      exact absurd c1096 (by omega)
  · skip
    exact absurd (rfl) c1089
