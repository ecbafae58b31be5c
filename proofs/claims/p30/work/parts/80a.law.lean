/-! the law's frame between its steps -/
def kq (a b c d : Nat) : Nat → Nat
  | 1 => a
  | 2 => b
  | 3 => c
  | _ => d
def INVp (Fam : FT → Prop) (F : FT) (r : RT) (S : PT) (tn : Int) (tf : Nat → Int) (n : Int) (f : Nat → Option Nat) : Prop :=
  GF F ∧ Fam F ∧ RI F r ∧ WFB (pB S) ∧ (0 ≤ tn ∧ tn ≤ 40) ∧ (∀ j, 0 ≤ tf j ∧ tf j < 65536) ∧ (0 ≤ n ∧ n ≤ 4) ∧ (∀ k : Nat, (k : Int) < n → ∃ v, f k = some v ∧ BsF Fam v)
theorem rec_ok {n : Int} {f : Nat → Option Nat} {Fam Fam' : FT → Prop} {F : FT} (hn : 0 ≤ n ∧ n ≤ 4) (hf : ∀ k : Nat, (k : Int) < n → ∃ v, f k = some v ∧ BsF Fam v) (hF : Fam F) (hi : ∀ G, Fam G → Fam' G) : (0 ≤ (if n < 4 then n + 1 else 4) ∧ (if n < 4 then n + 1 else 4) ≤ 4) ∧ ∀ k : Nat, (k : Int) < (if n < 4 then n + 1 else 4) → ∃ v, rec4 n f (fS F) k = some v ∧ BsF Fam' v := by
  have hb : ∀ v, BsF Fam v → BsF Fam' v := fun v ⟨G, h1, h2⟩ => ⟨G, hi G h1, h2⟩
  refine ⟨by split <;> omega, fun k hk => ?_⟩
  unfold rec4
  by_cases h : n < 4
  · rw [if_pos h] at hk ⊢
    by_cases e : k = n.toNat
    · rw [e, up_s]
      exact ⟨_, rfl, F, hi F hF, rfl⟩
    · rw [up_n e]
      obtain ⟨v, h1, h2⟩ := hf k (by omega)
      exact ⟨v, h1, hb v h2⟩
  · rw [if_neg h] at hk ⊢
    by_cases e : k = 3
    · rw [e, up_s]
      exact ⟨_, rfl, F, hi F hF, rfl⟩
    · rw [up_n e]
      unfold dn3
      rw [if_pos (by omega)]
      obtain ⟨v, h1, h2⟩ := hf (k + 1) (by omega)
      exact ⟨v, h1, hb v h2⟩
theorem WF_cuU : ∀ (k : Nat) (B : BT) (j u : Int), 0 ≤ j → j + k ≤ 40 → WFB B → WFB (cuU k B j u).1
  | 0, _, _, _, _, _, h => h
  | k + 1, B, j, u, h0, hk, h => WF_cuU k (sLike B j) (j + 1) (if flv B j = j then u + 1 else u) (by omega) (by omega) (WF_like h (by omega))
theorem WF_sUn {B : BT} (h : WFB B) : WFB (sUn B) := by
  have h1 := h.1
  exact WF_cuU (bN B).toNat B 0 0 (by omega) (by omega) h
theorem wr_rng2 {k F c e n : Int} {f : Nat → Int} (h : ∀ j, 0 ≤ f j ∧ f j < 65536) (ht : okT k F c e) : ∀ j, 0 ≤ wr (tT k F c e) n f j ∧ wr (tT k F c e) n f j < 65536 := by
  refine wr_rng _ n f h (fun d hd => ?_)
  obtain ⟨hk, hF, hc, he⟩ := ht
  have hk4 : k = 0 ∨ k = 1 ∨ k = 2 ∨ k = 3 := by omega
  rcases hk4 with rfl | rfl | rfl | rfl
  · rw [tT_0] at hd
    simp only [List.mem_cons, List.not_mem_nil, or_false] at hd
    omega
  · rw [tT_1] at hd
    simp only [List.mem_cons, List.not_mem_nil, or_false] at hd
    omega
  · rw [tT_2] at hd
    simp only [List.mem_cons, List.not_mem_nil, or_false] at hd
    omega
  · rw [tT_3] at hd
    simp only [List.mem_cons, List.not_mem_nil, or_false] at hd
    omega
theorem up_rng {f : Nat → Int} {i : Nat} {v : Int} (h : ∀ j, 0 ≤ f j ∧ f j < 65536) (hv : 0 ≤ v ∧ v < 65536) : ∀ j, 0 ≤ up f i v j ∧ up f i v j < 65536 := fun j => by
  by_cases e : j = i
  · rw [e, up_s]; exact hv
  · rw [up_n e]; exact h j
theorem zr_rng {p : Int} (hp : 0 < p) : ∀ j : Nat, 0 ≤ (fun _ : Nat => (0 : Int)) j ∧ (fun _ : Nat => (0 : Int)) j < p := fun _ => ⟨Int.le_refl 0, hp⟩
theorem ok_g (gv : Int) : okT (lo (shr9 gv 12) 4) (lo gv 10) (lo (shr9 gv 4) 10) (lo (shr9 gv 8) 10) := by
  have h1 := lo_r (v := shr9 gv 12) (n := 4) (by omega)
  have h2 := lo_r (v := gv) (n := 10) (by omega)
  have h3 := lo_r (v := shr9 gv 4) (n := 10) (by omega)
  have h4 := lo_r (v := shr9 gv 8) (n := 10) (by omega)
  exact ⟨h1, by omega, by omega, by omega⟩

set_option maxHeartbeats 4000000 in
set_option maxRecDepth 100000 in
theorem law_a {p : Program} {l : Launch} {e : Env} {s : State} {m : MethodId} {below : List Frame} {meth : Method} {c : Code} {H : Heap} {locs : List Loc} {cells slots : Nat} {Q : State → Prop} {ls : Array Slot} {g : GG} {b0 L : Nat} {xs : Nat → Int32} (hC : LC p l s m b0 L xs meth c g) (ee : Int) (he : 0 ≤ ee ∧ ee < 14) (ob tx tc ps b k1 k2 k3 k4 k5 k6 s1 i1 s2 i2 ho ha rk t0 q0 t1 q1 t2 q2 t3 q3 t4 q4 t5 q5 : Nat) (F : FT) (Fam : FT → Prop) (r : RT) (S : PT) (tn : Int) (tf : Nat → Int) (n : Int) (f : Nat → Option Nat) (hI : INVp Fam F r S tn tf n f) (hW : gLw g Fam (fun q => s.heap.size ≤ q) s.heap H locs [(ob, .inr (10, [.ref tx, .ref ps, .ref ho, .ref rk, .null])), (tx, .inr (9, [.ref tc, .int (iI tn)])), (tc, gC g 40 tf), (ps, .inr (4, [.ref b, .int (iI (pA S)), .int (iI (pO S)), .int (iI (pM S))])), (b, .inr (0, [.ref k1, .ref k2, .ref k3, .ref k4, .ref k5, .ref k6, .int (iI (bN (pB S))), .int (iI (bZ (pB S))), .ref s1, .ref s2])), (k1, gI g 40 (bK (pB S))), (k2, gI g 40 (bU (pB S))), (k3, gI g 40 (bL (pB S))), (k4, gI g 40 (bV (pB S))), (k5, gI g 40 (bD (pB S))), (k6, gI g 40 (bE (pB S))), (s1, .inr (3, [.ref i1, .int (iI (lP (pB S)))])), (i1, gI g 40 (lQ (pB S))), (s2, .inr (3, [.ref i2, .int (iI (wP (pB S)))])), (i2, gI g 40 (wQ (pB S))), (ho, .inr (2, [.ref ha, .int (iI n)])), (ha, gR g 4 f), (rk, .inr (5, [.ref t0, .ref t1, .ref t2, .ref t3, .ref t4, .ref t5, .ref (fS F)])), (t0, .inr (8, [.int (iI 199), .ref q0])), (q0, gI g 796 (rV r)), (t1, .inr (8, [.int (iI 199), .ref q1])), (q1, gI g 796 (rH r)), (t2, .inr (8, [.int (iI 199), .ref q2])), (q2, gI g 796 (rR r)), (t3, .inr (8, [.int (iI 40), .ref q3])), (q3, gI g 160 (nV r)), (t4, .inr (8, [.int (iI 40), .ref q4])), (q4, gI g 160 (nS r)), (t5, .inr (8, [.int (iI 40), .ref q5])), (q5, gI g 160 (nW r))]) (hl : lv_has ls 12 [(3, .int (iI ee)), (2, .int (iI (fP F))), (1, .ref ob), (0, .ref b0)]) (hR : cells + 20 ≤ 600000 ∧ slots + 600 ≤ 7300000) (kk : ∀ (H1 : Heap) (locs1 : List Loc) (ls1 : Array Slot) (F1 : FT) (gv : Int) (aa bb : Nat) (Fam : FT → Prop) (r : RT) (S : PT) (tn : Int) (tf : Nat → Int) (n : Int) (f : Nat → Option Nat), gLw g Fam (fun q => s.heap.size ≤ q) s.heap H1 locs1 [(ob, .inr (10, [.ref tx, .ref ps, .ref ho, .ref rk, .null])), (tx, .inr (9, [.ref tc, .int (iI tn)])), (tc, gC g 40 tf), (ps, .inr (4, [.ref b, .int (iI (pA S)), .int (iI (pO S)), .int (iI (pM S))])), (b, .inr (0, [.ref k1, .ref k2, .ref k3, .ref k4, .ref k5, .ref k6, .int (iI (bN (pB S))), .int (iI (bZ (pB S))), .ref s1, .ref s2])), (k1, gI g 40 (bK (pB S))), (k2, gI g 40 (bU (pB S))), (k3, gI g 40 (bL (pB S))), (k4, gI g 40 (bV (pB S))), (k5, gI g 40 (bD (pB S))), (k6, gI g 40 (bE (pB S))), (s1, .inr (3, [.ref i1, .int (iI (lP (pB S)))])), (i1, gI g 40 (lQ (pB S))), (s2, .inr (3, [.ref i2, .int (iI (wP (pB S)))])), (i2, gI g 40 (wQ (pB S))), (ho, .inr (2, [.ref ha, .int (iI n)])), (ha, gR g 4 f), (rk, .inr (5, [.ref t0, .ref t1, .ref t2, .ref t3, .ref t4, .ref t5, .ref (fS F1)])), (t0, .inr (8, [.int (iI 199), .ref q0])), (q0, gI g 796 (rV r)), (t1, .inr (8, [.int (iI 199), .ref q1])), (q1, gI g 796 (rH r)), (t2, .inr (8, [.int (iI 199), .ref q2])), (q2, gI g 796 (rR r)), (t3, .inr (8, [.int (iI 40), .ref q3])), (q3, gI g 160 (nV r)), (t4, .inr (8, [.int (iI 40), .ref q4])), (q4, gI g 160 (nS r)), (t5, .inr (8, [.int (iI 40), .ref q5])), (q5, gI g 160 (nW r)), (aa, gI g 40 (fun _ => 0)), (bb, gI g 40 (fun _ => 0))] → INVp Fam F1 r S tn tf n f → 2 ≤ fP F1 ∧ fP F1 ≤ 61 → lv_has ls1 12 [(7, .int (iI (fP F1))), (6, .ref bb), (5, .ref aa), (4, .int (iI gv)), (3, .int (iI ee)), (2, .int (iI (fP F))), (1, .ref ob), (0, .ref b0)] → W p l e room_1 s m #[.ref b0] below meth c H1 locs1 (cells + 4) (slots + 86) Q (F0 m 59 ls1 [])) : W p l e room_1 s m #[.ref b0] below meth c H locs cells slots Q (F0 m 19 ls []) := by
  have S0 := hC.1
  have hK := hC.2.2.2.2.1
  have hL8 := hC.2.2.2.2.2
  have hA : ∀ q : Nat, s.heap.size ≤ q → (fun q : Nat => s.heap.size ≤ q) q := fun _ h => h
  obtain ⟨hG, hFam, hRI, hB, ht, htf, hn4, hf9⟩ := id hI
  have hpr := GF_p hG
  have hZf : ∀ q, ¬ fzF Fam q → ¬ fzF Fam q := fun _ h => h
  have hZA : ∀ q, ¬ fzF Fam q → ¬ fzA F q := fun q hq hz => hq ⟨F, hFam, hz⟩
  have hinX10 := inlX10
  refine lv_aload_n S0.1 S0.2.1 dL_law_19 rfl (lv_at hl 3 rfl) ?_
  refine q_iconst S0 dL_law_20 ?_
  refine lv_iload_n S0.1 S0.2.1 dL_law_21 rfl (lv_at hl 0 rfl) ?_
  refine q_imul S0 dL_law_22 ?_
  refine q_cell hC hW.1.2.2 (by omega) gL_law_L_cell hl.1 (Nat.le_of_ble_eq_true rfl) dL_law_23 ⟨by omega, by omega⟩ ?_
  refine W.eq (g2 := F0 m 26 ls [.int (iI (cel L xs (4 * ee)))]) rfl ?_
  refine q_nm (fun gv hgv => ?_)
  refine lv_istore (lv' := [(4, .int (iI gv)), (3, .int (iI ee)), (2, .int (iI (fP F))), (1, .ref ob), (0, .ref b0)]) S0.1 S0.2.1 dL_law_26 hl (by decide) rfl (fun ls hl => ?_)
  refine q_bipush S0 (by decide) dL_law_28 ?_
  refine q_lnewI (N := 40) S0 hK hA hW (List.mem_of_getElem? (i := 3) rfl) (by omega) (by show _ ≤ (600130 : Nat); omega) (by show _ ≤ (7301080 : Nat); omega) dL_law_30 (fun aa H hW => ?_)
  have hW : gLw g Fam (fun q => s.heap.size ≤ q) s.heap H _ [(ob, .inr (10, [.ref tx, .ref ps, .ref ho, .ref rk, .null])), (tx, .inr (9, [.ref tc, .int (iI tn)])), (tc, gC g 40 tf), (ps, .inr (4, [.ref b, .int (iI (pA S)), .int (iI (pO S)), .int (iI (pM S))])), (b, .inr (0, [.ref k1, .ref k2, .ref k3, .ref k4, .ref k5, .ref k6, .int (iI (bN (pB S))), .int (iI (bZ (pB S))), .ref s1, .ref s2])), (k1, gI g 40 (bK (pB S))), (k2, gI g 40 (bU (pB S))), (k3, gI g 40 (bL (pB S))), (k4, gI g 40 (bV (pB S))), (k5, gI g 40 (bD (pB S))), (k6, gI g 40 (bE (pB S))), (s1, .inr (3, [.ref i1, .int (iI (lP (pB S)))])), (i1, gI g 40 (lQ (pB S))), (s2, .inr (3, [.ref i2, .int (iI (wP (pB S)))])), (i2, gI g 40 (wQ (pB S))), (ho, .inr (2, [.ref ha, .int (iI n)])), (ha, gR g 4 f), (rk, .inr (5, [.ref t0, .ref t1, .ref t2, .ref t3, .ref t4, .ref t5, .ref (fS F)])), (t0, .inr (8, [.int (iI 199), .ref q0])), (q0, gI g 796 (rV r)), (t1, .inr (8, [.int (iI 199), .ref q1])), (q1, gI g 796 (rH r)), (t2, .inr (8, [.int (iI 199), .ref q2])), (q2, gI g 796 (rR r)), (t3, .inr (8, [.int (iI 40), .ref q3])), (q3, gI g 160 (nV r)), (t4, .inr (8, [.int (iI 40), .ref q4])), (q4, gI g 160 (nS r)), (t5, .inr (8, [.int (iI 40), .ref q5])), (q5, gI g 160 (nW r)), (aa, gI g 40 (fun _ => 0))] := hW
  refine lv_astore (lv' := [(5, .ref aa), (4, .int (iI gv)), (3, .int (iI ee)), (2, .int (iI (fP F))), (1, .ref ob), (0, .ref b0)]) S0.1 S0.2.1 dL_law_32 hl (by decide) rfl (fun ls hl => ?_)
  refine q_bipush S0 (by decide) dL_law_34 ?_
  refine q_lnewI (N := 40) S0 hK hA hW (List.mem_of_getElem? (i := 3) rfl) (by omega) (by show _ ≤ (600130 : Nat); omega) (by show _ ≤ (7301080 : Nat); omega) dL_law_36 (fun bb H hW => ?_)
  have hW : gLw g Fam (fun q => s.heap.size ≤ q) s.heap H _ [(ob, .inr (10, [.ref tx, .ref ps, .ref ho, .ref rk, .null])), (tx, .inr (9, [.ref tc, .int (iI tn)])), (tc, gC g 40 tf), (ps, .inr (4, [.ref b, .int (iI (pA S)), .int (iI (pO S)), .int (iI (pM S))])), (b, .inr (0, [.ref k1, .ref k2, .ref k3, .ref k4, .ref k5, .ref k6, .int (iI (bN (pB S))), .int (iI (bZ (pB S))), .ref s1, .ref s2])), (k1, gI g 40 (bK (pB S))), (k2, gI g 40 (bU (pB S))), (k3, gI g 40 (bL (pB S))), (k4, gI g 40 (bV (pB S))), (k5, gI g 40 (bD (pB S))), (k6, gI g 40 (bE (pB S))), (s1, .inr (3, [.ref i1, .int (iI (lP (pB S)))])), (i1, gI g 40 (lQ (pB S))), (s2, .inr (3, [.ref i2, .int (iI (wP (pB S)))])), (i2, gI g 40 (wQ (pB S))), (ho, .inr (2, [.ref ha, .int (iI n)])), (ha, gR g 4 f), (rk, .inr (5, [.ref t0, .ref t1, .ref t2, .ref t3, .ref t4, .ref t5, .ref (fS F)])), (t0, .inr (8, [.int (iI 199), .ref q0])), (q0, gI g 796 (rV r)), (t1, .inr (8, [.int (iI 199), .ref q1])), (q1, gI g 796 (rH r)), (t2, .inr (8, [.int (iI 199), .ref q2])), (q2, gI g 796 (rR r)), (t3, .inr (8, [.int (iI 40), .ref q3])), (q3, gI g 160 (nV r)), (t4, .inr (8, [.int (iI 40), .ref q4])), (q4, gI g 160 (nS r)), (t5, .inr (8, [.int (iI 40), .ref q5])), (q5, gI g 160 (nW r)), (aa, gI g 40 (fun _ => 0)), (bb, gI g 40 (fun _ => 0))] := hW
  refine lv_astore (lv' := [(6, .ref bb), (5, .ref aa), (4, .int (iI gv)), (3, .int (iI ee)), (2, .int (iI (fP F))), (1, .ref ob), (0, .ref b0)]) S0.1 S0.2.1 dL_law_38 hl (by decide) rfl (fun ls hl => ?_)
  refine lv_iload S0.1 S0.2.1 dL_law_40 (lv_at hl 2 rfl) ?_
  refine q_pS (n := 1) (rest := []) S0 hK (c_L_prime l g gv) (subP hW.1.1 [] rfl) (trivial) gL_law_L_prime rfl rfl rfl (by decide +kernel) ⟨Nat.le_of_ble_eq_true rfl, Nat.le_of_ble_eq_true rfl⟩ rfl rfl hl.1 (Nat.le_of_ble_eq_true rfl) ⟨by show _ ≤ (600130 : Nat); omega, by show _ ≤ (7301080 : Nat); omega⟩ dL_law_42 ?_
  refine W.eq (g2 := F0 m 45 ls [.int (iI (pri9 60 (2 + lo gv 60)))]) rfl ?_
  refine q_nm (fun np hnp => ?_)
  have hlo60 := lo_r (v := gv) (n := 60) (by omega)
  have hnp2 := pri_ok (n := 2 + lo gv 60) (by omega)
  rw [← hnp] at hnp2
  refine lv_istore (lv' := [(7, .int (iI np)), (6, .ref bb), (5, .ref aa), (4, .int (iI gv)), (3, .int (iI ee)), (2, .int (iI (fP F))), (1, .ref ob), (0, .ref b0)]) S0.1 S0.2.1 dL_law_45 hl (by decide) rfl (fun ls hl => ?_)
  refine lv_aload_n S0.1 S0.2.1 dL_law_47 rfl (lv_at hl 6 rfl) ?_
  refine lv_iload S0.1 S0.2.1 dL_law_48 (lv_at hl 0 rfl) ?_
  refine q_lSw (n := 2) (rest := []) (wr := [(tx, .inr (9, [.ref tc, .int (iI tn)])), (tc, gC g 40 tf), (ps, .inr (4, [.ref b, .int (iI (pA S)), .int (iI (pO S)), .int (iI (pM S))])), (b, .inr (0, [.ref k1, .ref k2, .ref k3, .ref k4, .ref k5, .ref k6, .int (iI (bN (pB S))), .int (iI (bZ (pB S))), .ref s1, .ref s2])), (k1, gI g 40 (bK (pB S))), (k2, gI g 40 (bU (pB S))), (k3, gI g 40 (bL (pB S))), (k4, gI g 40 (bV (pB S))), (k5, gI g 40 (bD (pB S))), (k6, gI g 40 (bE (pB S))), (s1, .inr (3, [.ref i1, .int (iI (lP (pB S)))])), (i1, gI g 40 (lQ (pB S))), (s2, .inr (3, [.ref i2, .int (iI (wP (pB S)))])), (i2, gI g 40 (wQ (pB S))), (aa, gI g 40 (fun _ => 0)), (bb, gI g 40 (fun _ => 0))]) S0 hK hA hW (c_L_modulus l g ob tx ps ho none ha n f F rk t0 q0 t1 q1 t2 q2 t3 q3 t4 q4 t5 q5 r Fam np (hn4) (hf9) (hFam) (by omega) (hnp2.2)) gL_law_L_modulus rfl rfl rfl (by decide +kernel) ⟨Nat.le_of_ble_eq_true rfl, Nat.le_of_ble_eq_true rfl⟩ [0, 15, 16, 17, 18, 19, 20, 21, 22, 23, 24, 25, 26, 27, 28, 29] [1, 2, 3, 4, 5, 6, 7, 8, 9, 10, 11, 12, 13, 14, 30, 31] rfl rfl rfl rfl (by decide) (hZf) (hW.2.2) rfl rfl hl.1 (Nat.le_of_ble_eq_true rfl) ⟨by show _ ≤ (600130 : Nat); omega, by show _ ≤ (7301080 : Nat); omega⟩ dL_law_50 ?_
  rintro ⟨sb, rb⟩ H locs _ hW
  have hW : gLw g Fam (fun q => s.heap.size ≤ q) s.heap H _ [(tx, .inr (9, [.ref tc, .int (iI tn)])), (tc, gC g 40 tf), (ps, .inr (4, [.ref b, .int (iI (pA S)), .int (iI (pO S)), .int (iI (pM S))])), (b, .inr (0, [.ref k1, .ref k2, .ref k3, .ref k4, .ref k5, .ref k6, .int (iI (bN (pB S))), .int (iI (bZ (pB S))), .ref s1, .ref s2])), (k1, gI g 40 (bK (pB S))), (k2, gI g 40 (bU (pB S))), (k3, gI g 40 (bL (pB S))), (k4, gI g 40 (bV (pB S))), (k5, gI g 40 (bD (pB S))), (k6, gI g 40 (bE (pB S))), (s1, .inr (3, [.ref i1, .int (iI (lP (pB S)))])), (i1, gI g 40 (lQ (pB S))), (s2, .inr (3, [.ref i2, .int (iI (wP (pB S)))])), (i2, gI g 40 (wQ (pB S))), (aa, gI g 40 (fun _ => 0)), (bb, gI g 40 (fun _ => 0)), (ob, .inr (10, [.ref tx, .ref ps, .ref ho, .ref rk, va_rf none])), (ho, .inr (2, [.ref ha, .int (iI (if n < 4 then n + 1 else 4))])), (ha, gR g 4 (rec4 n f (fS F))), (rk, .inr (5, [.ref t0, .ref t1, .ref t2, .ref t3, .ref t4, .ref t5, .ref sb])), (t0, .inr (8, [.int (iI 199), .ref q0])), (q0, gI g 796 (rV ((mkR (fillf 796 (-2) (rV r)) (fillf 796 (-2) (rH r)) (fillf 796 (-2) (rR r)) (nV r) (nS r) (nW r))))), (t1, .inr (8, [.int (iI 199), .ref q1])), (q1, gI g 796 (rH ((mkR (fillf 796 (-2) (rV r)) (fillf 796 (-2) (rH r)) (fillf 796 (-2) (rR r)) (nV r) (nS r) (nW r))))), (t2, .inr (8, [.int (iI 199), .ref q2])), (q2, gI g 796 (rR ((mkR (fillf 796 (-2) (rV r)) (fillf 796 (-2) (rH r)) (fillf 796 (-2) (rR r)) (nV r) (nS r) (nW r))))), (t3, .inr (8, [.int (iI 40), .ref q3])), (q3, gI g 160 (nV ((mkR (fillf 796 (-2) (rV r)) (fillf 796 (-2) (rH r)) (fillf 796 (-2) (rR r)) (nV r) (nS r) (nW r))))), (t4, .inr (8, [.int (iI 40), .ref q4])), (q4, gI g 160 (nS ((mkR (fillf 796 (-2) (rV r)) (fillf 796 (-2) (rH r)) (fillf 796 (-2) (rR r)) (nV r) (nS r) (nW r))))), (t5, .inr (8, [.int (iI 40), .ref q5])), (q5, gI g 160 (nW ((mkR (fillf 796 (-2) (rV r)) (fillf 796 (-2) (rH r)) (fillf 796 (-2) (rR r)) (nV r) (nS r) (nW r))))), (sb, .inr (7, [.ref rb, .ref (fX F 0), .ref (fX F 1), .ref (fX F 2), .ref (fX F 3)])), (rb, .inr (6, [.int (iI np)]))] := hW
  refine W.eq (g2 := F0 m 53 ls [.int (iI (fP F))]) rfl ?_
  refine lv_iload_n S0.1 S0.2.1 dL_law_53 rfl (lv_at hl 5 rfl) ?_
  refine q_icmp_eq (tgt := 59) S0 (by omega) dL_law_54 (by decide) (fun c54 => ?_) (fun c54 => ?_)
  · skip
    have hrc := rec_ok (Fam' := (fun G => Fam G ∨ G = setP F sb rb np)) hn4 hf9 hFam (fun _ h => Or.inl h)
    have hGn := GF_setP (F := F) (sb := sb) (rb := rb) hG (prU_PRM hnp2.2 (by omega))
    have hfz := gLw_freeze (wk := [(ob, .inr (10, [.ref tx, .ref ps, .ref ho, .ref rk, va_rf none])), (tx, .inr (9, [.ref tc, .int (iI tn)])), (tc, gC g 40 tf), (ps, .inr (4, [.ref b, .int (iI (pA S)), .int (iI (pO S)), .int (iI (pM S))])), (b, .inr (0, [.ref k1, .ref k2, .ref k3, .ref k4, .ref k5, .ref k6, .int (iI (bN (pB S))), .int (iI (bZ (pB S))), .ref s1, .ref s2])), (k1, gI g 40 (bK (pB S))), (k2, gI g 40 (bU (pB S))), (k3, gI g 40 (bL (pB S))), (k4, gI g 40 (bV (pB S))), (k5, gI g 40 (bD (pB S))), (k6, gI g 40 (bE (pB S))), (s1, .inr (3, [.ref i1, .int (iI (lP (pB S)))])), (i1, gI g 40 (lQ (pB S))), (s2, .inr (3, [.ref i2, .int (iI (wP (pB S)))])), (i2, gI g 40 (wQ (pB S))), (ho, .inr (2, [.ref ha, .int (iI (if n < 4 then n + 1 else 4))])), (ha, gR g 4 (rec4 n f (fS F))), (rk, .inr (5, [.ref t0, .ref t1, .ref t2, .ref t3, .ref t4, .ref t5, .ref sb])), (t0, .inr (8, [.int (iI 199), .ref q0])), (q0, gI g 796 (rV ((mkR (fillf 796 (-2) (rV r)) (fillf 796 (-2) (rH r)) (fillf 796 (-2) (rR r)) (nV r) (nS r) (nW r))))), (t1, .inr (8, [.int (iI 199), .ref q1])), (q1, gI g 796 (rH ((mkR (fillf 796 (-2) (rV r)) (fillf 796 (-2) (rH r)) (fillf 796 (-2) (rR r)) (nV r) (nS r) (nW r))))), (t2, .inr (8, [.int (iI 199), .ref q2])), (q2, gI g 796 (rR ((mkR (fillf 796 (-2) (rV r)) (fillf 796 (-2) (rH r)) (fillf 796 (-2) (rR r)) (nV r) (nS r) (nW r))))), (t3, .inr (8, [.int (iI 40), .ref q3])), (q3, gI g 160 (nV ((mkR (fillf 796 (-2) (rV r)) (fillf 796 (-2) (rH r)) (fillf 796 (-2) (rR r)) (nV r) (nS r) (nW r))))), (t4, .inr (8, [.int (iI 40), .ref q4])), (q4, gI g 160 (nS ((mkR (fillf 796 (-2) (rV r)) (fillf 796 (-2) (rH r)) (fillf 796 (-2) (rR r)) (nV r) (nS r) (nW r))))), (t5, .inr (8, [.int (iI 40), .ref q5])), (q5, gI g 160 (nW ((mkR (fillf 796 (-2) (rV r)) (fillf 796 (-2) (rH r)) (fillf 796 (-2) (rR r)) (nV r) (nS r) (nW r))))), (aa, gI g 40 (fun _ => 0)), (bb, gI g 40 (fun _ => 0))]) (wn := [(sb, .inr (7, [.ref rb, .ref (fX F 0), .ref (fX F 1), .ref (fX F 2), .ref (fX F 3)])), (rb, .inr (6, [.int (iI np)]))]) (F' := setP F sb rb np) hW [16, 0, 1, 2, 3, 4, 5, 6, 7, 8, 9, 10, 11, 12, 13, 17, 18, 19, 20, 21, 22, 23, 24, 25, 26, 27, 28, 29, 30, 31, 14, 15] [32, 33] rfl rfl rfl (by decide) hFam (FX_setP (hW.2.2 F hFam) (subP hW.1.1 [32, 33] rfl)) (fun q h => (fzA_setP h).elim Or.inl (fun y => by rcases y with rfl | rfl; exact Or.inr ⟨_, List.mem_of_getElem? (i := 0) rfl⟩; exact Or.inr ⟨_, List.mem_of_getElem? (i := 1) rfl⟩))
    refine W.widen (k := cells + 4) (n := slots + 86) (by omega) (by omega) ?_
    exact kk _ _ ls (setP F sb rb np) gv aa bb (fun G => Fam G ∨ G = setP F sb rb np) (mkR (fillf 796 (-2) (rV r)) (fillf 796 (-2) (rH r)) (fillf 796 (-2) (rR r)) (nV r) (nS r) (nW r)) S tn tf (if n < 4 then n + 1 else 4) (rec4 n f (fS F)) hfz ⟨hGn, Or.inr rfl, RI_fresh hGn.1.2.1, hB, ht, htf, hrc.1, hrc.2⟩ hnp2.1 (lv_sub hl [0, 1, 2, 3, 4, 5, 6, 7] rfl)
  · skip
    exact absurd rfl c54
