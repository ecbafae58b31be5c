/-! a term of the law's -/
/-- two rows added, up to place i -/
def adk (p s : Int) (f g : Nat → Int) (i : Int) : Nat → Int := fun j => if (j : Int) < i ∧ j < 40 then (f j + (if s = 0 then g j else -g j)) % p else f j
theorem adk_0 {p s : Int} {f g : Nat → Int} : adk p s f g 0 = f := by
  funext j
  unfold adk
  rw [if_neg (by omega)]
theorem adk_e {p s : Int} {f g : Nat → Int} : adk p s f g 40 = addr p s f g := by
  funext j
  unfold adk addr
  by_cases h : j < 40
  · rw [if_pos (by omega), if_pos h]
  · rw [if_neg (by omega), if_neg h]
theorem adk_at {p s i : Int} {f g : Nat → Int} (h : 0 ≤ i) : adk p s f g i i.toNat = f i.toNat := by
  unfold adk
  rw [if_neg (by omega)]
theorem adk_s {p s i z : Int} {f g : Nat → Int} (h : 0 ≤ i ∧ i < 40) (hz : z = if s = 0 then g i.toNat else -g i.toNat) : up (adk p s f g i) i.toNat ((f i.toNat + z) % p) = adk p s f g (i + 1) := by
  funext j
  by_cases e : j = i.toNat
  · rw [e, up_s, hz]
    unfold adk
    rw [if_pos (show ((i.toNat : Nat) : Int) < i + 1 ∧ i.toNat < 40 by omega)]
  · rw [up_n e]
    unfold adk
    by_cases y : (j : Int) < i ∧ j < 40
    · rw [if_pos y, if_pos (show (j : Int) < i + 1 ∧ j < 40 by omega)]
    · rw [if_neg y, if_neg (show ¬ ((j : Int) < i + 1 ∧ j < 40) by omega)]
theorem neg9_a {k e less : Int} (h : k = 2 ∧ e % 2 = 1) : neg9 k e less = if less = 1 then 0 else 1 := by
  unfold neg9
  rw [if_pos h]
theorem neg9_b {k e less : Int} (h : ¬ (k = 2 ∧ e % 2 = 1)) : neg9 k e less = if less = 0 then 0 else 1 := by
  unfold neg9
  rw [if_neg h]
theorem neg9_r {k e less : Int} : neg9 k e less = 0 ∨ neg9 k e less = 1 := by
  by_cases h : k = 2 ∧ e % 2 = 1
  · rw [neg9_a h]
    split
    · exact Or.inl rfl
    · exact Or.inr rfl
  · rw [neg9_b h]
    split
    · exact Or.inl rfl
    · exact Or.inr rfl
theorem r0_rng {p F : Int} (hp : 0 < p) : ∀ j, 0 ≤ (up (fun _ => 0) 0 (F % p) : Nat → Int) j ∧ (up (fun _ => 0) 0 (F % p) : Nat → Int) j < p := fun j => by
  by_cases e : j = 0
  · rw [e, up_s]; exact emod_rng _ hp
  · rw [up_n e]; omega
theorem up_rg {p x : Int} {f : Nat → Int} {k : Nat} (h : ∀ j, 0 ≤ f j ∧ f j < p) (hx : 0 ≤ x ∧ x < p) : ∀ j, 0 ≤ up f k x j ∧ up f k x j < p := fun j => by
  by_cases e : j = k
  · rw [e, up_s]; exact hx
  · rw [up_n e]; exact h j
theorem addr_rng {p s : Int} {f g : Nat → Int} (hp : 0 < p) (h : ∀ j, 0 ≤ f j ∧ f j < p) : ∀ j, 0 ≤ addr p s f g j ∧ addr p s f g j < p := fun j => by
  unfold addr
  split
  · exact emod_rng _ hp
  · exact h j

set_option maxHeartbeats 4000000 in
set_option maxRecDepth 100000 in
theorem c_L_term_0 (l : Launch) (g : GG) (ob tx ps ho : Nat) (so : Option Nat) (rk : Nat) (tc : Nat) (tn : Int) (tf : Nat → Int) (gv less : Int) (aq : Nat) (a : Nat → Int) (pr F9 c9 e9 : Int) (hpr : 2 ≤ pr ∧ pr ≤ 61) (hless : less = 0 ∨ less = 1) (htn : 0 ≤ tn ∧ tn ≤ 31) (ha : ∀ j, 0 ≤ a j ∧ a j < pr) (hF : lo gv 10 = F9) (hc9 : lo (shr9 gv 4) 10 = c9) (he9 : lo (shr9 gv 8) 10 = e9) (hk9 : lo (shr9 gv 12) 4 = 0) : qMet l yL_term wsL_term ({ frames := 3, cells := 1, slots := 40, locals := 90 }) g [.ref ob, .int (iI gv), .int (iI less), .ref aq, .int (iI pr)] [(ob, .inr (10, [.ref tx, .ref ps, .ref ho, .ref rk, va_rf so])), (tx, .inr (9, [.ref tc, .int (iI tn)])), (tc, gC g 40 tf), (aq, gI g 40 a)] (fun _ => True) (fun _ => True) (S := Unit) (fun _ => some (.int (iI 3))) (fun _ => [(ob, .inr (10, [.ref tx, .ref ps, .ref ho, .ref rk, va_rf so])), (tx, .inr (9, [.ref tc, .int (iI (((tn + 1) + 1) + 1))])), (tc, gC g 40 (wr [48 + F9, 42, 48 + c9] tn tf)), (aq, gI g 40 (addr pr (neg9 0 e9 less) a (up (up (fun _ => 0) 0 (F9 % pr)) 0 (F9 * c9 % pr))))]) (fun _ => True) 1 40 := by
  refine q_ofW (cc := cL_term) (maxL := 13) (ret := (some .int)) (fun sz h => h.self) (by decide) rfl (Nat.le_of_ble_eq_true rfl) ?_
  intro p e s m args below meth c A ls S0 hr hlocks hnme hK hA hAe hW hD0 hX hl
  have hW : gW g A s.heap s.heap [] [(ob, .inr (10, [.ref tx, .ref ps, .ref ho, .ref rk, va_rf so])), (tx, .inr (9, [.ref tc, .int (iI tn)])), (tc, gC g 40 tf), (aq, gI g 40 a)] := hW
  have hl : lv_has ls 13 [(0, .ref ob), (1, .int (iI gv)), (2, .int (iI less)), (3, .ref aq), (4, .int (iI pr))] := hl
  have hFr := lo_r (v := gv) (n := 10) (by omega)
  rw [hF] at hFr
  have hcr := lo_r (v := shr9 gv 4) (n := 10) (by omega)
  rw [hc9] at hcr
  have her := lo_r (v := shr9 gv 8) (n := 10) (by omega)
  rw [he9] at her
  have hb0 := r0_rng (p := pr) (F := F9) (by omega)
  have hB9 : ∀ j, 0 ≤ (up (up (fun _ => 0) 0 (F9 % pr)) 0 (F9 * c9 % pr)) j ∧ (up (up (fun _ => 0) 0 (F9 % pr)) 0 (F9 * c9 % pr)) j < pr := up_rg hb0 (emod_rng _ (by omega))
  refine q_bipush S0 (by decide) dL_term_0 ?_
  refine q_newI (N := 40) S0 hK hA hW (List.mem_of_getElem? (i := 1) rfl) (by omega) (Nat.le_of_ble_eq_true rfl) (Nat.le_of_ble_eq_true rfl) dL_term_2 (fun bq H hW => ?_)
  have hW : gW g A s.heap H _ [(ob, .inr (10, [.ref tx, .ref ps, .ref ho, .ref rk, va_rf so])), (tx, .inr (9, [.ref tc, .int (iI tn)])), (tc, gC g 40 tf), (aq, gI g 40 a), (bq, gI g 40 (fun _ => 0))] := hW
  refine lv_astore (lv' := [(5, .ref bq), (0, .ref ob), (1, .int (iI gv)), (2, .int (iI less)), (3, .ref aq), (4, .int (iI pr))]) S0.1 S0.2.1 dL_term_4 hl (by decide) rfl (fun ls hl => ?_)
  refine lv_iload_n S0.1 S0.2.1 dL_term_6 rfl (lv_at hl 2 rfl) ?_
  refine q_bipush S0 (by decide) dL_term_7 ?_
  refine q_pS (n := 2) (rest := []) S0 hK (c_L_low l g gv 10 (by omega)) (subP hW.1 [] rfl) (trivial) gL_term_L_low rfl rfl rfl (by decide +kernel) ⟨Nat.le_of_ble_eq_true rfl, Nat.le_of_ble_eq_true rfl⟩ rfl rfl hl.1 (Nat.le_of_ble_eq_true rfl) ⟨Nat.le_of_ble_eq_true rfl, Nat.le_of_ble_eq_true rfl⟩ dL_term_9 ?_
  refine W.eq (g2 := F0 m 12 ls [.int (iI (lo gv 10))]) rfl ?_
  refine q_topI (b := F9) (hF) ?_
  refine lv_istore (lv' := [(6, .int (iI F9)), (5, .ref bq), (0, .ref ob), (1, .int (iI gv)), (2, .int (iI less)), (3, .ref aq), (4, .int (iI pr))]) S0.1 S0.2.1 dL_term_12 hl (by decide) rfl (fun ls hl => ?_)
  refine lv_iload_n S0.1 S0.2.1 dL_term_14 rfl (lv_at hl 3 rfl) ?_
  refine q_iconst S0 dL_term_15 ?_
  refine lv_ishr S0.1 S0.2.1 dL_term_16 ?_
  refine q_top (w := .int (iI (shr9 gv 4))) (congrArg Value.int (iI_of _)) ?_
  refine q_bipush S0 (by decide) dL_term_17 ?_
  refine q_pS (n := 2) (rest := []) S0 hK (c_L_low l g (shr9 gv 4) 10 (by omega)) (subP hW.1 [] rfl) (trivial) gL_term_L_low rfl rfl rfl (by decide +kernel) ⟨Nat.le_of_ble_eq_true rfl, Nat.le_of_ble_eq_true rfl⟩ rfl rfl hl.1 (Nat.le_of_ble_eq_true rfl) ⟨Nat.le_of_ble_eq_true rfl, Nat.le_of_ble_eq_true rfl⟩ dL_term_19 ?_
  refine W.eq (g2 := F0 m 22 ls [.int (iI (lo (shr9 gv 4) 10))]) rfl ?_
  refine q_topI (b := c9) (hc9) ?_
  refine lv_istore (lv' := [(7, .int (iI c9)), (6, .int (iI F9)), (5, .ref bq), (0, .ref ob), (1, .int (iI gv)), (2, .int (iI less)), (3, .ref aq), (4, .int (iI pr))]) S0.1 S0.2.1 dL_term_22 hl (by decide) rfl (fun ls hl => ?_)
  refine lv_iload_n S0.1 S0.2.1 dL_term_24 rfl (lv_at hl 4 rfl) ?_
  refine q_bipush S0 (by decide) dL_term_25 ?_
  refine lv_ishr S0.1 S0.2.1 dL_term_27 ?_
  refine q_top (w := .int (iI (shr9 gv 8))) (congrArg Value.int (iI_of _)) ?_
  refine q_bipush S0 (by decide) dL_term_28 ?_
  refine q_pS (n := 2) (rest := []) S0 hK (c_L_low l g (shr9 gv 8) 10 (by omega)) (subP hW.1 [] rfl) (trivial) gL_term_L_low rfl rfl rfl (by decide +kernel) ⟨Nat.le_of_ble_eq_true rfl, Nat.le_of_ble_eq_true rfl⟩ rfl rfl hl.1 (Nat.le_of_ble_eq_true rfl) ⟨Nat.le_of_ble_eq_true rfl, Nat.le_of_ble_eq_true rfl⟩ dL_term_30 ?_
  refine W.eq (g2 := F0 m 33 ls [.int (iI (lo (shr9 gv 8) 10))]) rfl ?_
  refine q_topI (b := e9) (he9) ?_
  refine lv_istore (lv' := [(8, .int (iI e9)), (7, .int (iI c9)), (6, .int (iI F9)), (5, .ref bq), (0, .ref ob), (1, .int (iI gv)), (2, .int (iI less)), (3, .ref aq), (4, .int (iI pr))]) S0.1 S0.2.1 dL_term_33 hl (by decide) rfl (fun ls hl => ?_)
  refine lv_iload_n S0.1 S0.2.1 dL_term_35 rfl (lv_at hl 5 rfl) ?_
  refine q_bipush S0 (by decide) dL_term_36 ?_
  refine lv_ishr S0.1 S0.2.1 dL_term_38 ?_
  refine q_top (w := .int (iI (shr9 gv 12))) (congrArg Value.int (iI_of _)) ?_
  refine q_iconst S0 dL_term_39 ?_
  refine q_pS (n := 2) (rest := []) S0 hK (c_L_low l g (shr9 gv 12) 4 (by omega)) (subP hW.1 [] rfl) (trivial) gL_term_L_low rfl rfl rfl (by decide +kernel) ⟨Nat.le_of_ble_eq_true rfl, Nat.le_of_ble_eq_true rfl⟩ rfl rfl hl.1 (Nat.le_of_ble_eq_true rfl) ⟨Nat.le_of_ble_eq_true rfl, Nat.le_of_ble_eq_true rfl⟩ dL_term_40 ?_
  refine W.eq (g2 := F0 m 43 ls [.int (iI (lo (shr9 gv 12) 4))]) rfl ?_
  refine q_topI (b := 0) (hk9) ?_
  refine lv_istore (lv' := [(9, .int (iI 0)), (8, .int (iI e9)), (7, .int (iI c9)), (6, .int (iI F9)), (5, .ref bq), (0, .ref ob), (1, .int (iI gv)), (2, .int (iI less)), (3, .ref aq), (4, .int (iI pr))]) S0.1 S0.2.1 dL_term_43 hl (by decide) rfl (fun ls hl => ?_)
  refine lv_aload S0.1 S0.2.1 dL_term_45 (lv_at hl 4 rfl) ?_
  refine q_iconst S0 dL_term_47 ?_
  refine lv_iload S0.1 S0.2.1 dL_term_48 (lv_at hl 3 rfl) ?_
  refine lv_iload S0.1 S0.2.1 dL_term_50 (lv_at hl 9 rfl) ?_
  refine q_pS (n := 2) (rest := [.int (iI 0), .ref bq]) S0 hK (c_L_mod l g F9 pr (by omega) (by omega)) (subP hW.1 [] rfl) (trivial) gL_term_L_mod rfl rfl rfl (by decide +kernel) ⟨Nat.le_of_ble_eq_true rfl, Nat.le_of_ble_eq_true rfl⟩ rfl rfl hl.1 (Nat.le_of_ble_eq_true rfl) ⟨Nat.le_of_ble_eq_true rfl, Nat.le_of_ble_eq_true rfl⟩ dL_term_52 ?_
  refine W.eq (g2 := F0 m 55 ls [.int (iI (F9 % pr)), .int (iI 0), .ref bq]) rfl ?_
  refine q_iast S0 hK hW 4 rfl (by omega) dL_term_55 (fun H locs hW => ?_)
  have hW : gW g A s.heap H _ [(ob, .inr (10, [.ref tx, .ref ps, .ref ho, .ref rk, va_rf so])), (tx, .inr (9, [.ref tc, .int (iI tn)])), (tc, gC g 40 tf), (aq, gI g 40 a), (bq, gI g 40 (up (fun _ => 0) 0 (F9 % pr)))] := hW
  refine lv_aload_n S0.1 S0.2.1 dL_term_56 rfl (lv_at hl 5 rfl) ?_
  refine q_bipush S0 (by decide) dL_term_57 ?_
  refine lv_iload S0.1 S0.2.1 dL_term_59 (lv_at hl 3 rfl) ?_
  refine q_iadd S0 dL_term_61 ?_
  refine lv_i2c S0.1 S0.2.1 dL_term_62 (i2c_v (by omega)) ?_
  refine q_cV (n := 1) (rest := []) (wr := [(aq, gI g 40 a), (bq, gI g 40 (up (fun _ => 0) 0 (F9 % pr)))]) S0 hK hA hW (c_X10_type l g ob tx ps ho so rk tc tn tf (48 + F9) (by omega) (by omega)) gL_term_X10_type rfl rfl rfl (by decide +kernel) ⟨Nat.le_of_ble_eq_true rfl, Nat.le_of_ble_eq_true rfl⟩ [0, 1, 2] [3, 4] rfl rfl rfl rfl (by decide) (q_recv hK hW.1 (ci := 10) (q0 := 0) rfl rfl) (fun _ _ => trivial) (trivial) rfl rfl hl.1 (Nat.le_of_ble_eq_true rfl) ⟨Nat.le_of_ble_eq_true rfl, Nat.le_of_ble_eq_true rfl⟩ dL_term_63 (fun _ H locs _ hW => ?_)
  have hW : gW g A s.heap H _ [(aq, gI g 40 a), (bq, gI g 40 (up (fun _ => 0) 0 (F9 % pr))), (ob, .inr (10, [.ref tx, .ref ps, .ref ho, .ref rk, va_rf so])), (tx, .inr (9, [.ref tc, .int (iI (tn + 1))])), (tc, gC g 40 (up tf tn.toNat (48 + F9)))] := hW
  refine W.eq (g2 := F0 m 66 ls [.int (iI (tn + 1))]) rfl ?_
  refine lv_pop S0.1 S0.2.1 dL_term_66 rfl ?_
  refine lv_aload_n S0.1 S0.2.1 dL_term_67 rfl (lv_at hl 5 rfl) ?_
  refine q_bipush S0 (by decide) dL_term_68 ?_
  refine q_cV (n := 1) (rest := []) (wr := [(aq, gI g 40 a), (bq, gI g 40 (up (fun _ => 0) 0 (F9 % pr)))]) S0 hK hA hW (c_X10_type l g ob tx ps ho so rk tc (tn + 1) (up tf tn.toNat (48 + F9)) 42 (by omega) (by omega)) gL_term_X10_type rfl rfl rfl (by decide +kernel) ⟨Nat.le_of_ble_eq_true rfl, Nat.le_of_ble_eq_true rfl⟩ [2, 3, 4] [0, 1] rfl rfl rfl rfl (by decide) (q_recv hK hW.1 (ci := 10) (q0 := 2) rfl rfl) (fun _ _ => trivial) (trivial) rfl rfl hl.1 (Nat.le_of_ble_eq_true rfl) ⟨Nat.le_of_ble_eq_true rfl, Nat.le_of_ble_eq_true rfl⟩ dL_term_70 (fun _ H locs _ hW => ?_)
  have hW : gW g A s.heap H _ [(aq, gI g 40 a), (bq, gI g 40 (up (fun _ => 0) 0 (F9 % pr))), (ob, .inr (10, [.ref tx, .ref ps, .ref ho, .ref rk, va_rf so])), (tx, .inr (9, [.ref tc, .int (iI ((tn + 1) + 1))])), (tc, gC g 40 (up (up tf tn.toNat (48 + F9)) (tn + 1).toNat 42))] := hW
  refine W.eq (g2 := F0 m 73 ls [.int (iI ((tn + 1) + 1))]) rfl ?_
  refine lv_pop S0.1 S0.2.1 dL_term_73 rfl ?_
  refine q_iconst S0 dL_term_74 ?_
  refine lv_istore (lv' := [(10, .int (iI 2)), (9, .int (iI 0)), (8, .int (iI e9)), (7, .int (iI c9)), (6, .int (iI F9)), (5, .ref bq), (0, .ref ob), (1, .int (iI gv)), (2, .int (iI less)), (3, .ref aq), (4, .int (iI pr))]) S0.1 S0.2.1 dL_term_75 hl (by decide) rfl (fun ls hl => ?_)
  refine lv_iload S0.1 S0.2.1 dL_term_77 (lv_at hl 1 rfl) ?_
  refine q_if_ne (tgt := 116) S0 (by omega) dL_term_79 (by decide) (fun c79 => ?_) (fun c79 => ?_)
  · skip
    exact absurd c79 (by omega)
  · skip
    refine lv_aload_n S0.1 S0.2.1 dL_term_82 rfl (lv_at hl 6 rfl) ?_
    refine q_bipush S0 (by decide) dL_term_83 ?_
    refine lv_iload S0.1 S0.2.1 dL_term_85 (lv_at hl 3 rfl) ?_
    refine q_iadd S0 dL_term_87 ?_
    refine lv_i2c S0.1 S0.2.1 dL_term_88 (i2c_v (by omega)) ?_
    refine q_cV (n := 1) (rest := []) (wr := [(aq, gI g 40 a), (bq, gI g 40 (up (fun _ => 0) 0 (F9 % pr)))]) S0 hK hA hW (c_X10_type l g ob tx ps ho so rk tc ((tn + 1) + 1) (up (up tf tn.toNat (48 + F9)) (tn + 1).toNat 42) (48 + c9) (by omega) (by omega)) gL_term_X10_type rfl rfl rfl (by decide +kernel) ⟨Nat.le_of_ble_eq_true rfl, Nat.le_of_ble_eq_true rfl⟩ [2, 3, 4] [0, 1] rfl rfl rfl rfl (by decide) (q_recv hK hW.1 (ci := 10) (q0 := 2) rfl rfl) (fun _ _ => trivial) (trivial) rfl rfl hl.1 (Nat.le_of_ble_eq_true rfl) ⟨Nat.le_of_ble_eq_true rfl, Nat.le_of_ble_eq_true rfl⟩ dL_term_89 (fun _ H locs _ hW => ?_)
    have hW : gW g A s.heap H _ [(aq, gI g 40 a), (bq, gI g 40 (up (fun _ => 0) 0 (F9 % pr))), (ob, .inr (10, [.ref tx, .ref ps, .ref ho, .ref rk, va_rf so])), (tx, .inr (9, [.ref tc, .int (iI (((tn + 1) + 1) + 1))])), (tc, gC g 40 (up (up (up tf tn.toNat (48 + F9)) (tn + 1).toNat 42) ((tn + 1) + 1).toNat (48 + c9)))] := hW
    refine W.eq (g2 := F0 m 92 ls [.int (iI (((tn + 1) + 1) + 1))]) rfl ?_
    refine lv_pop S0.1 S0.2.1 dL_term_92 rfl ?_
    refine q_iinc (lv' := [(10, .int (iI (2 + 1))), (9, .int (iI 0)), (8, .int (iI e9)), (7, .int (iI c9)), (6, .int (iI F9)), (5, .ref bq), (0, .ref ob), (1, .int (iI gv)), (2, .int (iI less)), (3, .ref aq), (4, .int (iI pr))]) S0 dL_term_93 hl (k := 0) rfl (by decide) rfl (fun ls hl => ?_)
    refine lv_aload S0.1 S0.2.1 dL_term_96 (lv_at hl 5 rfl) ?_
    refine q_iconst S0 dL_term_98 ?_
    refine lv_iload S0.1 S0.2.1 dL_term_99 (lv_at hl 4 rfl) ?_
    refine lv_iload S0.1 S0.2.1 dL_term_101 (lv_at hl 3 rfl) ?_
    refine q_imul S0 dL_term_103 ?_
    refine lv_iload S0.1 S0.2.1 dL_term_104 (lv_at hl 10 rfl) ?_
    have hm := mul_rng (a := F9) (b := c9) (n := 9) (k := 9) (by omega) (by omega)
    refine q_pS (n := 2) (rest := [.int (iI 0), .ref bq]) S0 hK (c_L_mod l g (F9 * c9) pr (by omega) (by omega)) (subP hW.1 [] rfl) (trivial) gL_term_L_mod rfl rfl rfl (by decide +kernel) ⟨Nat.le_of_ble_eq_true rfl, Nat.le_of_ble_eq_true rfl⟩ rfl rfl hl.1 (Nat.le_of_ble_eq_true rfl) ⟨Nat.le_of_ble_eq_true rfl, Nat.le_of_ble_eq_true rfl⟩ dL_term_106 ?_
    refine W.eq (g2 := F0 m 109 ls [.int (iI ((F9 * c9) % pr)), .int (iI 0), .ref bq]) rfl ?_
    refine q_iast S0 hK hW 1 rfl (by omega) dL_term_109 (fun H locs hW => ?_)
    have hW : gW g A s.heap H _ [(aq, gI g 40 a), (bq, gI g 40 (up (up (fun _ => 0) 0 (F9 % pr)) 0 ((F9 * c9) % pr))), (ob, .inr (10, [.ref tx, .ref ps, .ref ho, .ref rk, va_rf so])), (tx, .inr (9, [.ref tc, .int (iI (((tn + 1) + 1) + 1))])), (tc, gC g 40 (up (up (up tf tn.toNat (48 + F9)) (tn + 1).toNat 42) ((tn + 1) + 1).toNat (48 + c9)))] := hW
    refine q_iconst S0 dL_term_110 ?_
    refine lv_istore (lv' := [(8, .int (iI 0)), (10, .int (iI (2 + 1))), (9, .int (iI 0)), (7, .int (iI c9)), (6, .int (iI F9)), (5, .ref bq), (0, .ref ob), (1, .int (iI gv)), (2, .int (iI less)), (3, .ref aq), (4, .int (iI pr))]) S0.1 S0.2.1 dL_term_111 hl (by decide) rfl (fun ls hl => ?_)
    refine lv_goto (tgt := 203) S0.1 S0.2.1 dL_term_113 (by decide) ?_
    refine lv_iload S0.1 S0.2.1 dL_term_203 (lv_at hl 2 rfl) ?_
    refine q_if_le (tgt := 255) S0 (by omega) dL_term_205 (by decide) (fun c205 => ?_) (fun c205 => ?_)
    · skip
      refine q_cut (α := Int) (fun sg => F0 m 283 ls (.int (iI sg) :: [])) (fun sg => sg = neg9 0 e9 less) (fun sg hsg => ?_) (fun hJ255 => ?_)
      · skip
        have hsgr := neg9_r (k := 0) (e := e9) (less := less)
        rw [← hsg] at hsgr
        refine lv_istore (lv' := [(11, .int (iI sg)), (8, .int (iI 0)), (10, .int (iI (2 + 1))), (9, .int (iI 0)), (7, .int (iI c9)), (6, .int (iI F9)), (5, .ref bq), (0, .ref ob), (1, .int (iI gv)), (2, .int (iI less)), (3, .ref aq), (4, .int (iI pr))]) S0.1 S0.2.1 dL_term_283 hl (by decide) rfl (fun ls hl => ?_)
        refine q_iconst S0 dL_term_285 ?_
        refine lv_istore (lv' := [(12, .int (iI 0)), (11, .int (iI sg)), (8, .int (iI 0)), (10, .int (iI (2 + 1))), (9, .int (iI 0)), (7, .int (iI c9)), (6, .int (iI F9)), (5, .ref bq), (0, .ref ob), (1, .int (iI gv)), (2, .int (iI less)), (3, .ref aq), (4, .int (iI pr))]) S0.1 S0.2.1 dL_term_286 hl (by decide) rfl (fun ls hl => ?_)
        refine q_loop (α := Int) (fun (i : Int) => 0 ≤ i ∧ i ≤ 40) (fun (i : Int) => (40 - i).toNat) (fun (i : Int) => [(aq, gI g 40 (adk pr sg a (up (up (fun _ => 0) 0 (F9 % pr)) 0 (F9 * c9 % pr)) i)), (bq, gI g 40 (up (up (fun _ => 0) 0 (F9 % pr)) 0 ((F9 * c9) % pr))), (ob, .inr (10, [.ref tx, .ref ps, .ref ho, .ref rk, va_rf so])), (tx, .inr (9, [.ref tc, .int (iI (((tn + 1) + 1) + 1))])), (tc, gC g 40 (up (up (up tf tn.toNat (48 + F9)) (tn + 1).toNat 42) ((tn + 1) + 1).toNat (48 + c9)))]) (fun (i : Int) => [(12, .int (iI i)), (11, .int (iI sg)), (8, .int (iI 0)), (10, .int (iI (2 + 1))), (9, .int (iI 0)), (7, .int (iI c9)), (6, .int (iI F9)), (5, .ref bq), (0, .ref ob), (1, .int (iI gv)), (2, .int (iI less)), (3, .ref aq), (4, .int (iI pr))]) ?_ 0 (by (try dsimp only); omega) (by rw [adk_0]; exact hW) (lv_sub hl [0, 1, 2, 3, 4, 5, 6, 7, 8, 9, 10, 11, 12] rfl)
        rintro i hinv IHl H locs ls hW hl
        try dsimp only at hinv
        have hW : gW g A s.heap H _ [(aq, gI g 40 (adk pr sg a (up (up (fun _ => 0) 0 (F9 % pr)) 0 (F9 * c9 % pr)) i)), (bq, gI g 40 (up (up (fun _ => 0) 0 (F9 % pr)) 0 ((F9 * c9) % pr))), (ob, .inr (10, [.ref tx, .ref ps, .ref ho, .ref rk, va_rf so])), (tx, .inr (9, [.ref tc, .int (iI (((tn + 1) + 1) + 1))])), (tc, gC g 40 (up (up (up tf tn.toNat (48 + F9)) (tn + 1).toNat 42) ((tn + 1) + 1).toNat (48 + c9)))] := hW
        have hl : lv_has ls 13 [(12, .int (iI i)), (11, .int (iI sg)), (8, .int (iI 0)), (10, .int (iI (2 + 1))), (9, .int (iI 0)), (7, .int (iI c9)), (6, .int (iI F9)), (5, .ref bq), (0, .ref ob), (1, .int (iI gv)), (2, .int (iI less)), (3, .ref aq), (4, .int (iI pr))] := hl
        refine lv_iload S0.1 S0.2.1 dL_term_288 (lv_at hl 0 rfl) ?_
        refine q_bipush S0 (by decide) dL_term_290 ?_
        refine q_icmp_ge (tgt := 334) S0 (by omega) dL_term_292 (by decide) (fun c292 => ?_) (fun c292 => ?_)
        · skip
          refine lv_iload S0.1 S0.2.1 dL_term_334 (lv_at hl 3 rfl) ?_
          rw [show i = 40 by omega, adk_e, hsg] at hW
          exact q_iret S0 hr hlocks () (trivial) (rfl) (hW.sub [2, 3, 4, 0] rfl (rfl)) (Nat.le_of_ble_eq_true rfl) (Nat.le_of_ble_eq_true rfl) dL_term_336
        · skip
          refine lv_aload_n S0.1 S0.2.1 dL_term_295 rfl (lv_at hl 11 rfl) ?_
          refine lv_iload S0.1 S0.2.1 dL_term_296 (lv_at hl 0 rfl) ?_
          refine lv_aload_n S0.1 S0.2.1 dL_term_298 rfl (lv_at hl 11 rfl) ?_
          refine lv_iload S0.1 S0.2.1 dL_term_299 (lv_at hl 0 rfl) ?_
          refine q_iald S0 hK hW.1 0 rfl (by omega) dL_term_301 ?_
          refine q_topI (b := a i.toNat) (adk_at (by omega)) ?_
          refine q_cut (α := Int) (fun z9 => F0 m 321 ls (.int (iI z9) :: [.int (iI (a i.toNat)), .int (iI i), .ref aq])) (fun z9 => z9 = if sg = 0 then (up (up (fun _ => 0) 0 (F9 % pr)) 0 (F9 * c9 % pr)) i.toNat else -(up (up (fun _ => 0) 0 (F9 % pr)) 0 (F9 * c9 % pr)) i.toNat) (fun z9 hz9 => ?_) (fun hJ302 => ?_)
          · skip
            have hz9r : -pr < z9 ∧ z9 < pr := by rw [hz9]; have := hB9 i.toNat; split <;> omega
            have ha9 := ha i.toNat
            refine q_iadd S0 dL_term_321 ?_
            refine lv_iload S0.1 S0.2.1 dL_term_322 (lv_at hl 12 rfl) ?_
            refine q_pS (n := 2) (rest := [.int (iI i), .ref aq]) S0 hK (c_L_mod l g ((a i.toNat) + z9) pr (by omega) (by omega)) (subP hW.1 [] rfl) (trivial) gL_term_L_mod rfl rfl rfl (by decide +kernel) ⟨Nat.le_of_ble_eq_true rfl, Nat.le_of_ble_eq_true rfl⟩ rfl rfl hl.1 (Nat.le_of_ble_eq_true rfl) ⟨Nat.le_of_ble_eq_true rfl, Nat.le_of_ble_eq_true rfl⟩ dL_term_324 ?_
            refine W.eq (g2 := F0 m 327 ls [.int (iI (((a i.toNat) + z9) % pr)), .int (iI i), .ref aq]) rfl ?_
            refine q_iast S0 hK hW 0 rfl (by omega) dL_term_327 (fun H locs hW => ?_)
            have hW : gW g A s.heap H _ [(aq, gI g 40 (up (adk pr sg a (up (up (fun _ => 0) 0 (F9 % pr)) 0 (F9 * c9 % pr)) i) ((i).toNat) (((a i.toNat) + z9) % pr))), (bq, gI g 40 (up (up (fun _ => 0) 0 (F9 % pr)) 0 ((F9 * c9) % pr))), (ob, .inr (10, [.ref tx, .ref ps, .ref ho, .ref rk, va_rf so])), (tx, .inr (9, [.ref tc, .int (iI (((tn + 1) + 1) + 1))])), (tc, gC g 40 (up (up (up tf tn.toNat (48 + F9)) (tn + 1).toNat 42) ((tn + 1) + 1).toNat (48 + c9)))] := hW
            refine q_iinc (lv' := [(12, .int (iI (i + 1))), (11, .int (iI sg)), (8, .int (iI 0)), (10, .int (iI (2 + 1))), (9, .int (iI 0)), (7, .int (iI c9)), (6, .int (iI F9)), (5, .ref bq), (0, .ref ob), (1, .int (iI gv)), (2, .int (iI less)), (3, .ref aq), (4, .int (iI pr))]) S0 dL_term_328 hl (k := 0) rfl (by decide) rfl (fun ls hl => ?_)
            refine lv_goto (tgt := 288) S0.1 S0.2.1 dL_term_331 (by decide) ?_
            rw [adk_s (by omega) hz9] at hW
            exact IHl (i + 1) H locs ls (by (try dsimp only); omega) (by (try dsimp only); omega) hW (lv_sub hl [0, 1, 2, 3, 4, 5, 6, 7, 8, 9, 10, 11, 12] rfl)
          · skip
            refine lv_iload S0.1 S0.2.1 dL_term_302 (lv_at hl 1 rfl) ?_
            refine q_if_eq (tgt := 316) S0 (by omega) dL_term_304 (by decide) (fun c304 => ?_) (fun c304 => ?_)
            · skip
              refine lv_aload S0.1 S0.2.1 dL_term_316 (lv_at hl 7 rfl) ?_
              refine lv_iload S0.1 S0.2.1 dL_term_318 (lv_at hl 0 rfl) ?_
              refine q_iald S0 hK hW.1 1 rfl (by omega) dL_term_320 ?_
              exact hJ302 _ (by first | (rw [if_pos (by omega)]; done) | (rw [if_neg (by omega)]; done))
            · skip
              refine lv_aload S0.1 S0.2.1 dL_term_307 (lv_at hl 7 rfl) ?_
              refine lv_iload S0.1 S0.2.1 dL_term_309 (lv_at hl 0 rfl) ?_
              refine q_iald S0 hK hW.1 1 rfl (by omega) dL_term_311 ?_
              refine q_ineg S0 dL_term_312 ?_
              refine lv_goto (tgt := 321) S0.1 S0.2.1 dL_term_313 (by decide) ?_
              exact hJ302 _ (by first | (rw [if_pos (by omega)]; done) | (rw [if_neg (by omega)]; done))
      · skip
        refine lv_iload_n S0.1 S0.2.1 dL_term_255 rfl (lv_at hl 8 rfl) ?_
        refine lv_iload S0.1 S0.2.1 dL_term_256 (lv_at hl 2 rfl) ?_
        refine q_iconst S0 dL_term_258 ?_
        refine q_icmp_ne (tgt := 274) S0 (by omega) dL_term_259 (by decide) (fun c259 => ?_) (fun c259 => ?_)
        · skip
          refine q_iconst S0 dL_term_274 ?_
          refine q_icmp_eq (tgt := 282) S0 (by omega) dL_term_275 (by decide) (fun c275 => ?_) (fun c275 => ?_)
          · skip
            refine q_iconst S0 dL_term_282 ?_
            exact hJ255 _ (by first | (rw [neg9_a (by omega)]; first | (rw [if_pos (by omega)]; done) | (rw [if_neg (by omega)]; done)) | (rw [neg9_b (by omega)]; first | (rw [if_pos (by omega)]; done) | (rw [if_neg (by omega)]; done)))
          · skip
            refine q_iconst S0 dL_term_278 ?_
            refine lv_goto (tgt := 283) S0.1 S0.2.1 dL_term_279 (by decide) ?_
            exact hJ255 _ (by first | (rw [neg9_a (by omega)]; first | (rw [if_pos (by omega)]; done) | (rw [if_neg (by omega)]; done)) | (rw [neg9_b (by omega)]; first | (rw [if_pos (by omega)]; done) | (rw [if_neg (by omega)]; done)))
        · skip
          exact absurd c259 (by omega)
    · skip
      exact absurd c205 (by omega)
set_option maxHeartbeats 4000000 in
set_option maxRecDepth 100000 in
theorem c_L_term_1 (l : Launch) (g : GG) (ob tx ps ho : Nat) (so : Option Nat) (rk : Nat) (tc : Nat) (tn : Int) (tf : Nat → Int) (gv less : Int) (aq : Nat) (a : Nat → Int) (pr F9 c9 e9 : Int) (hpr : 2 ≤ pr ∧ pr ≤ 61) (hless : less = 0 ∨ less = 1) (htn : 0 ≤ tn ∧ tn ≤ 31) (ha : ∀ j, 0 ≤ a j ∧ a j < pr) (hF : lo gv 10 = F9) (hc9 : lo (shr9 gv 4) 10 = c9) (he9 : lo (shr9 gv 8) 10 = e9) (hk9 : lo (shr9 gv 12) 4 = 1) : qMet l yL_term wsL_term ({ frames := 3, cells := 1, slots := 40, locals := 90 }) g [.ref ob, .int (iI gv), .int (iI less), .ref aq, .int (iI pr)] [(ob, .inr (10, [.ref tx, .ref ps, .ref ho, .ref rk, va_rf so])), (tx, .inr (9, [.ref tc, .int (iI tn)])), (tc, gC g 40 tf), (aq, gI g 40 a)] (fun _ => True) (fun _ => True) (S := Unit) (fun _ => some (.int (iI 4))) (fun _ => [(ob, .inr (10, [.ref tx, .ref ps, .ref ho, .ref rk, va_rf so])), (tx, .inr (9, [.ref tc, .int (iI (((((tn + 1) + 1) + 1) + 1) + 1))])), (tc, gC g 40 (wr [48 + F9, 42, 120, 94, 48 + e9] tn tf)), (aq, gI g 40 (addr pr (neg9 1 e9 less) a (tms 0 pr e9.toNat (up (fun _ => 0) 0 (F9 % pr)))))]) (fun _ => True) 1 40 := by
  refine q_ofW (cc := cL_term) (maxL := 13) (ret := (some .int)) (fun sz h => h.self) (by decide) rfl (Nat.le_of_ble_eq_true rfl) ?_
  intro p e s m args below meth c A ls S0 hr hlocks hnme hK hA hAe hW hD0 hX hl
  have hW : gW g A s.heap s.heap [] [(ob, .inr (10, [.ref tx, .ref ps, .ref ho, .ref rk, va_rf so])), (tx, .inr (9, [.ref tc, .int (iI tn)])), (tc, gC g 40 tf), (aq, gI g 40 a)] := hW
  have hl : lv_has ls 13 [(0, .ref ob), (1, .int (iI gv)), (2, .int (iI less)), (3, .ref aq), (4, .int (iI pr))] := hl
  have hFr := lo_r (v := gv) (n := 10) (by omega)
  rw [hF] at hFr
  have hcr := lo_r (v := shr9 gv 4) (n := 10) (by omega)
  rw [hc9] at hcr
  have her := lo_r (v := shr9 gv 8) (n := 10) (by omega)
  rw [he9] at her
  have hb0 := r0_rng (p := pr) (F := F9) (by omega)
  have hB9 : ∀ j, 0 ≤ (tms 0 pr e9.toNat (up (fun _ => 0) 0 (F9 % pr))) j ∧ (tms 0 pr e9.toNat (up (fun _ => 0) 0 (F9 % pr))) j < pr := tms_rng (by omega) _ _ hb0
  refine q_bipush S0 (by decide) dL_term_0 ?_
  refine q_newI (N := 40) S0 hK hA hW (List.mem_of_getElem? (i := 1) rfl) (by omega) (Nat.le_of_ble_eq_true rfl) (Nat.le_of_ble_eq_true rfl) dL_term_2 (fun bq H hW => ?_)
  have hW : gW g A s.heap H _ [(ob, .inr (10, [.ref tx, .ref ps, .ref ho, .ref rk, va_rf so])), (tx, .inr (9, [.ref tc, .int (iI tn)])), (tc, gC g 40 tf), (aq, gI g 40 a), (bq, gI g 40 (fun _ => 0))] := hW
  refine lv_astore (lv' := [(5, .ref bq), (0, .ref ob), (1, .int (iI gv)), (2, .int (iI less)), (3, .ref aq), (4, .int (iI pr))]) S0.1 S0.2.1 dL_term_4 hl (by decide) rfl (fun ls hl => ?_)
  refine lv_iload_n S0.1 S0.2.1 dL_term_6 rfl (lv_at hl 2 rfl) ?_
  refine q_bipush S0 (by decide) dL_term_7 ?_
  refine q_pS (n := 2) (rest := []) S0 hK (c_L_low l g gv 10 (by omega)) (subP hW.1 [] rfl) (trivial) gL_term_L_low rfl rfl rfl (by decide +kernel) ⟨Nat.le_of_ble_eq_true rfl, Nat.le_of_ble_eq_true rfl⟩ rfl rfl hl.1 (Nat.le_of_ble_eq_true rfl) ⟨Nat.le_of_ble_eq_true rfl, Nat.le_of_ble_eq_true rfl⟩ dL_term_9 ?_
  refine W.eq (g2 := F0 m 12 ls [.int (iI (lo gv 10))]) rfl ?_
  refine q_topI (b := F9) (hF) ?_
  refine lv_istore (lv' := [(6, .int (iI F9)), (5, .ref bq), (0, .ref ob), (1, .int (iI gv)), (2, .int (iI less)), (3, .ref aq), (4, .int (iI pr))]) S0.1 S0.2.1 dL_term_12 hl (by decide) rfl (fun ls hl => ?_)
  refine lv_iload_n S0.1 S0.2.1 dL_term_14 rfl (lv_at hl 3 rfl) ?_
  refine q_iconst S0 dL_term_15 ?_
  refine lv_ishr S0.1 S0.2.1 dL_term_16 ?_
  refine q_top (w := .int (iI (shr9 gv 4))) (congrArg Value.int (iI_of _)) ?_
  refine q_bipush S0 (by decide) dL_term_17 ?_
  refine q_pS (n := 2) (rest := []) S0 hK (c_L_low l g (shr9 gv 4) 10 (by omega)) (subP hW.1 [] rfl) (trivial) gL_term_L_low rfl rfl rfl (by decide +kernel) ⟨Nat.le_of_ble_eq_true rfl, Nat.le_of_ble_eq_true rfl⟩ rfl rfl hl.1 (Nat.le_of_ble_eq_true rfl) ⟨Nat.le_of_ble_eq_true rfl, Nat.le_of_ble_eq_true rfl⟩ dL_term_19 ?_
  refine W.eq (g2 := F0 m 22 ls [.int (iI (lo (shr9 gv 4) 10))]) rfl ?_
  refine q_topI (b := c9) (hc9) ?_
  refine lv_istore (lv' := [(7, .int (iI c9)), (6, .int (iI F9)), (5, .ref bq), (0, .ref ob), (1, .int (iI gv)), (2, .int (iI less)), (3, .ref aq), (4, .int (iI pr))]) S0.1 S0.2.1 dL_term_22 hl (by decide) rfl (fun ls hl => ?_)
  refine lv_iload_n S0.1 S0.2.1 dL_term_24 rfl (lv_at hl 4 rfl) ?_
  refine q_bipush S0 (by decide) dL_term_25 ?_
  refine lv_ishr S0.1 S0.2.1 dL_term_27 ?_
  refine q_top (w := .int (iI (shr9 gv 8))) (congrArg Value.int (iI_of _)) ?_
  refine q_bipush S0 (by decide) dL_term_28 ?_
  refine q_pS (n := 2) (rest := []) S0 hK (c_L_low l g (shr9 gv 8) 10 (by omega)) (subP hW.1 [] rfl) (trivial) gL_term_L_low rfl rfl rfl (by decide +kernel) ⟨Nat.le_of_ble_eq_true rfl, Nat.le_of_ble_eq_true rfl⟩ rfl rfl hl.1 (Nat.le_of_ble_eq_true rfl) ⟨Nat.le_of_ble_eq_true rfl, Nat.le_of_ble_eq_true rfl⟩ dL_term_30 ?_
  refine W.eq (g2 := F0 m 33 ls [.int (iI (lo (shr9 gv 8) 10))]) rfl ?_
  refine q_topI (b := e9) (he9) ?_
  refine lv_istore (lv' := [(8, .int (iI e9)), (7, .int (iI c9)), (6, .int (iI F9)), (5, .ref bq), (0, .ref ob), (1, .int (iI gv)), (2, .int (iI less)), (3, .ref aq), (4, .int (iI pr))]) S0.1 S0.2.1 dL_term_33 hl (by decide) rfl (fun ls hl => ?_)
  refine lv_iload_n S0.1 S0.2.1 dL_term_35 rfl (lv_at hl 5 rfl) ?_
  refine q_bipush S0 (by decide) dL_term_36 ?_
  refine lv_ishr S0.1 S0.2.1 dL_term_38 ?_
  refine q_top (w := .int (iI (shr9 gv 12))) (congrArg Value.int (iI_of _)) ?_
  refine q_iconst S0 dL_term_39 ?_
  refine q_pS (n := 2) (rest := []) S0 hK (c_L_low l g (shr9 gv 12) 4 (by omega)) (subP hW.1 [] rfl) (trivial) gL_term_L_low rfl rfl rfl (by decide +kernel) ⟨Nat.le_of_ble_eq_true rfl, Nat.le_of_ble_eq_true rfl⟩ rfl rfl hl.1 (Nat.le_of_ble_eq_true rfl) ⟨Nat.le_of_ble_eq_true rfl, Nat.le_of_ble_eq_true rfl⟩ dL_term_40 ?_
  refine W.eq (g2 := F0 m 43 ls [.int (iI (lo (shr9 gv 12) 4))]) rfl ?_
  refine q_topI (b := 1) (hk9) ?_
  refine lv_istore (lv' := [(9, .int (iI 1)), (8, .int (iI e9)), (7, .int (iI c9)), (6, .int (iI F9)), (5, .ref bq), (0, .ref ob), (1, .int (iI gv)), (2, .int (iI less)), (3, .ref aq), (4, .int (iI pr))]) S0.1 S0.2.1 dL_term_43 hl (by decide) rfl (fun ls hl => ?_)
  refine lv_aload S0.1 S0.2.1 dL_term_45 (lv_at hl 4 rfl) ?_
  refine q_iconst S0 dL_term_47 ?_
  refine lv_iload S0.1 S0.2.1 dL_term_48 (lv_at hl 3 rfl) ?_
  refine lv_iload S0.1 S0.2.1 dL_term_50 (lv_at hl 9 rfl) ?_
  refine q_pS (n := 2) (rest := [.int (iI 0), .ref bq]) S0 hK (c_L_mod l g F9 pr (by omega) (by omega)) (subP hW.1 [] rfl) (trivial) gL_term_L_mod rfl rfl rfl (by decide +kernel) ⟨Nat.le_of_ble_eq_true rfl, Nat.le_of_ble_eq_true rfl⟩ rfl rfl hl.1 (Nat.le_of_ble_eq_true rfl) ⟨Nat.le_of_ble_eq_true rfl, Nat.le_of_ble_eq_true rfl⟩ dL_term_52 ?_
  refine W.eq (g2 := F0 m 55 ls [.int (iI (F9 % pr)), .int (iI 0), .ref bq]) rfl ?_
  refine q_iast S0 hK hW 4 rfl (by omega) dL_term_55 (fun H locs hW => ?_)
  have hW : gW g A s.heap H _ [(ob, .inr (10, [.ref tx, .ref ps, .ref ho, .ref rk, va_rf so])), (tx, .inr (9, [.ref tc, .int (iI tn)])), (tc, gC g 40 tf), (aq, gI g 40 a), (bq, gI g 40 (up (fun _ => 0) 0 (F9 % pr)))] := hW
  refine lv_aload_n S0.1 S0.2.1 dL_term_56 rfl (lv_at hl 5 rfl) ?_
  refine q_bipush S0 (by decide) dL_term_57 ?_
  refine lv_iload S0.1 S0.2.1 dL_term_59 (lv_at hl 3 rfl) ?_
  refine q_iadd S0 dL_term_61 ?_
  refine lv_i2c S0.1 S0.2.1 dL_term_62 (i2c_v (by omega)) ?_
  refine q_cV (n := 1) (rest := []) (wr := [(aq, gI g 40 a), (bq, gI g 40 (up (fun _ => 0) 0 (F9 % pr)))]) S0 hK hA hW (c_X10_type l g ob tx ps ho so rk tc tn tf (48 + F9) (by omega) (by omega)) gL_term_X10_type rfl rfl rfl (by decide +kernel) ⟨Nat.le_of_ble_eq_true rfl, Nat.le_of_ble_eq_true rfl⟩ [0, 1, 2] [3, 4] rfl rfl rfl rfl (by decide) (q_recv hK hW.1 (ci := 10) (q0 := 0) rfl rfl) (fun _ _ => trivial) (trivial) rfl rfl hl.1 (Nat.le_of_ble_eq_true rfl) ⟨Nat.le_of_ble_eq_true rfl, Nat.le_of_ble_eq_true rfl⟩ dL_term_63 (fun _ H locs _ hW => ?_)
  have hW : gW g A s.heap H _ [(aq, gI g 40 a), (bq, gI g 40 (up (fun _ => 0) 0 (F9 % pr))), (ob, .inr (10, [.ref tx, .ref ps, .ref ho, .ref rk, va_rf so])), (tx, .inr (9, [.ref tc, .int (iI (tn + 1))])), (tc, gC g 40 (up tf tn.toNat (48 + F9)))] := hW
  refine W.eq (g2 := F0 m 66 ls [.int (iI (tn + 1))]) rfl ?_
  refine lv_pop S0.1 S0.2.1 dL_term_66 rfl ?_
  refine lv_aload_n S0.1 S0.2.1 dL_term_67 rfl (lv_at hl 5 rfl) ?_
  refine q_bipush S0 (by decide) dL_term_68 ?_
  refine q_cV (n := 1) (rest := []) (wr := [(aq, gI g 40 a), (bq, gI g 40 (up (fun _ => 0) 0 (F9 % pr)))]) S0 hK hA hW (c_X10_type l g ob tx ps ho so rk tc (tn + 1) (up tf tn.toNat (48 + F9)) 42 (by omega) (by omega)) gL_term_X10_type rfl rfl rfl (by decide +kernel) ⟨Nat.le_of_ble_eq_true rfl, Nat.le_of_ble_eq_true rfl⟩ [2, 3, 4] [0, 1] rfl rfl rfl rfl (by decide) (q_recv hK hW.1 (ci := 10) (q0 := 2) rfl rfl) (fun _ _ => trivial) (trivial) rfl rfl hl.1 (Nat.le_of_ble_eq_true rfl) ⟨Nat.le_of_ble_eq_true rfl, Nat.le_of_ble_eq_true rfl⟩ dL_term_70 (fun _ H locs _ hW => ?_)
  have hW : gW g A s.heap H _ [(aq, gI g 40 a), (bq, gI g 40 (up (fun _ => 0) 0 (F9 % pr))), (ob, .inr (10, [.ref tx, .ref ps, .ref ho, .ref rk, va_rf so])), (tx, .inr (9, [.ref tc, .int (iI ((tn + 1) + 1))])), (tc, gC g 40 (up (up tf tn.toNat (48 + F9)) (tn + 1).toNat 42))] := hW
  refine W.eq (g2 := F0 m 73 ls [.int (iI ((tn + 1) + 1))]) rfl ?_
  refine lv_pop S0.1 S0.2.1 dL_term_73 rfl ?_
  refine q_iconst S0 dL_term_74 ?_
  refine lv_istore (lv' := [(10, .int (iI 2)), (9, .int (iI 1)), (8, .int (iI e9)), (7, .int (iI c9)), (6, .int (iI F9)), (5, .ref bq), (0, .ref ob), (1, .int (iI gv)), (2, .int (iI less)), (3, .ref aq), (4, .int (iI pr))]) S0.1 S0.2.1 dL_term_75 hl (by decide) rfl (fun ls hl => ?_)
  refine lv_iload S0.1 S0.2.1 dL_term_77 (lv_at hl 1 rfl) ?_
  refine q_if_ne (tgt := 116) S0 (by omega) dL_term_79 (by decide) (fun c79 => ?_) (fun c79 => ?_)
  · skip
    refine lv_iload S0.1 S0.2.1 dL_term_116 (lv_at hl 1 rfl) ?_
    refine q_iconst S0 dL_term_118 ?_
    refine q_icmp_ne (tgt := 135) S0 (by omega) dL_term_119 (by decide) (fun c119 => ?_) (fun c119 => ?_)
    · skip
      exact absurd c119 (by omega)
    · skip
      refine lv_aload_n S0.1 S0.2.1 dL_term_122 rfl (lv_at hl 6 rfl) ?_
      refine q_bipush S0 (by decide) dL_term_123 ?_
      refine q_cV (n := 1) (rest := []) (wr := [(aq, gI g 40 a), (bq, gI g 40 (up (fun _ => 0) 0 (F9 % pr)))]) S0 hK hA hW (c_X10_type l g ob tx ps ho so rk tc ((tn + 1) + 1) (up (up tf tn.toNat (48 + F9)) (tn + 1).toNat 42) 120 (by omega) (by omega)) gL_term_X10_type rfl rfl rfl (by decide +kernel) ⟨Nat.le_of_ble_eq_true rfl, Nat.le_of_ble_eq_true rfl⟩ [2, 3, 4] [0, 1] rfl rfl rfl rfl (by decide) (q_recv hK hW.1 (ci := 10) (q0 := 2) rfl rfl) (fun _ _ => trivial) (trivial) rfl rfl hl.1 (Nat.le_of_ble_eq_true rfl) ⟨Nat.le_of_ble_eq_true rfl, Nat.le_of_ble_eq_true rfl⟩ dL_term_125 (fun _ H locs _ hW => ?_)
      have hW : gW g A s.heap H _ [(aq, gI g 40 a), (bq, gI g 40 (up (fun _ => 0) 0 (F9 % pr))), (ob, .inr (10, [.ref tx, .ref ps, .ref ho, .ref rk, va_rf so])), (tx, .inr (9, [.ref tc, .int (iI (((tn + 1) + 1) + 1))])), (tc, gC g 40 (up (up (up tf tn.toNat (48 + F9)) (tn + 1).toNat 42) ((tn + 1) + 1).toNat 120))] := hW
      refine W.eq (g2 := F0 m 128 ls [.int (iI (((tn + 1) + 1) + 1))]) rfl ?_
      refine lv_pop S0.1 S0.2.1 dL_term_128 rfl ?_
      refine q_iinc (lv' := [(10, .int (iI (2 + 1))), (9, .int (iI 1)), (8, .int (iI e9)), (7, .int (iI c9)), (6, .int (iI F9)), (5, .ref bq), (0, .ref ob), (1, .int (iI gv)), (2, .int (iI less)), (3, .ref aq), (4, .int (iI pr))]) S0 dL_term_129 hl (k := 0) rfl (by decide) rfl (fun ls hl => ?_)
      refine lv_goto (tgt := 203) S0.1 S0.2.1 dL_term_132 (by decide) ?_
      refine lv_iload S0.1 S0.2.1 dL_term_203 (lv_at hl 1 rfl) ?_
      refine q_if_le (tgt := 255) S0 (by omega) dL_term_205 (by decide) (fun c205 => ?_) (fun c205 => ?_)
      · skip
        exact absurd c205 (by omega)
      · skip
        refine lv_aload_n S0.1 S0.2.1 dL_term_208 rfl (lv_at hl 6 rfl) ?_
        refine q_bipush S0 (by decide) dL_term_209 ?_
        refine q_cV (n := 1) (rest := []) (wr := [(aq, gI g 40 a), (bq, gI g 40 (up (fun _ => 0) 0 (F9 % pr)))]) S0 hK hA hW (c_X10_type l g ob tx ps ho so rk tc (((tn + 1) + 1) + 1) (up (up (up tf tn.toNat (48 + F9)) (tn + 1).toNat 42) ((tn + 1) + 1).toNat 120) 94 (by omega) (by omega)) gL_term_X10_type rfl rfl rfl (by decide +kernel) ⟨Nat.le_of_ble_eq_true rfl, Nat.le_of_ble_eq_true rfl⟩ [2, 3, 4] [0, 1] rfl rfl rfl rfl (by decide) (q_recv hK hW.1 (ci := 10) (q0 := 2) rfl rfl) (fun _ _ => trivial) (trivial) rfl rfl hl.1 (Nat.le_of_ble_eq_true rfl) ⟨Nat.le_of_ble_eq_true rfl, Nat.le_of_ble_eq_true rfl⟩ dL_term_211 (fun _ H locs _ hW => ?_)
        have hW : gW g A s.heap H _ [(aq, gI g 40 a), (bq, gI g 40 (up (fun _ => 0) 0 (F9 % pr))), (ob, .inr (10, [.ref tx, .ref ps, .ref ho, .ref rk, va_rf so])), (tx, .inr (9, [.ref tc, .int (iI ((((tn + 1) + 1) + 1) + 1))])), (tc, gC g 40 (up (up (up (up tf tn.toNat (48 + F9)) (tn + 1).toNat 42) ((tn + 1) + 1).toNat 120) (((tn + 1) + 1) + 1).toNat 94))] := hW
        refine W.eq (g2 := F0 m 214 ls [.int (iI ((((tn + 1) + 1) + 1) + 1))]) rfl ?_
        refine lv_pop S0.1 S0.2.1 dL_term_214 rfl ?_
        refine lv_aload_n S0.1 S0.2.1 dL_term_215 rfl (lv_at hl 6 rfl) ?_
        refine q_bipush S0 (by decide) dL_term_216 ?_
        refine lv_iload S0.1 S0.2.1 dL_term_218 (lv_at hl 2 rfl) ?_
        refine q_iadd S0 dL_term_220 ?_
        refine lv_i2c S0.1 S0.2.1 dL_term_221 (i2c_v (by omega)) ?_
        refine q_cV (n := 1) (rest := []) (wr := [(aq, gI g 40 a), (bq, gI g 40 (up (fun _ => 0) 0 (F9 % pr)))]) S0 hK hA hW (c_X10_type l g ob tx ps ho so rk tc ((((tn + 1) + 1) + 1) + 1) (up (up (up (up tf tn.toNat (48 + F9)) (tn + 1).toNat 42) ((tn + 1) + 1).toNat 120) (((tn + 1) + 1) + 1).toNat 94) (48 + e9) (by omega) (by omega)) gL_term_X10_type rfl rfl rfl (by decide +kernel) ⟨Nat.le_of_ble_eq_true rfl, Nat.le_of_ble_eq_true rfl⟩ [2, 3, 4] [0, 1] rfl rfl rfl rfl (by decide) (q_recv hK hW.1 (ci := 10) (q0 := 2) rfl rfl) (fun _ _ => trivial) (trivial) rfl rfl hl.1 (Nat.le_of_ble_eq_true rfl) ⟨Nat.le_of_ble_eq_true rfl, Nat.le_of_ble_eq_true rfl⟩ dL_term_222 (fun _ H locs _ hW => ?_)
        have hW : gW g A s.heap H _ [(aq, gI g 40 a), (bq, gI g 40 (up (fun _ => 0) 0 (F9 % pr))), (ob, .inr (10, [.ref tx, .ref ps, .ref ho, .ref rk, va_rf so])), (tx, .inr (9, [.ref tc, .int (iI (((((tn + 1) + 1) + 1) + 1) + 1))])), (tc, gC g 40 (up (up (up (up (up tf tn.toNat (48 + F9)) (tn + 1).toNat 42) ((tn + 1) + 1).toNat 120) (((tn + 1) + 1) + 1).toNat 94) ((((tn + 1) + 1) + 1) + 1).toNat (48 + e9)))] := hW
        refine W.eq (g2 := F0 m 225 ls [.int (iI (((((tn + 1) + 1) + 1) + 1) + 1))]) rfl ?_
        refine lv_pop S0.1 S0.2.1 dL_term_225 rfl ?_
        refine q_iinc (lv' := [(10, .int (iI ((2 + 1) + 1))), (9, .int (iI 1)), (8, .int (iI e9)), (7, .int (iI c9)), (6, .int (iI F9)), (5, .ref bq), (0, .ref ob), (1, .int (iI gv)), (2, .int (iI less)), (3, .ref aq), (4, .int (iI pr))]) S0 dL_term_226 hl (k := 0) rfl (by decide) rfl (fun ls hl => ?_)
        refine lv_aload S0.1 S0.2.1 dL_term_229 (lv_at hl 5 rfl) ?_
        refine lv_iload S0.1 S0.2.1 dL_term_231 (lv_at hl 1 rfl) ?_
        refine q_iconst S0 dL_term_233 ?_
        refine q_icmp_ne (tgt := 247) S0 (by omega) dL_term_234 (by decide) (fun c234 => ?_) (fun c234 => ?_)
        · skip
          refine q_iconst S0 dL_term_247 ?_
          refine lv_iload S0.1 S0.2.1 dL_term_248 (lv_at hl 2 rfl) ?_
          refine lv_iload S0.1 S0.2.1 dL_term_250 (lv_at hl 10 rfl) ?_
          refine q_cS (n := 4) (rest := []) (wr := [(aq, gI g 40 a), (ob, .inr (10, [.ref tx, .ref ps, .ref ho, .ref rk, va_rf so])), (tx, .inr (9, [.ref tc, .int (iI (((((tn + 1) + 1) + 1) + 1) + 1))])), (tc, gC g 40 (up (up (up (up (up tf tn.toNat (48 + F9)) (tn + 1).toNat 42) ((tn + 1) + 1).toNat 120) (((tn + 1) + 1) + 1).toNat 94) ((((tn + 1) + 1) + 1) + 1).toNat (48 + e9)))]) S0 hK hA hW (c_L_times l g bq (up (fun _ => 0) 0 (F9 % pr)) 0 e9 pr (hpr) (by first | exact emod_rng _ (by omega) | omega) (by omega) (hb0)) gL_term_L_times rfl rfl rfl (by decide +kernel) ⟨Nat.le_of_ble_eq_true rfl, Nat.le_of_ble_eq_true rfl⟩ [1] [0, 2, 3, 4] rfl rfl rfl rfl (by decide) (fun _ _ => trivial) (trivial) rfl rfl hl.1 (Nat.le_of_ble_eq_true rfl) ⟨Nat.le_of_ble_eq_true rfl, Nat.le_of_ble_eq_true rfl⟩ dL_term_252 (fun _ H locs _ hW => ?_)
          have hW : gW g A s.heap H _ [(aq, gI g 40 a), (ob, .inr (10, [.ref tx, .ref ps, .ref ho, .ref rk, va_rf so])), (tx, .inr (9, [.ref tc, .int (iI (((((tn + 1) + 1) + 1) + 1) + 1))])), (tc, gC g 40 (up (up (up (up (up tf tn.toNat (48 + F9)) (tn + 1).toNat 42) ((tn + 1) + 1).toNat 120) (((tn + 1) + 1) + 1).toNat 94) ((((tn + 1) + 1) + 1) + 1).toNat (48 + e9))), (bq, gI g 40 (tms 0 pr e9.toNat (up (fun _ => 0) 0 (F9 % pr))))] := hW
          refine W.eq (g2 := F0 m 255 ls []) rfl ?_
          refine q_cut (α := Int) (fun sg => F0 m 283 ls (.int (iI sg) :: [])) (fun sg => sg = neg9 1 e9 less) (fun sg hsg => ?_) (fun hJ255 => ?_)
          · skip
            have hsgr := neg9_r (k := 1) (e := e9) (less := less)
            rw [← hsg] at hsgr
            refine lv_istore (lv' := [(11, .int (iI sg)), (10, .int (iI ((2 + 1) + 1))), (9, .int (iI 1)), (8, .int (iI e9)), (7, .int (iI c9)), (6, .int (iI F9)), (5, .ref bq), (0, .ref ob), (1, .int (iI gv)), (2, .int (iI less)), (3, .ref aq), (4, .int (iI pr))]) S0.1 S0.2.1 dL_term_283 hl (by decide) rfl (fun ls hl => ?_)
            refine q_iconst S0 dL_term_285 ?_
            refine lv_istore (lv' := [(12, .int (iI 0)), (11, .int (iI sg)), (10, .int (iI ((2 + 1) + 1))), (9, .int (iI 1)), (8, .int (iI e9)), (7, .int (iI c9)), (6, .int (iI F9)), (5, .ref bq), (0, .ref ob), (1, .int (iI gv)), (2, .int (iI less)), (3, .ref aq), (4, .int (iI pr))]) S0.1 S0.2.1 dL_term_286 hl (by decide) rfl (fun ls hl => ?_)
            refine q_loop (α := Int) (fun (i : Int) => 0 ≤ i ∧ i ≤ 40) (fun (i : Int) => (40 - i).toNat) (fun (i : Int) => [(aq, gI g 40 (adk pr sg a (tms 0 pr e9.toNat (up (fun _ => 0) 0 (F9 % pr))) i)), (ob, .inr (10, [.ref tx, .ref ps, .ref ho, .ref rk, va_rf so])), (tx, .inr (9, [.ref tc, .int (iI (((((tn + 1) + 1) + 1) + 1) + 1))])), (tc, gC g 40 (up (up (up (up (up tf tn.toNat (48 + F9)) (tn + 1).toNat 42) ((tn + 1) + 1).toNat 120) (((tn + 1) + 1) + 1).toNat 94) ((((tn + 1) + 1) + 1) + 1).toNat (48 + e9))), (bq, gI g 40 (tms 0 pr e9.toNat (up (fun _ => 0) 0 (F9 % pr))))]) (fun (i : Int) => [(12, .int (iI i)), (11, .int (iI sg)), (10, .int (iI ((2 + 1) + 1))), (9, .int (iI 1)), (8, .int (iI e9)), (7, .int (iI c9)), (6, .int (iI F9)), (5, .ref bq), (0, .ref ob), (1, .int (iI gv)), (2, .int (iI less)), (3, .ref aq), (4, .int (iI pr))]) ?_ 0 (by (try dsimp only); omega) (by rw [adk_0]; exact hW) (lv_sub hl [0, 1, 2, 3, 4, 5, 6, 7, 8, 9, 10, 11, 12] rfl)
            rintro i hinv IHl H locs ls hW hl
            try dsimp only at hinv
            have hW : gW g A s.heap H _ [(aq, gI g 40 (adk pr sg a (tms 0 pr e9.toNat (up (fun _ => 0) 0 (F9 % pr))) i)), (ob, .inr (10, [.ref tx, .ref ps, .ref ho, .ref rk, va_rf so])), (tx, .inr (9, [.ref tc, .int (iI (((((tn + 1) + 1) + 1) + 1) + 1))])), (tc, gC g 40 (up (up (up (up (up tf tn.toNat (48 + F9)) (tn + 1).toNat 42) ((tn + 1) + 1).toNat 120) (((tn + 1) + 1) + 1).toNat 94) ((((tn + 1) + 1) + 1) + 1).toNat (48 + e9))), (bq, gI g 40 (tms 0 pr e9.toNat (up (fun _ => 0) 0 (F9 % pr))))] := hW
            have hl : lv_has ls 13 [(12, .int (iI i)), (11, .int (iI sg)), (10, .int (iI ((2 + 1) + 1))), (9, .int (iI 1)), (8, .int (iI e9)), (7, .int (iI c9)), (6, .int (iI F9)), (5, .ref bq), (0, .ref ob), (1, .int (iI gv)), (2, .int (iI less)), (3, .ref aq), (4, .int (iI pr))] := hl
            refine lv_iload S0.1 S0.2.1 dL_term_288 (lv_at hl 0 rfl) ?_
            refine q_bipush S0 (by decide) dL_term_290 ?_
            refine q_icmp_ge (tgt := 334) S0 (by omega) dL_term_292 (by decide) (fun c292 => ?_) (fun c292 => ?_)
            · skip
              refine lv_iload S0.1 S0.2.1 dL_term_334 (lv_at hl 2 rfl) ?_
              rw [show i = 40 by omega, adk_e, hsg] at hW
              exact q_iret S0 hr hlocks () (trivial) (rfl) (hW.sub [1, 2, 3, 0] rfl (rfl)) (Nat.le_of_ble_eq_true rfl) (Nat.le_of_ble_eq_true rfl) dL_term_336
            · skip
              refine lv_aload_n S0.1 S0.2.1 dL_term_295 rfl (lv_at hl 11 rfl) ?_
              refine lv_iload S0.1 S0.2.1 dL_term_296 (lv_at hl 0 rfl) ?_
              refine lv_aload_n S0.1 S0.2.1 dL_term_298 rfl (lv_at hl 11 rfl) ?_
              refine lv_iload S0.1 S0.2.1 dL_term_299 (lv_at hl 0 rfl) ?_
              refine q_iald S0 hK hW.1 0 rfl (by omega) dL_term_301 ?_
              refine q_topI (b := a i.toNat) (adk_at (by omega)) ?_
              refine q_cut (α := Int) (fun z9 => F0 m 321 ls (.int (iI z9) :: [.int (iI (a i.toNat)), .int (iI i), .ref aq])) (fun z9 => z9 = if sg = 0 then (tms 0 pr e9.toNat (up (fun _ => 0) 0 (F9 % pr))) i.toNat else -(tms 0 pr e9.toNat (up (fun _ => 0) 0 (F9 % pr))) i.toNat) (fun z9 hz9 => ?_) (fun hJ302 => ?_)
              · skip
                have hz9r : -pr < z9 ∧ z9 < pr := by rw [hz9]; have := hB9 i.toNat; split <;> omega
                have ha9 := ha i.toNat
                refine q_iadd S0 dL_term_321 ?_
                refine lv_iload S0.1 S0.2.1 dL_term_322 (lv_at hl 12 rfl) ?_
                refine q_pS (n := 2) (rest := [.int (iI i), .ref aq]) S0 hK (c_L_mod l g ((a i.toNat) + z9) pr (by omega) (by omega)) (subP hW.1 [] rfl) (trivial) gL_term_L_mod rfl rfl rfl (by decide +kernel) ⟨Nat.le_of_ble_eq_true rfl, Nat.le_of_ble_eq_true rfl⟩ rfl rfl hl.1 (Nat.le_of_ble_eq_true rfl) ⟨Nat.le_of_ble_eq_true rfl, Nat.le_of_ble_eq_true rfl⟩ dL_term_324 ?_
                refine W.eq (g2 := F0 m 327 ls [.int (iI (((a i.toNat) + z9) % pr)), .int (iI i), .ref aq]) rfl ?_
                refine q_iast S0 hK hW 0 rfl (by omega) dL_term_327 (fun H locs hW => ?_)
                have hW : gW g A s.heap H _ [(aq, gI g 40 (up (adk pr sg a (tms 0 pr e9.toNat (up (fun _ => 0) 0 (F9 % pr))) i) ((i).toNat) (((a i.toNat) + z9) % pr))), (ob, .inr (10, [.ref tx, .ref ps, .ref ho, .ref rk, va_rf so])), (tx, .inr (9, [.ref tc, .int (iI (((((tn + 1) + 1) + 1) + 1) + 1))])), (tc, gC g 40 (up (up (up (up (up tf tn.toNat (48 + F9)) (tn + 1).toNat 42) ((tn + 1) + 1).toNat 120) (((tn + 1) + 1) + 1).toNat 94) ((((tn + 1) + 1) + 1) + 1).toNat (48 + e9))), (bq, gI g 40 (tms 0 pr e9.toNat (up (fun _ => 0) 0 (F9 % pr))))] := hW
                refine q_iinc (lv' := [(12, .int (iI (i + 1))), (11, .int (iI sg)), (10, .int (iI ((2 + 1) + 1))), (9, .int (iI 1)), (8, .int (iI e9)), (7, .int (iI c9)), (6, .int (iI F9)), (5, .ref bq), (0, .ref ob), (1, .int (iI gv)), (2, .int (iI less)), (3, .ref aq), (4, .int (iI pr))]) S0 dL_term_328 hl (k := 0) rfl (by decide) rfl (fun ls hl => ?_)
                refine lv_goto (tgt := 288) S0.1 S0.2.1 dL_term_331 (by decide) ?_
                rw [adk_s (by omega) hz9] at hW
                exact IHl (i + 1) H locs ls (by (try dsimp only); omega) (by (try dsimp only); omega) hW (lv_sub hl [0, 1, 2, 3, 4, 5, 6, 7, 8, 9, 10, 11, 12] rfl)
              · skip
                refine lv_iload S0.1 S0.2.1 dL_term_302 (lv_at hl 1 rfl) ?_
                refine q_if_eq (tgt := 316) S0 (by omega) dL_term_304 (by decide) (fun c304 => ?_) (fun c304 => ?_)
                · skip
                  refine lv_aload S0.1 S0.2.1 dL_term_316 (lv_at hl 7 rfl) ?_
                  refine lv_iload S0.1 S0.2.1 dL_term_318 (lv_at hl 0 rfl) ?_
                  refine q_iald S0 hK hW.1 4 rfl (by omega) dL_term_320 ?_
                  exact hJ302 _ (by first | (rw [if_pos (by omega)]; done) | (rw [if_neg (by omega)]; done))
                · skip
                  refine lv_aload S0.1 S0.2.1 dL_term_307 (lv_at hl 7 rfl) ?_
                  refine lv_iload S0.1 S0.2.1 dL_term_309 (lv_at hl 0 rfl) ?_
                  refine q_iald S0 hK hW.1 4 rfl (by omega) dL_term_311 ?_
                  refine q_ineg S0 dL_term_312 ?_
                  refine lv_goto (tgt := 321) S0.1 S0.2.1 dL_term_313 (by decide) ?_
                  exact hJ302 _ (by first | (rw [if_pos (by omega)]; done) | (rw [if_neg (by omega)]; done))
          · skip
            refine lv_iload_n S0.1 S0.2.1 dL_term_255 rfl (lv_at hl 8 rfl) ?_
            refine lv_iload S0.1 S0.2.1 dL_term_256 (lv_at hl 1 rfl) ?_
            refine q_iconst S0 dL_term_258 ?_
            refine q_icmp_ne (tgt := 274) S0 (by omega) dL_term_259 (by decide) (fun c259 => ?_) (fun c259 => ?_)
            · skip
              refine q_iconst S0 dL_term_274 ?_
              refine q_icmp_eq (tgt := 282) S0 (by omega) dL_term_275 (by decide) (fun c275 => ?_) (fun c275 => ?_)
              · skip
                refine q_iconst S0 dL_term_282 ?_
                exact hJ255 _ (by first | (rw [neg9_a (by omega)]; first | (rw [if_pos (by omega)]; done) | (rw [if_neg (by omega)]; done)) | (rw [neg9_b (by omega)]; first | (rw [if_pos (by omega)]; done) | (rw [if_neg (by omega)]; done)))
              · skip
                refine q_iconst S0 dL_term_278 ?_
                refine lv_goto (tgt := 283) S0.1 S0.2.1 dL_term_279 (by decide) ?_
                exact hJ255 _ (by first | (rw [neg9_a (by omega)]; first | (rw [if_pos (by omega)]; done) | (rw [if_neg (by omega)]; done)) | (rw [neg9_b (by omega)]; first | (rw [if_pos (by omega)]; done) | (rw [if_neg (by omega)]; done)))
            · skip
              exact absurd c259 (by omega)
        · skip
          exact absurd c234 (by omega)
  · skip
    exact absurd c79 (by omega)
set_option maxHeartbeats 4000000 in
set_option maxRecDepth 100000 in
theorem c_L_term_2 (l : Launch) (g : GG) (ob tx ps ho : Nat) (so : Option Nat) (rk : Nat) (tc : Nat) (tn : Int) (tf : Nat → Int) (gv less : Int) (aq : Nat) (a : Nat → Int) (pr F9 c9 e9 : Int) (hpr : 2 ≤ pr ∧ pr ≤ 61) (hless : less = 0 ∨ less = 1) (htn : 0 ≤ tn ∧ tn ≤ 31) (ha : ∀ j, 0 ≤ a j ∧ a j < pr) (hF : lo gv 10 = F9) (hc9 : lo (shr9 gv 4) 10 = c9) (he9 : lo (shr9 gv 8) 10 = e9) (hk9 : lo (shr9 gv 12) 4 = 2) : qMet l yL_term wsL_term ({ frames := 3, cells := 1, slots := 40, locals := 90 }) g [.ref ob, .int (iI gv), .int (iI less), .ref aq, .int (iI pr)] [(ob, .inr (10, [.ref tx, .ref ps, .ref ho, .ref rk, va_rf so])), (tx, .inr (9, [.ref tc, .int (iI tn)])), (tc, gC g 40 tf), (aq, gI g 40 a)] (fun _ => True) (fun _ => True) (S := Unit) (fun _ => some (.int (iI 5))) (fun _ => [(ob, .inr (10, [.ref tx, .ref ps, .ref ho, .ref rk, va_rf so])), (tx, .inr (9, [.ref tc, .int (iI ((((((tn + 1) + 1) + 1) + 1) + 1) + 1))])), (tc, gC g 40 (wr [48 + F9, 42, 45, 120, 94, 48 + e9] tn tf)), (aq, gI g 40 (addr pr (neg9 2 e9 less) a (tms 0 pr e9.toNat (up (fun _ => 0) 0 (F9 % pr)))))]) (fun _ => True) 1 40 := by
  refine q_ofW (cc := cL_term) (maxL := 13) (ret := (some .int)) (fun sz h => h.self) (by decide) rfl (Nat.le_of_ble_eq_true rfl) ?_
  intro p e s m args below meth c A ls S0 hr hlocks hnme hK hA hAe hW hD0 hX hl
  have hW : gW g A s.heap s.heap [] [(ob, .inr (10, [.ref tx, .ref ps, .ref ho, .ref rk, va_rf so])), (tx, .inr (9, [.ref tc, .int (iI tn)])), (tc, gC g 40 tf), (aq, gI g 40 a)] := hW
  have hl : lv_has ls 13 [(0, .ref ob), (1, .int (iI gv)), (2, .int (iI less)), (3, .ref aq), (4, .int (iI pr))] := hl
  have hFr := lo_r (v := gv) (n := 10) (by omega)
  rw [hF] at hFr
  have hcr := lo_r (v := shr9 gv 4) (n := 10) (by omega)
  rw [hc9] at hcr
  have her := lo_r (v := shr9 gv 8) (n := 10) (by omega)
  rw [he9] at her
  have hb0 := r0_rng (p := pr) (F := F9) (by omega)
  have hB9 : ∀ j, 0 ≤ (tms 0 pr e9.toNat (up (fun _ => 0) 0 (F9 % pr))) j ∧ (tms 0 pr e9.toNat (up (fun _ => 0) 0 (F9 % pr))) j < pr := tms_rng (by omega) _ _ hb0
  refine q_bipush S0 (by decide) dL_term_0 ?_
  refine q_newI (N := 40) S0 hK hA hW (List.mem_of_getElem? (i := 1) rfl) (by omega) (Nat.le_of_ble_eq_true rfl) (Nat.le_of_ble_eq_true rfl) dL_term_2 (fun bq H hW => ?_)
  have hW : gW g A s.heap H _ [(ob, .inr (10, [.ref tx, .ref ps, .ref ho, .ref rk, va_rf so])), (tx, .inr (9, [.ref tc, .int (iI tn)])), (tc, gC g 40 tf), (aq, gI g 40 a), (bq, gI g 40 (fun _ => 0))] := hW
  refine lv_astore (lv' := [(5, .ref bq), (0, .ref ob), (1, .int (iI gv)), (2, .int (iI less)), (3, .ref aq), (4, .int (iI pr))]) S0.1 S0.2.1 dL_term_4 hl (by decide) rfl (fun ls hl => ?_)
  refine lv_iload_n S0.1 S0.2.1 dL_term_6 rfl (lv_at hl 2 rfl) ?_
  refine q_bipush S0 (by decide) dL_term_7 ?_
  refine q_pS (n := 2) (rest := []) S0 hK (c_L_low l g gv 10 (by omega)) (subP hW.1 [] rfl) (trivial) gL_term_L_low rfl rfl rfl (by decide +kernel) ⟨Nat.le_of_ble_eq_true rfl, Nat.le_of_ble_eq_true rfl⟩ rfl rfl hl.1 (Nat.le_of_ble_eq_true rfl) ⟨Nat.le_of_ble_eq_true rfl, Nat.le_of_ble_eq_true rfl⟩ dL_term_9 ?_
  refine W.eq (g2 := F0 m 12 ls [.int (iI (lo gv 10))]) rfl ?_
  refine q_topI (b := F9) (hF) ?_
  refine lv_istore (lv' := [(6, .int (iI F9)), (5, .ref bq), (0, .ref ob), (1, .int (iI gv)), (2, .int (iI less)), (3, .ref aq), (4, .int (iI pr))]) S0.1 S0.2.1 dL_term_12 hl (by decide) rfl (fun ls hl => ?_)
  refine lv_iload_n S0.1 S0.2.1 dL_term_14 rfl (lv_at hl 3 rfl) ?_
  refine q_iconst S0 dL_term_15 ?_
  refine lv_ishr S0.1 S0.2.1 dL_term_16 ?_
  refine q_top (w := .int (iI (shr9 gv 4))) (congrArg Value.int (iI_of _)) ?_
  refine q_bipush S0 (by decide) dL_term_17 ?_
  refine q_pS (n := 2) (rest := []) S0 hK (c_L_low l g (shr9 gv 4) 10 (by omega)) (subP hW.1 [] rfl) (trivial) gL_term_L_low rfl rfl rfl (by decide +kernel) ⟨Nat.le_of_ble_eq_true rfl, Nat.le_of_ble_eq_true rfl⟩ rfl rfl hl.1 (Nat.le_of_ble_eq_true rfl) ⟨Nat.le_of_ble_eq_true rfl, Nat.le_of_ble_eq_true rfl⟩ dL_term_19 ?_
  refine W.eq (g2 := F0 m 22 ls [.int (iI (lo (shr9 gv 4) 10))]) rfl ?_
  refine q_topI (b := c9) (hc9) ?_
  refine lv_istore (lv' := [(7, .int (iI c9)), (6, .int (iI F9)), (5, .ref bq), (0, .ref ob), (1, .int (iI gv)), (2, .int (iI less)), (3, .ref aq), (4, .int (iI pr))]) S0.1 S0.2.1 dL_term_22 hl (by decide) rfl (fun ls hl => ?_)
  refine lv_iload_n S0.1 S0.2.1 dL_term_24 rfl (lv_at hl 4 rfl) ?_
  refine q_bipush S0 (by decide) dL_term_25 ?_
  refine lv_ishr S0.1 S0.2.1 dL_term_27 ?_
  refine q_top (w := .int (iI (shr9 gv 8))) (congrArg Value.int (iI_of _)) ?_
  refine q_bipush S0 (by decide) dL_term_28 ?_
  refine q_pS (n := 2) (rest := []) S0 hK (c_L_low l g (shr9 gv 8) 10 (by omega)) (subP hW.1 [] rfl) (trivial) gL_term_L_low rfl rfl rfl (by decide +kernel) ⟨Nat.le_of_ble_eq_true rfl, Nat.le_of_ble_eq_true rfl⟩ rfl rfl hl.1 (Nat.le_of_ble_eq_true rfl) ⟨Nat.le_of_ble_eq_true rfl, Nat.le_of_ble_eq_true rfl⟩ dL_term_30 ?_
  refine W.eq (g2 := F0 m 33 ls [.int (iI (lo (shr9 gv 8) 10))]) rfl ?_
  refine q_topI (b := e9) (he9) ?_
  refine lv_istore (lv' := [(8, .int (iI e9)), (7, .int (iI c9)), (6, .int (iI F9)), (5, .ref bq), (0, .ref ob), (1, .int (iI gv)), (2, .int (iI less)), (3, .ref aq), (4, .int (iI pr))]) S0.1 S0.2.1 dL_term_33 hl (by decide) rfl (fun ls hl => ?_)
  refine lv_iload_n S0.1 S0.2.1 dL_term_35 rfl (lv_at hl 5 rfl) ?_
  refine q_bipush S0 (by decide) dL_term_36 ?_
  refine lv_ishr S0.1 S0.2.1 dL_term_38 ?_
  refine q_top (w := .int (iI (shr9 gv 12))) (congrArg Value.int (iI_of _)) ?_
  refine q_iconst S0 dL_term_39 ?_
  refine q_pS (n := 2) (rest := []) S0 hK (c_L_low l g (shr9 gv 12) 4 (by omega)) (subP hW.1 [] rfl) (trivial) gL_term_L_low rfl rfl rfl (by decide +kernel) ⟨Nat.le_of_ble_eq_true rfl, Nat.le_of_ble_eq_true rfl⟩ rfl rfl hl.1 (Nat.le_of_ble_eq_true rfl) ⟨Nat.le_of_ble_eq_true rfl, Nat.le_of_ble_eq_true rfl⟩ dL_term_40 ?_
  refine W.eq (g2 := F0 m 43 ls [.int (iI (lo (shr9 gv 12) 4))]) rfl ?_
  refine q_topI (b := 2) (hk9) ?_
  refine lv_istore (lv' := [(9, .int (iI 2)), (8, .int (iI e9)), (7, .int (iI c9)), (6, .int (iI F9)), (5, .ref bq), (0, .ref ob), (1, .int (iI gv)), (2, .int (iI less)), (3, .ref aq), (4, .int (iI pr))]) S0.1 S0.2.1 dL_term_43 hl (by decide) rfl (fun ls hl => ?_)
  refine lv_aload S0.1 S0.2.1 dL_term_45 (lv_at hl 4 rfl) ?_
  refine q_iconst S0 dL_term_47 ?_
  refine lv_iload S0.1 S0.2.1 dL_term_48 (lv_at hl 3 rfl) ?_
  refine lv_iload S0.1 S0.2.1 dL_term_50 (lv_at hl 9 rfl) ?_
  refine q_pS (n := 2) (rest := [.int (iI 0), .ref bq]) S0 hK (c_L_mod l g F9 pr (by omega) (by omega)) (subP hW.1 [] rfl) (trivial) gL_term_L_mod rfl rfl rfl (by decide +kernel) ⟨Nat.le_of_ble_eq_true rfl, Nat.le_of_ble_eq_true rfl⟩ rfl rfl hl.1 (Nat.le_of_ble_eq_true rfl) ⟨Nat.le_of_ble_eq_true rfl, Nat.le_of_ble_eq_true rfl⟩ dL_term_52 ?_
  refine W.eq (g2 := F0 m 55 ls [.int (iI (F9 % pr)), .int (iI 0), .ref bq]) rfl ?_
  refine q_iast S0 hK hW 4 rfl (by omega) dL_term_55 (fun H locs hW => ?_)
  have hW : gW g A s.heap H _ [(ob, .inr (10, [.ref tx, .ref ps, .ref ho, .ref rk, va_rf so])), (tx, .inr (9, [.ref tc, .int (iI tn)])), (tc, gC g 40 tf), (aq, gI g 40 a), (bq, gI g 40 (up (fun _ => 0) 0 (F9 % pr)))] := hW
  refine lv_aload_n S0.1 S0.2.1 dL_term_56 rfl (lv_at hl 5 rfl) ?_
  refine q_bipush S0 (by decide) dL_term_57 ?_
  refine lv_iload S0.1 S0.2.1 dL_term_59 (lv_at hl 3 rfl) ?_
  refine q_iadd S0 dL_term_61 ?_
  refine lv_i2c S0.1 S0.2.1 dL_term_62 (i2c_v (by omega)) ?_
  refine q_cV (n := 1) (rest := []) (wr := [(aq, gI g 40 a), (bq, gI g 40 (up (fun _ => 0) 0 (F9 % pr)))]) S0 hK hA hW (c_X10_type l g ob tx ps ho so rk tc tn tf (48 + F9) (by omega) (by omega)) gL_term_X10_type rfl rfl rfl (by decide +kernel) ⟨Nat.le_of_ble_eq_true rfl, Nat.le_of_ble_eq_true rfl⟩ [0, 1, 2] [3, 4] rfl rfl rfl rfl (by decide) (q_recv hK hW.1 (ci := 10) (q0 := 0) rfl rfl) (fun _ _ => trivial) (trivial) rfl rfl hl.1 (Nat.le_of_ble_eq_true rfl) ⟨Nat.le_of_ble_eq_true rfl, Nat.le_of_ble_eq_true rfl⟩ dL_term_63 (fun _ H locs _ hW => ?_)
  have hW : gW g A s.heap H _ [(aq, gI g 40 a), (bq, gI g 40 (up (fun _ => 0) 0 (F9 % pr))), (ob, .inr (10, [.ref tx, .ref ps, .ref ho, .ref rk, va_rf so])), (tx, .inr (9, [.ref tc, .int (iI (tn + 1))])), (tc, gC g 40 (up tf tn.toNat (48 + F9)))] := hW
  refine W.eq (g2 := F0 m 66 ls [.int (iI (tn + 1))]) rfl ?_
  refine lv_pop S0.1 S0.2.1 dL_term_66 rfl ?_
  refine lv_aload_n S0.1 S0.2.1 dL_term_67 rfl (lv_at hl 5 rfl) ?_
  refine q_bipush S0 (by decide) dL_term_68 ?_
  refine q_cV (n := 1) (rest := []) (wr := [(aq, gI g 40 a), (bq, gI g 40 (up (fun _ => 0) 0 (F9 % pr)))]) S0 hK hA hW (c_X10_type l g ob tx ps ho so rk tc (tn + 1) (up tf tn.toNat (48 + F9)) 42 (by omega) (by omega)) gL_term_X10_type rfl rfl rfl (by decide +kernel) ⟨Nat.le_of_ble_eq_true rfl, Nat.le_of_ble_eq_true rfl⟩ [2, 3, 4] [0, 1] rfl rfl rfl rfl (by decide) (q_recv hK hW.1 (ci := 10) (q0 := 2) rfl rfl) (fun _ _ => trivial) (trivial) rfl rfl hl.1 (Nat.le_of_ble_eq_true rfl) ⟨Nat.le_of_ble_eq_true rfl, Nat.le_of_ble_eq_true rfl⟩ dL_term_70 (fun _ H locs _ hW => ?_)
  have hW : gW g A s.heap H _ [(aq, gI g 40 a), (bq, gI g 40 (up (fun _ => 0) 0 (F9 % pr))), (ob, .inr (10, [.ref tx, .ref ps, .ref ho, .ref rk, va_rf so])), (tx, .inr (9, [.ref tc, .int (iI ((tn + 1) + 1))])), (tc, gC g 40 (up (up tf tn.toNat (48 + F9)) (tn + 1).toNat 42))] := hW
  refine W.eq (g2 := F0 m 73 ls [.int (iI ((tn + 1) + 1))]) rfl ?_
  refine lv_pop S0.1 S0.2.1 dL_term_73 rfl ?_
  refine q_iconst S0 dL_term_74 ?_
  refine lv_istore (lv' := [(10, .int (iI 2)), (9, .int (iI 2)), (8, .int (iI e9)), (7, .int (iI c9)), (6, .int (iI F9)), (5, .ref bq), (0, .ref ob), (1, .int (iI gv)), (2, .int (iI less)), (3, .ref aq), (4, .int (iI pr))]) S0.1 S0.2.1 dL_term_75 hl (by decide) rfl (fun ls hl => ?_)
  refine lv_iload S0.1 S0.2.1 dL_term_77 (lv_at hl 1 rfl) ?_
  refine q_if_ne (tgt := 116) S0 (by omega) dL_term_79 (by decide) (fun c79 => ?_) (fun c79 => ?_)
  · skip
    refine lv_iload S0.1 S0.2.1 dL_term_116 (lv_at hl 1 rfl) ?_
    refine q_iconst S0 dL_term_118 ?_
    refine q_icmp_ne (tgt := 135) S0 (by omega) dL_term_119 (by decide) (fun c119 => ?_) (fun c119 => ?_)
    · skip
      refine lv_iload S0.1 S0.2.1 dL_term_135 (lv_at hl 1 rfl) ?_
      refine q_iconst S0 dL_term_137 ?_
      refine q_icmp_ne (tgt := 161) S0 (by omega) dL_term_138 (by decide) (fun c138 => ?_) (fun c138 => ?_)
      · skip
        exact absurd c138 (by omega)
      · skip
        refine lv_aload_n S0.1 S0.2.1 dL_term_141 rfl (lv_at hl 6 rfl) ?_
        refine q_bipush S0 (by decide) dL_term_142 ?_
        refine q_cV (n := 1) (rest := []) (wr := [(aq, gI g 40 a), (bq, gI g 40 (up (fun _ => 0) 0 (F9 % pr)))]) S0 hK hA hW (c_X10_type l g ob tx ps ho so rk tc ((tn + 1) + 1) (up (up tf tn.toNat (48 + F9)) (tn + 1).toNat 42) 45 (by omega) (by omega)) gL_term_X10_type rfl rfl rfl (by decide +kernel) ⟨Nat.le_of_ble_eq_true rfl, Nat.le_of_ble_eq_true rfl⟩ [2, 3, 4] [0, 1] rfl rfl rfl rfl (by decide) (q_recv hK hW.1 (ci := 10) (q0 := 2) rfl rfl) (fun _ _ => trivial) (trivial) rfl rfl hl.1 (Nat.le_of_ble_eq_true rfl) ⟨Nat.le_of_ble_eq_true rfl, Nat.le_of_ble_eq_true rfl⟩ dL_term_144 (fun _ H locs _ hW => ?_)
        have hW : gW g A s.heap H _ [(aq, gI g 40 a), (bq, gI g 40 (up (fun _ => 0) 0 (F9 % pr))), (ob, .inr (10, [.ref tx, .ref ps, .ref ho, .ref rk, va_rf so])), (tx, .inr (9, [.ref tc, .int (iI (((tn + 1) + 1) + 1))])), (tc, gC g 40 (up (up (up tf tn.toNat (48 + F9)) (tn + 1).toNat 42) ((tn + 1) + 1).toNat 45))] := hW
        refine W.eq (g2 := F0 m 147 ls [.int (iI (((tn + 1) + 1) + 1))]) rfl ?_
        refine lv_pop S0.1 S0.2.1 dL_term_147 rfl ?_
        refine lv_aload_n S0.1 S0.2.1 dL_term_148 rfl (lv_at hl 6 rfl) ?_
        refine q_bipush S0 (by decide) dL_term_149 ?_
        refine q_cV (n := 1) (rest := []) (wr := [(aq, gI g 40 a), (bq, gI g 40 (up (fun _ => 0) 0 (F9 % pr)))]) S0 hK hA hW (c_X10_type l g ob tx ps ho so rk tc (((tn + 1) + 1) + 1) (up (up (up tf tn.toNat (48 + F9)) (tn + 1).toNat 42) ((tn + 1) + 1).toNat 45) 120 (by omega) (by omega)) gL_term_X10_type rfl rfl rfl (by decide +kernel) ⟨Nat.le_of_ble_eq_true rfl, Nat.le_of_ble_eq_true rfl⟩ [2, 3, 4] [0, 1] rfl rfl rfl rfl (by decide) (q_recv hK hW.1 (ci := 10) (q0 := 2) rfl rfl) (fun _ _ => trivial) (trivial) rfl rfl hl.1 (Nat.le_of_ble_eq_true rfl) ⟨Nat.le_of_ble_eq_true rfl, Nat.le_of_ble_eq_true rfl⟩ dL_term_151 (fun _ H locs _ hW => ?_)
        have hW : gW g A s.heap H _ [(aq, gI g 40 a), (bq, gI g 40 (up (fun _ => 0) 0 (F9 % pr))), (ob, .inr (10, [.ref tx, .ref ps, .ref ho, .ref rk, va_rf so])), (tx, .inr (9, [.ref tc, .int (iI ((((tn + 1) + 1) + 1) + 1))])), (tc, gC g 40 (up (up (up (up tf tn.toNat (48 + F9)) (tn + 1).toNat 42) ((tn + 1) + 1).toNat 45) (((tn + 1) + 1) + 1).toNat 120))] := hW
        refine W.eq (g2 := F0 m 154 ls [.int (iI ((((tn + 1) + 1) + 1) + 1))]) rfl ?_
        refine lv_pop S0.1 S0.2.1 dL_term_154 rfl ?_
        refine q_iinc (lv' := [(10, .int (iI (2 + 2))), (9, .int (iI 2)), (8, .int (iI e9)), (7, .int (iI c9)), (6, .int (iI F9)), (5, .ref bq), (0, .ref ob), (1, .int (iI gv)), (2, .int (iI less)), (3, .ref aq), (4, .int (iI pr))]) S0 dL_term_155 hl (k := 0) rfl (by decide) rfl (fun ls hl => ?_)
        refine lv_goto (tgt := 203) S0.1 S0.2.1 dL_term_158 (by decide) ?_
        refine lv_iload S0.1 S0.2.1 dL_term_203 (lv_at hl 1 rfl) ?_
        refine q_if_le (tgt := 255) S0 (by omega) dL_term_205 (by decide) (fun c205 => ?_) (fun c205 => ?_)
        · skip
          exact absurd c205 (by omega)
        · skip
          refine lv_aload_n S0.1 S0.2.1 dL_term_208 rfl (lv_at hl 6 rfl) ?_
          refine q_bipush S0 (by decide) dL_term_209 ?_
          refine q_cV (n := 1) (rest := []) (wr := [(aq, gI g 40 a), (bq, gI g 40 (up (fun _ => 0) 0 (F9 % pr)))]) S0 hK hA hW (c_X10_type l g ob tx ps ho so rk tc ((((tn + 1) + 1) + 1) + 1) (up (up (up (up tf tn.toNat (48 + F9)) (tn + 1).toNat 42) ((tn + 1) + 1).toNat 45) (((tn + 1) + 1) + 1).toNat 120) 94 (by omega) (by omega)) gL_term_X10_type rfl rfl rfl (by decide +kernel) ⟨Nat.le_of_ble_eq_true rfl, Nat.le_of_ble_eq_true rfl⟩ [2, 3, 4] [0, 1] rfl rfl rfl rfl (by decide) (q_recv hK hW.1 (ci := 10) (q0 := 2) rfl rfl) (fun _ _ => trivial) (trivial) rfl rfl hl.1 (Nat.le_of_ble_eq_true rfl) ⟨Nat.le_of_ble_eq_true rfl, Nat.le_of_ble_eq_true rfl⟩ dL_term_211 (fun _ H locs _ hW => ?_)
          have hW : gW g A s.heap H _ [(aq, gI g 40 a), (bq, gI g 40 (up (fun _ => 0) 0 (F9 % pr))), (ob, .inr (10, [.ref tx, .ref ps, .ref ho, .ref rk, va_rf so])), (tx, .inr (9, [.ref tc, .int (iI (((((tn + 1) + 1) + 1) + 1) + 1))])), (tc, gC g 40 (up (up (up (up (up tf tn.toNat (48 + F9)) (tn + 1).toNat 42) ((tn + 1) + 1).toNat 45) (((tn + 1) + 1) + 1).toNat 120) ((((tn + 1) + 1) + 1) + 1).toNat 94))] := hW
          refine W.eq (g2 := F0 m 214 ls [.int (iI (((((tn + 1) + 1) + 1) + 1) + 1))]) rfl ?_
          refine lv_pop S0.1 S0.2.1 dL_term_214 rfl ?_
          refine lv_aload_n S0.1 S0.2.1 dL_term_215 rfl (lv_at hl 6 rfl) ?_
          refine q_bipush S0 (by decide) dL_term_216 ?_
          refine lv_iload S0.1 S0.2.1 dL_term_218 (lv_at hl 2 rfl) ?_
          refine q_iadd S0 dL_term_220 ?_
          refine lv_i2c S0.1 S0.2.1 dL_term_221 (i2c_v (by omega)) ?_
          refine q_cV (n := 1) (rest := []) (wr := [(aq, gI g 40 a), (bq, gI g 40 (up (fun _ => 0) 0 (F9 % pr)))]) S0 hK hA hW (c_X10_type l g ob tx ps ho so rk tc (((((tn + 1) + 1) + 1) + 1) + 1) (up (up (up (up (up tf tn.toNat (48 + F9)) (tn + 1).toNat 42) ((tn + 1) + 1).toNat 45) (((tn + 1) + 1) + 1).toNat 120) ((((tn + 1) + 1) + 1) + 1).toNat 94) (48 + e9) (by omega) (by omega)) gL_term_X10_type rfl rfl rfl (by decide +kernel) ⟨Nat.le_of_ble_eq_true rfl, Nat.le_of_ble_eq_true rfl⟩ [2, 3, 4] [0, 1] rfl rfl rfl rfl (by decide) (q_recv hK hW.1 (ci := 10) (q0 := 2) rfl rfl) (fun _ _ => trivial) (trivial) rfl rfl hl.1 (Nat.le_of_ble_eq_true rfl) ⟨Nat.le_of_ble_eq_true rfl, Nat.le_of_ble_eq_true rfl⟩ dL_term_222 (fun _ H locs _ hW => ?_)
          have hW : gW g A s.heap H _ [(aq, gI g 40 a), (bq, gI g 40 (up (fun _ => 0) 0 (F9 % pr))), (ob, .inr (10, [.ref tx, .ref ps, .ref ho, .ref rk, va_rf so])), (tx, .inr (9, [.ref tc, .int (iI ((((((tn + 1) + 1) + 1) + 1) + 1) + 1))])), (tc, gC g 40 (up (up (up (up (up (up tf tn.toNat (48 + F9)) (tn + 1).toNat 42) ((tn + 1) + 1).toNat 45) (((tn + 1) + 1) + 1).toNat 120) ((((tn + 1) + 1) + 1) + 1).toNat 94) (((((tn + 1) + 1) + 1) + 1) + 1).toNat (48 + e9)))] := hW
          refine W.eq (g2 := F0 m 225 ls [.int (iI ((((((tn + 1) + 1) + 1) + 1) + 1) + 1))]) rfl ?_
          refine lv_pop S0.1 S0.2.1 dL_term_225 rfl ?_
          refine q_iinc (lv' := [(10, .int (iI ((2 + 2) + 1))), (9, .int (iI 2)), (8, .int (iI e9)), (7, .int (iI c9)), (6, .int (iI F9)), (5, .ref bq), (0, .ref ob), (1, .int (iI gv)), (2, .int (iI less)), (3, .ref aq), (4, .int (iI pr))]) S0 dL_term_226 hl (k := 0) rfl (by decide) rfl (fun ls hl => ?_)
          refine lv_aload S0.1 S0.2.1 dL_term_229 (lv_at hl 5 rfl) ?_
          refine lv_iload S0.1 S0.2.1 dL_term_231 (lv_at hl 1 rfl) ?_
          refine q_iconst S0 dL_term_233 ?_
          refine q_icmp_ne (tgt := 247) S0 (by omega) dL_term_234 (by decide) (fun c234 => ?_) (fun c234 => ?_)
          · skip
            refine q_iconst S0 dL_term_247 ?_
            refine lv_iload S0.1 S0.2.1 dL_term_248 (lv_at hl 2 rfl) ?_
            refine lv_iload S0.1 S0.2.1 dL_term_250 (lv_at hl 10 rfl) ?_
            refine q_cS (n := 4) (rest := []) (wr := [(aq, gI g 40 a), (ob, .inr (10, [.ref tx, .ref ps, .ref ho, .ref rk, va_rf so])), (tx, .inr (9, [.ref tc, .int (iI ((((((tn + 1) + 1) + 1) + 1) + 1) + 1))])), (tc, gC g 40 (up (up (up (up (up (up tf tn.toNat (48 + F9)) (tn + 1).toNat 42) ((tn + 1) + 1).toNat 45) (((tn + 1) + 1) + 1).toNat 120) ((((tn + 1) + 1) + 1) + 1).toNat 94) (((((tn + 1) + 1) + 1) + 1) + 1).toNat (48 + e9)))]) S0 hK hA hW (c_L_times l g bq (up (fun _ => 0) 0 (F9 % pr)) 0 e9 pr (hpr) (by first | exact emod_rng _ (by omega) | omega) (by omega) (hb0)) gL_term_L_times rfl rfl rfl (by decide +kernel) ⟨Nat.le_of_ble_eq_true rfl, Nat.le_of_ble_eq_true rfl⟩ [1] [0, 2, 3, 4] rfl rfl rfl rfl (by decide) (fun _ _ => trivial) (trivial) rfl rfl hl.1 (Nat.le_of_ble_eq_true rfl) ⟨Nat.le_of_ble_eq_true rfl, Nat.le_of_ble_eq_true rfl⟩ dL_term_252 (fun _ H locs _ hW => ?_)
            have hW : gW g A s.heap H _ [(aq, gI g 40 a), (ob, .inr (10, [.ref tx, .ref ps, .ref ho, .ref rk, va_rf so])), (tx, .inr (9, [.ref tc, .int (iI ((((((tn + 1) + 1) + 1) + 1) + 1) + 1))])), (tc, gC g 40 (up (up (up (up (up (up tf tn.toNat (48 + F9)) (tn + 1).toNat 42) ((tn + 1) + 1).toNat 45) (((tn + 1) + 1) + 1).toNat 120) ((((tn + 1) + 1) + 1) + 1).toNat 94) (((((tn + 1) + 1) + 1) + 1) + 1).toNat (48 + e9))), (bq, gI g 40 (tms 0 pr e9.toNat (up (fun _ => 0) 0 (F9 % pr))))] := hW
            refine W.eq (g2 := F0 m 255 ls []) rfl ?_
            refine q_cut (α := Int) (fun sg => F0 m 283 ls (.int (iI sg) :: [])) (fun sg => sg = neg9 2 e9 less) (fun sg hsg => ?_) (fun hJ255 => ?_)
            · skip
              have hsgr := neg9_r (k := 2) (e := e9) (less := less)
              rw [← hsg] at hsgr
              refine lv_istore (lv' := [(11, .int (iI sg)), (10, .int (iI ((2 + 2) + 1))), (9, .int (iI 2)), (8, .int (iI e9)), (7, .int (iI c9)), (6, .int (iI F9)), (5, .ref bq), (0, .ref ob), (1, .int (iI gv)), (2, .int (iI less)), (3, .ref aq), (4, .int (iI pr))]) S0.1 S0.2.1 dL_term_283 hl (by decide) rfl (fun ls hl => ?_)
              refine q_iconst S0 dL_term_285 ?_
              refine lv_istore (lv' := [(12, .int (iI 0)), (11, .int (iI sg)), (10, .int (iI ((2 + 2) + 1))), (9, .int (iI 2)), (8, .int (iI e9)), (7, .int (iI c9)), (6, .int (iI F9)), (5, .ref bq), (0, .ref ob), (1, .int (iI gv)), (2, .int (iI less)), (3, .ref aq), (4, .int (iI pr))]) S0.1 S0.2.1 dL_term_286 hl (by decide) rfl (fun ls hl => ?_)
              refine q_loop (α := Int) (fun (i : Int) => 0 ≤ i ∧ i ≤ 40) (fun (i : Int) => (40 - i).toNat) (fun (i : Int) => [(aq, gI g 40 (adk pr sg a (tms 0 pr e9.toNat (up (fun _ => 0) 0 (F9 % pr))) i)), (ob, .inr (10, [.ref tx, .ref ps, .ref ho, .ref rk, va_rf so])), (tx, .inr (9, [.ref tc, .int (iI ((((((tn + 1) + 1) + 1) + 1) + 1) + 1))])), (tc, gC g 40 (up (up (up (up (up (up tf tn.toNat (48 + F9)) (tn + 1).toNat 42) ((tn + 1) + 1).toNat 45) (((tn + 1) + 1) + 1).toNat 120) ((((tn + 1) + 1) + 1) + 1).toNat 94) (((((tn + 1) + 1) + 1) + 1) + 1).toNat (48 + e9))), (bq, gI g 40 (tms 0 pr e9.toNat (up (fun _ => 0) 0 (F9 % pr))))]) (fun (i : Int) => [(12, .int (iI i)), (11, .int (iI sg)), (10, .int (iI ((2 + 2) + 1))), (9, .int (iI 2)), (8, .int (iI e9)), (7, .int (iI c9)), (6, .int (iI F9)), (5, .ref bq), (0, .ref ob), (1, .int (iI gv)), (2, .int (iI less)), (3, .ref aq), (4, .int (iI pr))]) ?_ 0 (by (try dsimp only); omega) (by rw [adk_0]; exact hW) (lv_sub hl [0, 1, 2, 3, 4, 5, 6, 7, 8, 9, 10, 11, 12] rfl)
              rintro i hinv IHl H locs ls hW hl
              try dsimp only at hinv
              have hW : gW g A s.heap H _ [(aq, gI g 40 (adk pr sg a (tms 0 pr e9.toNat (up (fun _ => 0) 0 (F9 % pr))) i)), (ob, .inr (10, [.ref tx, .ref ps, .ref ho, .ref rk, va_rf so])), (tx, .inr (9, [.ref tc, .int (iI ((((((tn + 1) + 1) + 1) + 1) + 1) + 1))])), (tc, gC g 40 (up (up (up (up (up (up tf tn.toNat (48 + F9)) (tn + 1).toNat 42) ((tn + 1) + 1).toNat 45) (((tn + 1) + 1) + 1).toNat 120) ((((tn + 1) + 1) + 1) + 1).toNat 94) (((((tn + 1) + 1) + 1) + 1) + 1).toNat (48 + e9))), (bq, gI g 40 (tms 0 pr e9.toNat (up (fun _ => 0) 0 (F9 % pr))))] := hW
              have hl : lv_has ls 13 [(12, .int (iI i)), (11, .int (iI sg)), (10, .int (iI ((2 + 2) + 1))), (9, .int (iI 2)), (8, .int (iI e9)), (7, .int (iI c9)), (6, .int (iI F9)), (5, .ref bq), (0, .ref ob), (1, .int (iI gv)), (2, .int (iI less)), (3, .ref aq), (4, .int (iI pr))] := hl
              refine lv_iload S0.1 S0.2.1 dL_term_288 (lv_at hl 0 rfl) ?_
              refine q_bipush S0 (by decide) dL_term_290 ?_
              refine q_icmp_ge (tgt := 334) S0 (by omega) dL_term_292 (by decide) (fun c292 => ?_) (fun c292 => ?_)
              · skip
                refine lv_iload S0.1 S0.2.1 dL_term_334 (lv_at hl 2 rfl) ?_
                rw [show i = 40 by omega, adk_e, hsg] at hW
                exact q_iret S0 hr hlocks () (trivial) (rfl) (hW.sub [1, 2, 3, 0] rfl (rfl)) (Nat.le_of_ble_eq_true rfl) (Nat.le_of_ble_eq_true rfl) dL_term_336
              · skip
                refine lv_aload_n S0.1 S0.2.1 dL_term_295 rfl (lv_at hl 11 rfl) ?_
                refine lv_iload S0.1 S0.2.1 dL_term_296 (lv_at hl 0 rfl) ?_
                refine lv_aload_n S0.1 S0.2.1 dL_term_298 rfl (lv_at hl 11 rfl) ?_
                refine lv_iload S0.1 S0.2.1 dL_term_299 (lv_at hl 0 rfl) ?_
                refine q_iald S0 hK hW.1 0 rfl (by omega) dL_term_301 ?_
                refine q_topI (b := a i.toNat) (adk_at (by omega)) ?_
                refine q_cut (α := Int) (fun z9 => F0 m 321 ls (.int (iI z9) :: [.int (iI (a i.toNat)), .int (iI i), .ref aq])) (fun z9 => z9 = if sg = 0 then (tms 0 pr e9.toNat (up (fun _ => 0) 0 (F9 % pr))) i.toNat else -(tms 0 pr e9.toNat (up (fun _ => 0) 0 (F9 % pr))) i.toNat) (fun z9 hz9 => ?_) (fun hJ302 => ?_)
                · skip
                  have hz9r : -pr < z9 ∧ z9 < pr := by rw [hz9]; have := hB9 i.toNat; split <;> omega
                  have ha9 := ha i.toNat
                  refine q_iadd S0 dL_term_321 ?_
                  refine lv_iload S0.1 S0.2.1 dL_term_322 (lv_at hl 12 rfl) ?_
                  refine q_pS (n := 2) (rest := [.int (iI i), .ref aq]) S0 hK (c_L_mod l g ((a i.toNat) + z9) pr (by omega) (by omega)) (subP hW.1 [] rfl) (trivial) gL_term_L_mod rfl rfl rfl (by decide +kernel) ⟨Nat.le_of_ble_eq_true rfl, Nat.le_of_ble_eq_true rfl⟩ rfl rfl hl.1 (Nat.le_of_ble_eq_true rfl) ⟨Nat.le_of_ble_eq_true rfl, Nat.le_of_ble_eq_true rfl⟩ dL_term_324 ?_
                  refine W.eq (g2 := F0 m 327 ls [.int (iI (((a i.toNat) + z9) % pr)), .int (iI i), .ref aq]) rfl ?_
                  refine q_iast S0 hK hW 0 rfl (by omega) dL_term_327 (fun H locs hW => ?_)
                  have hW : gW g A s.heap H _ [(aq, gI g 40 (up (adk pr sg a (tms 0 pr e9.toNat (up (fun _ => 0) 0 (F9 % pr))) i) ((i).toNat) (((a i.toNat) + z9) % pr))), (ob, .inr (10, [.ref tx, .ref ps, .ref ho, .ref rk, va_rf so])), (tx, .inr (9, [.ref tc, .int (iI ((((((tn + 1) + 1) + 1) + 1) + 1) + 1))])), (tc, gC g 40 (up (up (up (up (up (up tf tn.toNat (48 + F9)) (tn + 1).toNat 42) ((tn + 1) + 1).toNat 45) (((tn + 1) + 1) + 1).toNat 120) ((((tn + 1) + 1) + 1) + 1).toNat 94) (((((tn + 1) + 1) + 1) + 1) + 1).toNat (48 + e9))), (bq, gI g 40 (tms 0 pr e9.toNat (up (fun _ => 0) 0 (F9 % pr))))] := hW
                  refine q_iinc (lv' := [(12, .int (iI (i + 1))), (11, .int (iI sg)), (10, .int (iI ((2 + 2) + 1))), (9, .int (iI 2)), (8, .int (iI e9)), (7, .int (iI c9)), (6, .int (iI F9)), (5, .ref bq), (0, .ref ob), (1, .int (iI gv)), (2, .int (iI less)), (3, .ref aq), (4, .int (iI pr))]) S0 dL_term_328 hl (k := 0) rfl (by decide) rfl (fun ls hl => ?_)
                  refine lv_goto (tgt := 288) S0.1 S0.2.1 dL_term_331 (by decide) ?_
                  rw [adk_s (by omega) hz9] at hW
                  exact IHl (i + 1) H locs ls (by (try dsimp only); omega) (by (try dsimp only); omega) hW (lv_sub hl [0, 1, 2, 3, 4, 5, 6, 7, 8, 9, 10, 11, 12] rfl)
                · skip
                  refine lv_iload S0.1 S0.2.1 dL_term_302 (lv_at hl 1 rfl) ?_
                  refine q_if_eq (tgt := 316) S0 (by omega) dL_term_304 (by decide) (fun c304 => ?_) (fun c304 => ?_)
                  · skip
                    refine lv_aload S0.1 S0.2.1 dL_term_316 (lv_at hl 7 rfl) ?_
                    refine lv_iload S0.1 S0.2.1 dL_term_318 (lv_at hl 0 rfl) ?_
                    refine q_iald S0 hK hW.1 4 rfl (by omega) dL_term_320 ?_
                    exact hJ302 _ (by first | (rw [if_pos (by omega)]; done) | (rw [if_neg (by omega)]; done))
                  · skip
                    refine lv_aload S0.1 S0.2.1 dL_term_307 (lv_at hl 7 rfl) ?_
                    refine lv_iload S0.1 S0.2.1 dL_term_309 (lv_at hl 0 rfl) ?_
                    refine q_iald S0 hK hW.1 4 rfl (by omega) dL_term_311 ?_
                    refine q_ineg S0 dL_term_312 ?_
                    refine lv_goto (tgt := 321) S0.1 S0.2.1 dL_term_313 (by decide) ?_
                    exact hJ302 _ (by first | (rw [if_pos (by omega)]; done) | (rw [if_neg (by omega)]; done))
            · skip
              refine lv_iload_n S0.1 S0.2.1 dL_term_255 rfl (lv_at hl 8 rfl) ?_
              refine lv_iload S0.1 S0.2.1 dL_term_256 (lv_at hl 1 rfl) ?_
              refine q_iconst S0 dL_term_258 ?_
              refine q_icmp_ne (tgt := 274) S0 (by omega) dL_term_259 (by decide) (fun c259 => ?_) (fun c259 => ?_)
              · skip
                exact absurd c259 (by omega)
              · skip
                refine lv_iload S0.1 S0.2.1 dL_term_262 (lv_at hl 2 rfl) ?_
                refine q_iconst S0 dL_term_264 ?_
                refine q_irem S0 (by omega) (by omega) dL_term_265 ?_
                refine q_topI (b := e9 % 2) (Int.tmod_eq_emod_of_nonneg (by omega)) ?_
                refine q_iconst S0 dL_term_266 ?_
                refine q_icmp_ne (tgt := 274) S0 (by omega) dL_term_267 (by decide) (fun c267 => ?_) (fun c267 => ?_)
                · skip
                  refine q_iconst S0 dL_term_274 ?_
                  refine q_icmp_eq (tgt := 282) S0 (by omega) dL_term_275 (by decide) (fun c275 => ?_) (fun c275 => ?_)
                  · skip
                    refine q_iconst S0 dL_term_282 ?_
                    exact hJ255 _ (by first | (rw [neg9_a (by omega)]; first | (rw [if_pos (by omega)]; done) | (rw [if_neg (by omega)]; done)) | (rw [neg9_b (by omega)]; first | (rw [if_pos (by omega)]; done) | (rw [if_neg (by omega)]; done)))
                  · skip
                    refine q_iconst S0 dL_term_278 ?_
                    refine lv_goto (tgt := 283) S0.1 S0.2.1 dL_term_279 (by decide) ?_
                    exact hJ255 _ (by first | (rw [neg9_a (by omega)]; first | (rw [if_pos (by omega)]; done) | (rw [if_neg (by omega)]; done)) | (rw [neg9_b (by omega)]; first | (rw [if_pos (by omega)]; done) | (rw [if_neg (by omega)]; done)))
                · skip
                  refine q_iconst S0 dL_term_270 ?_
                  refine lv_goto (tgt := 275) S0.1 S0.2.1 dL_term_271 (by decide) ?_
                  refine q_icmp_eq (tgt := 282) S0 (by omega) dL_term_275 (by decide) (fun c275 => ?_) (fun c275 => ?_)
                  · skip
                    refine q_iconst S0 dL_term_282 ?_
                    exact hJ255 _ (by first | (rw [neg9_a (by omega)]; first | (rw [if_pos (by omega)]; done) | (rw [if_neg (by omega)]; done)) | (rw [neg9_b (by omega)]; first | (rw [if_pos (by omega)]; done) | (rw [if_neg (by omega)]; done)))
                  · skip
                    refine q_iconst S0 dL_term_278 ?_
                    refine lv_goto (tgt := 283) S0.1 S0.2.1 dL_term_279 (by decide) ?_
                    exact hJ255 _ (by first | (rw [neg9_a (by omega)]; first | (rw [if_pos (by omega)]; done) | (rw [if_neg (by omega)]; done)) | (rw [neg9_b (by omega)]; first | (rw [if_pos (by omega)]; done) | (rw [if_neg (by omega)]; done)))
          · skip
            exact absurd c234 (by omega)
    · skip
      exact absurd c119 (by omega)
  · skip
    exact absurd c79 (by omega)
set_option maxHeartbeats 4000000 in
set_option maxRecDepth 100000 in
theorem c_L_term_3 (l : Launch) (g : GG) (ob tx ps ho : Nat) (so : Option Nat) (rk : Nat) (tc : Nat) (tn : Int) (tf : Nat → Int) (gv less : Int) (aq : Nat) (a : Nat → Int) (pr F9 c9 e9 : Int) (hpr : 2 ≤ pr ∧ pr ≤ 61) (hless : less = 0 ∨ less = 1) (htn : 0 ≤ tn ∧ tn ≤ 31) (ha : ∀ j, 0 ≤ a j ∧ a j < pr) (hF : lo gv 10 = F9) (hc9 : lo (shr9 gv 4) 10 = c9) (he9 : lo (shr9 gv 8) 10 = e9) (hk9 : lo (shr9 gv 12) 4 = 3) : qMet l yL_term wsL_term ({ frames := 3, cells := 1, slots := 40, locals := 90 }) g [.ref ob, .int (iI gv), .int (iI less), .ref aq, .int (iI pr)] [(ob, .inr (10, [.ref tx, .ref ps, .ref ho, .ref rk, va_rf so])), (tx, .inr (9, [.ref tc, .int (iI tn)])), (tc, gC g 40 tf), (aq, gI g 40 a)] (fun _ => True) (fun _ => True) (S := Unit) (fun _ => some (.int (iI 6))) (fun _ => [(ob, .inr (10, [.ref tx, .ref ps, .ref ho, .ref rk, va_rf so])), (tx, .inr (9, [.ref tc, .int (iI (((((((((tn + 1) + 1) + 1) + 1) + 1) + 1) + 1) + 1) + 1))])), (tc, gC g 40 (wr [48 + F9, 42, 40, 120, 43, 48 + c9, 41, 94, 48 + e9] tn tf)), (aq, gI g 40 (addr pr (neg9 3 e9 less) a (tms (c9 % pr) pr e9.toNat (up (fun _ => 0) 0 (F9 % pr)))))]) (fun _ => True) 1 40 := by
  refine q_ofW (cc := cL_term) (maxL := 13) (ret := (some .int)) (fun sz h => h.self) (by decide) rfl (Nat.le_of_ble_eq_true rfl) ?_
  intro p e s m args below meth c A ls S0 hr hlocks hnme hK hA hAe hW hD0 hX hl
  have hW : gW g A s.heap s.heap [] [(ob, .inr (10, [.ref tx, .ref ps, .ref ho, .ref rk, va_rf so])), (tx, .inr (9, [.ref tc, .int (iI tn)])), (tc, gC g 40 tf), (aq, gI g 40 a)] := hW
  have hl : lv_has ls 13 [(0, .ref ob), (1, .int (iI gv)), (2, .int (iI less)), (3, .ref aq), (4, .int (iI pr))] := hl
  have hFr := lo_r (v := gv) (n := 10) (by omega)
  rw [hF] at hFr
  have hcr := lo_r (v := shr9 gv 4) (n := 10) (by omega)
  rw [hc9] at hcr
  have her := lo_r (v := shr9 gv 8) (n := 10) (by omega)
  rw [he9] at her
  have hb0 := r0_rng (p := pr) (F := F9) (by omega)
  have hB9 : ∀ j, 0 ≤ (tms (c9 % pr) pr e9.toNat (up (fun _ => 0) 0 (F9 % pr))) j ∧ (tms (c9 % pr) pr e9.toNat (up (fun _ => 0) 0 (F9 % pr))) j < pr := tms_rng (by omega) _ _ hb0
  refine q_bipush S0 (by decide) dL_term_0 ?_
  refine q_newI (N := 40) S0 hK hA hW (List.mem_of_getElem? (i := 1) rfl) (by omega) (Nat.le_of_ble_eq_true rfl) (Nat.le_of_ble_eq_true rfl) dL_term_2 (fun bq H hW => ?_)
  have hW : gW g A s.heap H _ [(ob, .inr (10, [.ref tx, .ref ps, .ref ho, .ref rk, va_rf so])), (tx, .inr (9, [.ref tc, .int (iI tn)])), (tc, gC g 40 tf), (aq, gI g 40 a), (bq, gI g 40 (fun _ => 0))] := hW
  refine lv_astore (lv' := [(5, .ref bq), (0, .ref ob), (1, .int (iI gv)), (2, .int (iI less)), (3, .ref aq), (4, .int (iI pr))]) S0.1 S0.2.1 dL_term_4 hl (by decide) rfl (fun ls hl => ?_)
  refine lv_iload_n S0.1 S0.2.1 dL_term_6 rfl (lv_at hl 2 rfl) ?_
  refine q_bipush S0 (by decide) dL_term_7 ?_
  refine q_pS (n := 2) (rest := []) S0 hK (c_L_low l g gv 10 (by omega)) (subP hW.1 [] rfl) (trivial) gL_term_L_low rfl rfl rfl (by decide +kernel) ⟨Nat.le_of_ble_eq_true rfl, Nat.le_of_ble_eq_true rfl⟩ rfl rfl hl.1 (Nat.le_of_ble_eq_true rfl) ⟨Nat.le_of_ble_eq_true rfl, Nat.le_of_ble_eq_true rfl⟩ dL_term_9 ?_
  refine W.eq (g2 := F0 m 12 ls [.int (iI (lo gv 10))]) rfl ?_
  refine q_topI (b := F9) (hF) ?_
  refine lv_istore (lv' := [(6, .int (iI F9)), (5, .ref bq), (0, .ref ob), (1, .int (iI gv)), (2, .int (iI less)), (3, .ref aq), (4, .int (iI pr))]) S0.1 S0.2.1 dL_term_12 hl (by decide) rfl (fun ls hl => ?_)
  refine lv_iload_n S0.1 S0.2.1 dL_term_14 rfl (lv_at hl 3 rfl) ?_
  refine q_iconst S0 dL_term_15 ?_
  refine lv_ishr S0.1 S0.2.1 dL_term_16 ?_
  refine q_top (w := .int (iI (shr9 gv 4))) (congrArg Value.int (iI_of _)) ?_
  refine q_bipush S0 (by decide) dL_term_17 ?_
  refine q_pS (n := 2) (rest := []) S0 hK (c_L_low l g (shr9 gv 4) 10 (by omega)) (subP hW.1 [] rfl) (trivial) gL_term_L_low rfl rfl rfl (by decide +kernel) ⟨Nat.le_of_ble_eq_true rfl, Nat.le_of_ble_eq_true rfl⟩ rfl rfl hl.1 (Nat.le_of_ble_eq_true rfl) ⟨Nat.le_of_ble_eq_true rfl, Nat.le_of_ble_eq_true rfl⟩ dL_term_19 ?_
  refine W.eq (g2 := F0 m 22 ls [.int (iI (lo (shr9 gv 4) 10))]) rfl ?_
  refine q_topI (b := c9) (hc9) ?_
  refine lv_istore (lv' := [(7, .int (iI c9)), (6, .int (iI F9)), (5, .ref bq), (0, .ref ob), (1, .int (iI gv)), (2, .int (iI less)), (3, .ref aq), (4, .int (iI pr))]) S0.1 S0.2.1 dL_term_22 hl (by decide) rfl (fun ls hl => ?_)
  refine lv_iload_n S0.1 S0.2.1 dL_term_24 rfl (lv_at hl 4 rfl) ?_
  refine q_bipush S0 (by decide) dL_term_25 ?_
  refine lv_ishr S0.1 S0.2.1 dL_term_27 ?_
  refine q_top (w := .int (iI (shr9 gv 8))) (congrArg Value.int (iI_of _)) ?_
  refine q_bipush S0 (by decide) dL_term_28 ?_
  refine q_pS (n := 2) (rest := []) S0 hK (c_L_low l g (shr9 gv 8) 10 (by omega)) (subP hW.1 [] rfl) (trivial) gL_term_L_low rfl rfl rfl (by decide +kernel) ⟨Nat.le_of_ble_eq_true rfl, Nat.le_of_ble_eq_true rfl⟩ rfl rfl hl.1 (Nat.le_of_ble_eq_true rfl) ⟨Nat.le_of_ble_eq_true rfl, Nat.le_of_ble_eq_true rfl⟩ dL_term_30 ?_
  refine W.eq (g2 := F0 m 33 ls [.int (iI (lo (shr9 gv 8) 10))]) rfl ?_
  refine q_topI (b := e9) (he9) ?_
  refine lv_istore (lv' := [(8, .int (iI e9)), (7, .int (iI c9)), (6, .int (iI F9)), (5, .ref bq), (0, .ref ob), (1, .int (iI gv)), (2, .int (iI less)), (3, .ref aq), (4, .int (iI pr))]) S0.1 S0.2.1 dL_term_33 hl (by decide) rfl (fun ls hl => ?_)
  refine lv_iload_n S0.1 S0.2.1 dL_term_35 rfl (lv_at hl 5 rfl) ?_
  refine q_bipush S0 (by decide) dL_term_36 ?_
  refine lv_ishr S0.1 S0.2.1 dL_term_38 ?_
  refine q_top (w := .int (iI (shr9 gv 12))) (congrArg Value.int (iI_of _)) ?_
  refine q_iconst S0 dL_term_39 ?_
  refine q_pS (n := 2) (rest := []) S0 hK (c_L_low l g (shr9 gv 12) 4 (by omega)) (subP hW.1 [] rfl) (trivial) gL_term_L_low rfl rfl rfl (by decide +kernel) ⟨Nat.le_of_ble_eq_true rfl, Nat.le_of_ble_eq_true rfl⟩ rfl rfl hl.1 (Nat.le_of_ble_eq_true rfl) ⟨Nat.le_of_ble_eq_true rfl, Nat.le_of_ble_eq_true rfl⟩ dL_term_40 ?_
  refine W.eq (g2 := F0 m 43 ls [.int (iI (lo (shr9 gv 12) 4))]) rfl ?_
  refine q_topI (b := 3) (hk9) ?_
  refine lv_istore (lv' := [(9, .int (iI 3)), (8, .int (iI e9)), (7, .int (iI c9)), (6, .int (iI F9)), (5, .ref bq), (0, .ref ob), (1, .int (iI gv)), (2, .int (iI less)), (3, .ref aq), (4, .int (iI pr))]) S0.1 S0.2.1 dL_term_43 hl (by decide) rfl (fun ls hl => ?_)
  refine lv_aload S0.1 S0.2.1 dL_term_45 (lv_at hl 4 rfl) ?_
  refine q_iconst S0 dL_term_47 ?_
  refine lv_iload S0.1 S0.2.1 dL_term_48 (lv_at hl 3 rfl) ?_
  refine lv_iload S0.1 S0.2.1 dL_term_50 (lv_at hl 9 rfl) ?_
  refine q_pS (n := 2) (rest := [.int (iI 0), .ref bq]) S0 hK (c_L_mod l g F9 pr (by omega) (by omega)) (subP hW.1 [] rfl) (trivial) gL_term_L_mod rfl rfl rfl (by decide +kernel) ⟨Nat.le_of_ble_eq_true rfl, Nat.le_of_ble_eq_true rfl⟩ rfl rfl hl.1 (Nat.le_of_ble_eq_true rfl) ⟨Nat.le_of_ble_eq_true rfl, Nat.le_of_ble_eq_true rfl⟩ dL_term_52 ?_
  refine W.eq (g2 := F0 m 55 ls [.int (iI (F9 % pr)), .int (iI 0), .ref bq]) rfl ?_
  refine q_iast S0 hK hW 4 rfl (by omega) dL_term_55 (fun H locs hW => ?_)
  have hW : gW g A s.heap H _ [(ob, .inr (10, [.ref tx, .ref ps, .ref ho, .ref rk, va_rf so])), (tx, .inr (9, [.ref tc, .int (iI tn)])), (tc, gC g 40 tf), (aq, gI g 40 a), (bq, gI g 40 (up (fun _ => 0) 0 (F9 % pr)))] := hW
  refine lv_aload_n S0.1 S0.2.1 dL_term_56 rfl (lv_at hl 5 rfl) ?_
  refine q_bipush S0 (by decide) dL_term_57 ?_
  refine lv_iload S0.1 S0.2.1 dL_term_59 (lv_at hl 3 rfl) ?_
  refine q_iadd S0 dL_term_61 ?_
  refine lv_i2c S0.1 S0.2.1 dL_term_62 (i2c_v (by omega)) ?_
  refine q_cV (n := 1) (rest := []) (wr := [(aq, gI g 40 a), (bq, gI g 40 (up (fun _ => 0) 0 (F9 % pr)))]) S0 hK hA hW (c_X10_type l g ob tx ps ho so rk tc tn tf (48 + F9) (by omega) (by omega)) gL_term_X10_type rfl rfl rfl (by decide +kernel) ⟨Nat.le_of_ble_eq_true rfl, Nat.le_of_ble_eq_true rfl⟩ [0, 1, 2] [3, 4] rfl rfl rfl rfl (by decide) (q_recv hK hW.1 (ci := 10) (q0 := 0) rfl rfl) (fun _ _ => trivial) (trivial) rfl rfl hl.1 (Nat.le_of_ble_eq_true rfl) ⟨Nat.le_of_ble_eq_true rfl, Nat.le_of_ble_eq_true rfl⟩ dL_term_63 (fun _ H locs _ hW => ?_)
  have hW : gW g A s.heap H _ [(aq, gI g 40 a), (bq, gI g 40 (up (fun _ => 0) 0 (F9 % pr))), (ob, .inr (10, [.ref tx, .ref ps, .ref ho, .ref rk, va_rf so])), (tx, .inr (9, [.ref tc, .int (iI (tn + 1))])), (tc, gC g 40 (up tf tn.toNat (48 + F9)))] := hW
  refine W.eq (g2 := F0 m 66 ls [.int (iI (tn + 1))]) rfl ?_
  refine lv_pop S0.1 S0.2.1 dL_term_66 rfl ?_
  refine lv_aload_n S0.1 S0.2.1 dL_term_67 rfl (lv_at hl 5 rfl) ?_
  refine q_bipush S0 (by decide) dL_term_68 ?_
  refine q_cV (n := 1) (rest := []) (wr := [(aq, gI g 40 a), (bq, gI g 40 (up (fun _ => 0) 0 (F9 % pr)))]) S0 hK hA hW (c_X10_type l g ob tx ps ho so rk tc (tn + 1) (up tf tn.toNat (48 + F9)) 42 (by omega) (by omega)) gL_term_X10_type rfl rfl rfl (by decide +kernel) ⟨Nat.le_of_ble_eq_true rfl, Nat.le_of_ble_eq_true rfl⟩ [2, 3, 4] [0, 1] rfl rfl rfl rfl (by decide) (q_recv hK hW.1 (ci := 10) (q0 := 2) rfl rfl) (fun _ _ => trivial) (trivial) rfl rfl hl.1 (Nat.le_of_ble_eq_true rfl) ⟨Nat.le_of_ble_eq_true rfl, Nat.le_of_ble_eq_true rfl⟩ dL_term_70 (fun _ H locs _ hW => ?_)
  have hW : gW g A s.heap H _ [(aq, gI g 40 a), (bq, gI g 40 (up (fun _ => 0) 0 (F9 % pr))), (ob, .inr (10, [.ref tx, .ref ps, .ref ho, .ref rk, va_rf so])), (tx, .inr (9, [.ref tc, .int (iI ((tn + 1) + 1))])), (tc, gC g 40 (up (up tf tn.toNat (48 + F9)) (tn + 1).toNat 42))] := hW
  refine W.eq (g2 := F0 m 73 ls [.int (iI ((tn + 1) + 1))]) rfl ?_
  refine lv_pop S0.1 S0.2.1 dL_term_73 rfl ?_
  refine q_iconst S0 dL_term_74 ?_
  refine lv_istore (lv' := [(10, .int (iI 2)), (9, .int (iI 3)), (8, .int (iI e9)), (7, .int (iI c9)), (6, .int (iI F9)), (5, .ref bq), (0, .ref ob), (1, .int (iI gv)), (2, .int (iI less)), (3, .ref aq), (4, .int (iI pr))]) S0.1 S0.2.1 dL_term_75 hl (by decide) rfl (fun ls hl => ?_)
  refine lv_iload S0.1 S0.2.1 dL_term_77 (lv_at hl 1 rfl) ?_
  refine q_if_ne (tgt := 116) S0 (by omega) dL_term_79 (by decide) (fun c79 => ?_) (fun c79 => ?_)
  · skip
    refine lv_iload S0.1 S0.2.1 dL_term_116 (lv_at hl 1 rfl) ?_
    refine q_iconst S0 dL_term_118 ?_
    refine q_icmp_ne (tgt := 135) S0 (by omega) dL_term_119 (by decide) (fun c119 => ?_) (fun c119 => ?_)
    · skip
      refine lv_iload S0.1 S0.2.1 dL_term_135 (lv_at hl 1 rfl) ?_
      refine q_iconst S0 dL_term_137 ?_
      refine q_icmp_ne (tgt := 161) S0 (by omega) dL_term_138 (by decide) (fun c138 => ?_) (fun c138 => ?_)
      · skip
        refine lv_aload_n S0.1 S0.2.1 dL_term_161 rfl (lv_at hl 6 rfl) ?_
        refine q_bipush S0 (by decide) dL_term_162 ?_
        refine q_cV (n := 1) (rest := []) (wr := [(aq, gI g 40 a), (bq, gI g 40 (up (fun _ => 0) 0 (F9 % pr)))]) S0 hK hA hW (c_X10_type l g ob tx ps ho so rk tc ((tn + 1) + 1) (up (up tf tn.toNat (48 + F9)) (tn + 1).toNat 42) 40 (by omega) (by omega)) gL_term_X10_type rfl rfl rfl (by decide +kernel) ⟨Nat.le_of_ble_eq_true rfl, Nat.le_of_ble_eq_true rfl⟩ [2, 3, 4] [0, 1] rfl rfl rfl rfl (by decide) (q_recv hK hW.1 (ci := 10) (q0 := 2) rfl rfl) (fun _ _ => trivial) (trivial) rfl rfl hl.1 (Nat.le_of_ble_eq_true rfl) ⟨Nat.le_of_ble_eq_true rfl, Nat.le_of_ble_eq_true rfl⟩ dL_term_164 (fun _ H locs _ hW => ?_)
        have hW : gW g A s.heap H _ [(aq, gI g 40 a), (bq, gI g 40 (up (fun _ => 0) 0 (F9 % pr))), (ob, .inr (10, [.ref tx, .ref ps, .ref ho, .ref rk, va_rf so])), (tx, .inr (9, [.ref tc, .int (iI (((tn + 1) + 1) + 1))])), (tc, gC g 40 (up (up (up tf tn.toNat (48 + F9)) (tn + 1).toNat 42) ((tn + 1) + 1).toNat 40))] := hW
        refine W.eq (g2 := F0 m 167 ls [.int (iI (((tn + 1) + 1) + 1))]) rfl ?_
        refine lv_pop S0.1 S0.2.1 dL_term_167 rfl ?_
        refine lv_aload_n S0.1 S0.2.1 dL_term_168 rfl (lv_at hl 6 rfl) ?_
        refine q_bipush S0 (by decide) dL_term_169 ?_
        refine q_cV (n := 1) (rest := []) (wr := [(aq, gI g 40 a), (bq, gI g 40 (up (fun _ => 0) 0 (F9 % pr)))]) S0 hK hA hW (c_X10_type l g ob tx ps ho so rk tc (((tn + 1) + 1) + 1) (up (up (up tf tn.toNat (48 + F9)) (tn + 1).toNat 42) ((tn + 1) + 1).toNat 40) 120 (by omega) (by omega)) gL_term_X10_type rfl rfl rfl (by decide +kernel) ⟨Nat.le_of_ble_eq_true rfl, Nat.le_of_ble_eq_true rfl⟩ [2, 3, 4] [0, 1] rfl rfl rfl rfl (by decide) (q_recv hK hW.1 (ci := 10) (q0 := 2) rfl rfl) (fun _ _ => trivial) (trivial) rfl rfl hl.1 (Nat.le_of_ble_eq_true rfl) ⟨Nat.le_of_ble_eq_true rfl, Nat.le_of_ble_eq_true rfl⟩ dL_term_171 (fun _ H locs _ hW => ?_)
        have hW : gW g A s.heap H _ [(aq, gI g 40 a), (bq, gI g 40 (up (fun _ => 0) 0 (F9 % pr))), (ob, .inr (10, [.ref tx, .ref ps, .ref ho, .ref rk, va_rf so])), (tx, .inr (9, [.ref tc, .int (iI ((((tn + 1) + 1) + 1) + 1))])), (tc, gC g 40 (up (up (up (up tf tn.toNat (48 + F9)) (tn + 1).toNat 42) ((tn + 1) + 1).toNat 40) (((tn + 1) + 1) + 1).toNat 120))] := hW
        refine W.eq (g2 := F0 m 174 ls [.int (iI ((((tn + 1) + 1) + 1) + 1))]) rfl ?_
        refine lv_pop S0.1 S0.2.1 dL_term_174 rfl ?_
        refine lv_aload_n S0.1 S0.2.1 dL_term_175 rfl (lv_at hl 6 rfl) ?_
        refine q_bipush S0 (by decide) dL_term_176 ?_
        refine q_cV (n := 1) (rest := []) (wr := [(aq, gI g 40 a), (bq, gI g 40 (up (fun _ => 0) 0 (F9 % pr)))]) S0 hK hA hW (c_X10_type l g ob tx ps ho so rk tc ((((tn + 1) + 1) + 1) + 1) (up (up (up (up tf tn.toNat (48 + F9)) (tn + 1).toNat 42) ((tn + 1) + 1).toNat 40) (((tn + 1) + 1) + 1).toNat 120) 43 (by omega) (by omega)) gL_term_X10_type rfl rfl rfl (by decide +kernel) ⟨Nat.le_of_ble_eq_true rfl, Nat.le_of_ble_eq_true rfl⟩ [2, 3, 4] [0, 1] rfl rfl rfl rfl (by decide) (q_recv hK hW.1 (ci := 10) (q0 := 2) rfl rfl) (fun _ _ => trivial) (trivial) rfl rfl hl.1 (Nat.le_of_ble_eq_true rfl) ⟨Nat.le_of_ble_eq_true rfl, Nat.le_of_ble_eq_true rfl⟩ dL_term_178 (fun _ H locs _ hW => ?_)
        have hW : gW g A s.heap H _ [(aq, gI g 40 a), (bq, gI g 40 (up (fun _ => 0) 0 (F9 % pr))), (ob, .inr (10, [.ref tx, .ref ps, .ref ho, .ref rk, va_rf so])), (tx, .inr (9, [.ref tc, .int (iI (((((tn + 1) + 1) + 1) + 1) + 1))])), (tc, gC g 40 (up (up (up (up (up tf tn.toNat (48 + F9)) (tn + 1).toNat 42) ((tn + 1) + 1).toNat 40) (((tn + 1) + 1) + 1).toNat 120) ((((tn + 1) + 1) + 1) + 1).toNat 43))] := hW
        refine W.eq (g2 := F0 m 181 ls [.int (iI (((((tn + 1) + 1) + 1) + 1) + 1))]) rfl ?_
        refine lv_pop S0.1 S0.2.1 dL_term_181 rfl ?_
        refine lv_aload_n S0.1 S0.2.1 dL_term_182 rfl (lv_at hl 6 rfl) ?_
        refine q_bipush S0 (by decide) dL_term_183 ?_
        refine lv_iload S0.1 S0.2.1 dL_term_185 (lv_at hl 3 rfl) ?_
        refine q_iadd S0 dL_term_187 ?_
        refine lv_i2c S0.1 S0.2.1 dL_term_188 (i2c_v (by omega)) ?_
        refine q_cV (n := 1) (rest := []) (wr := [(aq, gI g 40 a), (bq, gI g 40 (up (fun _ => 0) 0 (F9 % pr)))]) S0 hK hA hW (c_X10_type l g ob tx ps ho so rk tc (((((tn + 1) + 1) + 1) + 1) + 1) (up (up (up (up (up tf tn.toNat (48 + F9)) (tn + 1).toNat 42) ((tn + 1) + 1).toNat 40) (((tn + 1) + 1) + 1).toNat 120) ((((tn + 1) + 1) + 1) + 1).toNat 43) (48 + c9) (by omega) (by omega)) gL_term_X10_type rfl rfl rfl (by decide +kernel) ⟨Nat.le_of_ble_eq_true rfl, Nat.le_of_ble_eq_true rfl⟩ [2, 3, 4] [0, 1] rfl rfl rfl rfl (by decide) (q_recv hK hW.1 (ci := 10) (q0 := 2) rfl rfl) (fun _ _ => trivial) (trivial) rfl rfl hl.1 (Nat.le_of_ble_eq_true rfl) ⟨Nat.le_of_ble_eq_true rfl, Nat.le_of_ble_eq_true rfl⟩ dL_term_189 (fun _ H locs _ hW => ?_)
        have hW : gW g A s.heap H _ [(aq, gI g 40 a), (bq, gI g 40 (up (fun _ => 0) 0 (F9 % pr))), (ob, .inr (10, [.ref tx, .ref ps, .ref ho, .ref rk, va_rf so])), (tx, .inr (9, [.ref tc, .int (iI ((((((tn + 1) + 1) + 1) + 1) + 1) + 1))])), (tc, gC g 40 (up (up (up (up (up (up tf tn.toNat (48 + F9)) (tn + 1).toNat 42) ((tn + 1) + 1).toNat 40) (((tn + 1) + 1) + 1).toNat 120) ((((tn + 1) + 1) + 1) + 1).toNat 43) (((((tn + 1) + 1) + 1) + 1) + 1).toNat (48 + c9)))] := hW
        refine W.eq (g2 := F0 m 192 ls [.int (iI ((((((tn + 1) + 1) + 1) + 1) + 1) + 1))]) rfl ?_
        refine lv_pop S0.1 S0.2.1 dL_term_192 rfl ?_
        refine lv_aload_n S0.1 S0.2.1 dL_term_193 rfl (lv_at hl 6 rfl) ?_
        refine q_bipush S0 (by decide) dL_term_194 ?_
        refine q_cV (n := 1) (rest := []) (wr := [(aq, gI g 40 a), (bq, gI g 40 (up (fun _ => 0) 0 (F9 % pr)))]) S0 hK hA hW (c_X10_type l g ob tx ps ho so rk tc ((((((tn + 1) + 1) + 1) + 1) + 1) + 1) (up (up (up (up (up (up tf tn.toNat (48 + F9)) (tn + 1).toNat 42) ((tn + 1) + 1).toNat 40) (((tn + 1) + 1) + 1).toNat 120) ((((tn + 1) + 1) + 1) + 1).toNat 43) (((((tn + 1) + 1) + 1) + 1) + 1).toNat (48 + c9)) 41 (by omega) (by omega)) gL_term_X10_type rfl rfl rfl (by decide +kernel) ⟨Nat.le_of_ble_eq_true rfl, Nat.le_of_ble_eq_true rfl⟩ [2, 3, 4] [0, 1] rfl rfl rfl rfl (by decide) (q_recv hK hW.1 (ci := 10) (q0 := 2) rfl rfl) (fun _ _ => trivial) (trivial) rfl rfl hl.1 (Nat.le_of_ble_eq_true rfl) ⟨Nat.le_of_ble_eq_true rfl, Nat.le_of_ble_eq_true rfl⟩ dL_term_196 (fun _ H locs _ hW => ?_)
        have hW : gW g A s.heap H _ [(aq, gI g 40 a), (bq, gI g 40 (up (fun _ => 0) 0 (F9 % pr))), (ob, .inr (10, [.ref tx, .ref ps, .ref ho, .ref rk, va_rf so])), (tx, .inr (9, [.ref tc, .int (iI (((((((tn + 1) + 1) + 1) + 1) + 1) + 1) + 1))])), (tc, gC g 40 (up (up (up (up (up (up (up tf tn.toNat (48 + F9)) (tn + 1).toNat 42) ((tn + 1) + 1).toNat 40) (((tn + 1) + 1) + 1).toNat 120) ((((tn + 1) + 1) + 1) + 1).toNat 43) (((((tn + 1) + 1) + 1) + 1) + 1).toNat (48 + c9)) ((((((tn + 1) + 1) + 1) + 1) + 1) + 1).toNat 41))] := hW
        refine W.eq (g2 := F0 m 199 ls [.int (iI (((((((tn + 1) + 1) + 1) + 1) + 1) + 1) + 1))]) rfl ?_
        refine lv_pop S0.1 S0.2.1 dL_term_199 rfl ?_
        refine q_iinc (lv' := [(10, .int (iI (2 + 3))), (9, .int (iI 3)), (8, .int (iI e9)), (7, .int (iI c9)), (6, .int (iI F9)), (5, .ref bq), (0, .ref ob), (1, .int (iI gv)), (2, .int (iI less)), (3, .ref aq), (4, .int (iI pr))]) S0 dL_term_200 hl (k := 0) rfl (by decide) rfl (fun ls hl => ?_)
        refine lv_iload S0.1 S0.2.1 dL_term_203 (lv_at hl 1 rfl) ?_
        refine q_if_le (tgt := 255) S0 (by omega) dL_term_205 (by decide) (fun c205 => ?_) (fun c205 => ?_)
        · skip
          exact absurd c205 (by omega)
        · skip
          refine lv_aload_n S0.1 S0.2.1 dL_term_208 rfl (lv_at hl 6 rfl) ?_
          refine q_bipush S0 (by decide) dL_term_209 ?_
          refine q_cV (n := 1) (rest := []) (wr := [(aq, gI g 40 a), (bq, gI g 40 (up (fun _ => 0) 0 (F9 % pr)))]) S0 hK hA hW (c_X10_type l g ob tx ps ho so rk tc (((((((tn + 1) + 1) + 1) + 1) + 1) + 1) + 1) (up (up (up (up (up (up (up tf tn.toNat (48 + F9)) (tn + 1).toNat 42) ((tn + 1) + 1).toNat 40) (((tn + 1) + 1) + 1).toNat 120) ((((tn + 1) + 1) + 1) + 1).toNat 43) (((((tn + 1) + 1) + 1) + 1) + 1).toNat (48 + c9)) ((((((tn + 1) + 1) + 1) + 1) + 1) + 1).toNat 41) 94 (by omega) (by omega)) gL_term_X10_type rfl rfl rfl (by decide +kernel) ⟨Nat.le_of_ble_eq_true rfl, Nat.le_of_ble_eq_true rfl⟩ [2, 3, 4] [0, 1] rfl rfl rfl rfl (by decide) (q_recv hK hW.1 (ci := 10) (q0 := 2) rfl rfl) (fun _ _ => trivial) (trivial) rfl rfl hl.1 (Nat.le_of_ble_eq_true rfl) ⟨Nat.le_of_ble_eq_true rfl, Nat.le_of_ble_eq_true rfl⟩ dL_term_211 (fun _ H locs _ hW => ?_)
          have hW : gW g A s.heap H _ [(aq, gI g 40 a), (bq, gI g 40 (up (fun _ => 0) 0 (F9 % pr))), (ob, .inr (10, [.ref tx, .ref ps, .ref ho, .ref rk, va_rf so])), (tx, .inr (9, [.ref tc, .int (iI ((((((((tn + 1) + 1) + 1) + 1) + 1) + 1) + 1) + 1))])), (tc, gC g 40 (up (up (up (up (up (up (up (up tf tn.toNat (48 + F9)) (tn + 1).toNat 42) ((tn + 1) + 1).toNat 40) (((tn + 1) + 1) + 1).toNat 120) ((((tn + 1) + 1) + 1) + 1).toNat 43) (((((tn + 1) + 1) + 1) + 1) + 1).toNat (48 + c9)) ((((((tn + 1) + 1) + 1) + 1) + 1) + 1).toNat 41) (((((((tn + 1) + 1) + 1) + 1) + 1) + 1) + 1).toNat 94))] := hW
          refine W.eq (g2 := F0 m 214 ls [.int (iI ((((((((tn + 1) + 1) + 1) + 1) + 1) + 1) + 1) + 1))]) rfl ?_
          refine lv_pop S0.1 S0.2.1 dL_term_214 rfl ?_
          refine lv_aload_n S0.1 S0.2.1 dL_term_215 rfl (lv_at hl 6 rfl) ?_
          refine q_bipush S0 (by decide) dL_term_216 ?_
          refine lv_iload S0.1 S0.2.1 dL_term_218 (lv_at hl 2 rfl) ?_
          refine q_iadd S0 dL_term_220 ?_
          refine lv_i2c S0.1 S0.2.1 dL_term_221 (i2c_v (by omega)) ?_
          refine q_cV (n := 1) (rest := []) (wr := [(aq, gI g 40 a), (bq, gI g 40 (up (fun _ => 0) 0 (F9 % pr)))]) S0 hK hA hW (c_X10_type l g ob tx ps ho so rk tc ((((((((tn + 1) + 1) + 1) + 1) + 1) + 1) + 1) + 1) (up (up (up (up (up (up (up (up tf tn.toNat (48 + F9)) (tn + 1).toNat 42) ((tn + 1) + 1).toNat 40) (((tn + 1) + 1) + 1).toNat 120) ((((tn + 1) + 1) + 1) + 1).toNat 43) (((((tn + 1) + 1) + 1) + 1) + 1).toNat (48 + c9)) ((((((tn + 1) + 1) + 1) + 1) + 1) + 1).toNat 41) (((((((tn + 1) + 1) + 1) + 1) + 1) + 1) + 1).toNat 94) (48 + e9) (by omega) (by omega)) gL_term_X10_type rfl rfl rfl (by decide +kernel) ⟨Nat.le_of_ble_eq_true rfl, Nat.le_of_ble_eq_true rfl⟩ [2, 3, 4] [0, 1] rfl rfl rfl rfl (by decide) (q_recv hK hW.1 (ci := 10) (q0 := 2) rfl rfl) (fun _ _ => trivial) (trivial) rfl rfl hl.1 (Nat.le_of_ble_eq_true rfl) ⟨Nat.le_of_ble_eq_true rfl, Nat.le_of_ble_eq_true rfl⟩ dL_term_222 (fun _ H locs _ hW => ?_)
          have hW : gW g A s.heap H _ [(aq, gI g 40 a), (bq, gI g 40 (up (fun _ => 0) 0 (F9 % pr))), (ob, .inr (10, [.ref tx, .ref ps, .ref ho, .ref rk, va_rf so])), (tx, .inr (9, [.ref tc, .int (iI (((((((((tn + 1) + 1) + 1) + 1) + 1) + 1) + 1) + 1) + 1))])), (tc, gC g 40 (up (up (up (up (up (up (up (up (up tf tn.toNat (48 + F9)) (tn + 1).toNat 42) ((tn + 1) + 1).toNat 40) (((tn + 1) + 1) + 1).toNat 120) ((((tn + 1) + 1) + 1) + 1).toNat 43) (((((tn + 1) + 1) + 1) + 1) + 1).toNat (48 + c9)) ((((((tn + 1) + 1) + 1) + 1) + 1) + 1).toNat 41) (((((((tn + 1) + 1) + 1) + 1) + 1) + 1) + 1).toNat 94) ((((((((tn + 1) + 1) + 1) + 1) + 1) + 1) + 1) + 1).toNat (48 + e9)))] := hW
          refine W.eq (g2 := F0 m 225 ls [.int (iI (((((((((tn + 1) + 1) + 1) + 1) + 1) + 1) + 1) + 1) + 1))]) rfl ?_
          refine lv_pop S0.1 S0.2.1 dL_term_225 rfl ?_
          refine q_iinc (lv' := [(10, .int (iI ((2 + 3) + 1))), (9, .int (iI 3)), (8, .int (iI e9)), (7, .int (iI c9)), (6, .int (iI F9)), (5, .ref bq), (0, .ref ob), (1, .int (iI gv)), (2, .int (iI less)), (3, .ref aq), (4, .int (iI pr))]) S0 dL_term_226 hl (k := 0) rfl (by decide) rfl (fun ls hl => ?_)
          refine lv_aload S0.1 S0.2.1 dL_term_229 (lv_at hl 5 rfl) ?_
          refine lv_iload S0.1 S0.2.1 dL_term_231 (lv_at hl 1 rfl) ?_
          refine q_iconst S0 dL_term_233 ?_
          refine q_icmp_ne (tgt := 247) S0 (by omega) dL_term_234 (by decide) (fun c234 => ?_) (fun c234 => ?_)
          · skip
            exact absurd c234 (by omega)
          · skip
            refine lv_iload S0.1 S0.2.1 dL_term_237 (lv_at hl 3 rfl) ?_
            refine lv_iload S0.1 S0.2.1 dL_term_239 (lv_at hl 10 rfl) ?_
            refine q_pS (n := 2) (rest := [.ref bq]) S0 hK (c_L_mod l g c9 pr (by omega) (by omega)) (subP hW.1 [] rfl) (trivial) gL_term_L_mod rfl rfl rfl (by decide +kernel) ⟨Nat.le_of_ble_eq_true rfl, Nat.le_of_ble_eq_true rfl⟩ rfl rfl hl.1 (Nat.le_of_ble_eq_true rfl) ⟨Nat.le_of_ble_eq_true rfl, Nat.le_of_ble_eq_true rfl⟩ dL_term_241 ?_
            refine W.eq (g2 := F0 m 244 ls [.int (iI (c9 % pr)), .ref bq]) rfl ?_
            refine lv_goto (tgt := 248) S0.1 S0.2.1 dL_term_244 (by decide) ?_
            refine lv_iload S0.1 S0.2.1 dL_term_248 (lv_at hl 2 rfl) ?_
            refine lv_iload S0.1 S0.2.1 dL_term_250 (lv_at hl 10 rfl) ?_
            refine q_cS (n := 4) (rest := []) (wr := [(aq, gI g 40 a), (ob, .inr (10, [.ref tx, .ref ps, .ref ho, .ref rk, va_rf so])), (tx, .inr (9, [.ref tc, .int (iI (((((((((tn + 1) + 1) + 1) + 1) + 1) + 1) + 1) + 1) + 1))])), (tc, gC g 40 (up (up (up (up (up (up (up (up (up tf tn.toNat (48 + F9)) (tn + 1).toNat 42) ((tn + 1) + 1).toNat 40) (((tn + 1) + 1) + 1).toNat 120) ((((tn + 1) + 1) + 1) + 1).toNat 43) (((((tn + 1) + 1) + 1) + 1) + 1).toNat (48 + c9)) ((((((tn + 1) + 1) + 1) + 1) + 1) + 1).toNat 41) (((((((tn + 1) + 1) + 1) + 1) + 1) + 1) + 1).toNat 94) ((((((((tn + 1) + 1) + 1) + 1) + 1) + 1) + 1) + 1).toNat (48 + e9)))]) S0 hK hA hW (c_L_times l g bq (up (fun _ => 0) 0 (F9 % pr)) (c9 % pr) e9 pr (hpr) (by first | exact emod_rng _ (by omega) | omega) (by omega) (hb0)) gL_term_L_times rfl rfl rfl (by decide +kernel) ⟨Nat.le_of_ble_eq_true rfl, Nat.le_of_ble_eq_true rfl⟩ [1] [0, 2, 3, 4] rfl rfl rfl rfl (by decide) (fun _ _ => trivial) (trivial) rfl rfl hl.1 (Nat.le_of_ble_eq_true rfl) ⟨Nat.le_of_ble_eq_true rfl, Nat.le_of_ble_eq_true rfl⟩ dL_term_252 (fun _ H locs _ hW => ?_)
            have hW : gW g A s.heap H _ [(aq, gI g 40 a), (ob, .inr (10, [.ref tx, .ref ps, .ref ho, .ref rk, va_rf so])), (tx, .inr (9, [.ref tc, .int (iI (((((((((tn + 1) + 1) + 1) + 1) + 1) + 1) + 1) + 1) + 1))])), (tc, gC g 40 (up (up (up (up (up (up (up (up (up tf tn.toNat (48 + F9)) (tn + 1).toNat 42) ((tn + 1) + 1).toNat 40) (((tn + 1) + 1) + 1).toNat 120) ((((tn + 1) + 1) + 1) + 1).toNat 43) (((((tn + 1) + 1) + 1) + 1) + 1).toNat (48 + c9)) ((((((tn + 1) + 1) + 1) + 1) + 1) + 1).toNat 41) (((((((tn + 1) + 1) + 1) + 1) + 1) + 1) + 1).toNat 94) ((((((((tn + 1) + 1) + 1) + 1) + 1) + 1) + 1) + 1).toNat (48 + e9))), (bq, gI g 40 (tms (c9 % pr) pr e9.toNat (up (fun _ => 0) 0 (F9 % pr))))] := hW
            refine W.eq (g2 := F0 m 255 ls []) rfl ?_
            refine q_cut (α := Int) (fun sg => F0 m 283 ls (.int (iI sg) :: [])) (fun sg => sg = neg9 3 e9 less) (fun sg hsg => ?_) (fun hJ255 => ?_)
            · skip
              have hsgr := neg9_r (k := 3) (e := e9) (less := less)
              rw [← hsg] at hsgr
              refine lv_istore (lv' := [(11, .int (iI sg)), (10, .int (iI ((2 + 3) + 1))), (9, .int (iI 3)), (8, .int (iI e9)), (7, .int (iI c9)), (6, .int (iI F9)), (5, .ref bq), (0, .ref ob), (1, .int (iI gv)), (2, .int (iI less)), (3, .ref aq), (4, .int (iI pr))]) S0.1 S0.2.1 dL_term_283 hl (by decide) rfl (fun ls hl => ?_)
              refine q_iconst S0 dL_term_285 ?_
              refine lv_istore (lv' := [(12, .int (iI 0)), (11, .int (iI sg)), (10, .int (iI ((2 + 3) + 1))), (9, .int (iI 3)), (8, .int (iI e9)), (7, .int (iI c9)), (6, .int (iI F9)), (5, .ref bq), (0, .ref ob), (1, .int (iI gv)), (2, .int (iI less)), (3, .ref aq), (4, .int (iI pr))]) S0.1 S0.2.1 dL_term_286 hl (by decide) rfl (fun ls hl => ?_)
              refine q_loop (α := Int) (fun (i : Int) => 0 ≤ i ∧ i ≤ 40) (fun (i : Int) => (40 - i).toNat) (fun (i : Int) => [(aq, gI g 40 (adk pr sg a (tms (c9 % pr) pr e9.toNat (up (fun _ => 0) 0 (F9 % pr))) i)), (ob, .inr (10, [.ref tx, .ref ps, .ref ho, .ref rk, va_rf so])), (tx, .inr (9, [.ref tc, .int (iI (((((((((tn + 1) + 1) + 1) + 1) + 1) + 1) + 1) + 1) + 1))])), (tc, gC g 40 (up (up (up (up (up (up (up (up (up tf tn.toNat (48 + F9)) (tn + 1).toNat 42) ((tn + 1) + 1).toNat 40) (((tn + 1) + 1) + 1).toNat 120) ((((tn + 1) + 1) + 1) + 1).toNat 43) (((((tn + 1) + 1) + 1) + 1) + 1).toNat (48 + c9)) ((((((tn + 1) + 1) + 1) + 1) + 1) + 1).toNat 41) (((((((tn + 1) + 1) + 1) + 1) + 1) + 1) + 1).toNat 94) ((((((((tn + 1) + 1) + 1) + 1) + 1) + 1) + 1) + 1).toNat (48 + e9))), (bq, gI g 40 (tms (c9 % pr) pr e9.toNat (up (fun _ => 0) 0 (F9 % pr))))]) (fun (i : Int) => [(12, .int (iI i)), (11, .int (iI sg)), (10, .int (iI ((2 + 3) + 1))), (9, .int (iI 3)), (8, .int (iI e9)), (7, .int (iI c9)), (6, .int (iI F9)), (5, .ref bq), (0, .ref ob), (1, .int (iI gv)), (2, .int (iI less)), (3, .ref aq), (4, .int (iI pr))]) ?_ 0 (by (try dsimp only); omega) (by rw [adk_0]; exact hW) (lv_sub hl [0, 1, 2, 3, 4, 5, 6, 7, 8, 9, 10, 11, 12] rfl)
              rintro i hinv IHl H locs ls hW hl
              try dsimp only at hinv
              have hW : gW g A s.heap H _ [(aq, gI g 40 (adk pr sg a (tms (c9 % pr) pr e9.toNat (up (fun _ => 0) 0 (F9 % pr))) i)), (ob, .inr (10, [.ref tx, .ref ps, .ref ho, .ref rk, va_rf so])), (tx, .inr (9, [.ref tc, .int (iI (((((((((tn + 1) + 1) + 1) + 1) + 1) + 1) + 1) + 1) + 1))])), (tc, gC g 40 (up (up (up (up (up (up (up (up (up tf tn.toNat (48 + F9)) (tn + 1).toNat 42) ((tn + 1) + 1).toNat 40) (((tn + 1) + 1) + 1).toNat 120) ((((tn + 1) + 1) + 1) + 1).toNat 43) (((((tn + 1) + 1) + 1) + 1) + 1).toNat (48 + c9)) ((((((tn + 1) + 1) + 1) + 1) + 1) + 1).toNat 41) (((((((tn + 1) + 1) + 1) + 1) + 1) + 1) + 1).toNat 94) ((((((((tn + 1) + 1) + 1) + 1) + 1) + 1) + 1) + 1).toNat (48 + e9))), (bq, gI g 40 (tms (c9 % pr) pr e9.toNat (up (fun _ => 0) 0 (F9 % pr))))] := hW
              have hl : lv_has ls 13 [(12, .int (iI i)), (11, .int (iI sg)), (10, .int (iI ((2 + 3) + 1))), (9, .int (iI 3)), (8, .int (iI e9)), (7, .int (iI c9)), (6, .int (iI F9)), (5, .ref bq), (0, .ref ob), (1, .int (iI gv)), (2, .int (iI less)), (3, .ref aq), (4, .int (iI pr))] := hl
              refine lv_iload S0.1 S0.2.1 dL_term_288 (lv_at hl 0 rfl) ?_
              refine q_bipush S0 (by decide) dL_term_290 ?_
              refine q_icmp_ge (tgt := 334) S0 (by omega) dL_term_292 (by decide) (fun c292 => ?_) (fun c292 => ?_)
              · skip
                refine lv_iload S0.1 S0.2.1 dL_term_334 (lv_at hl 2 rfl) ?_
                rw [show i = 40 by omega, adk_e, hsg] at hW
                exact q_iret S0 hr hlocks () (trivial) (rfl) (hW.sub [1, 2, 3, 0] rfl (rfl)) (Nat.le_of_ble_eq_true rfl) (Nat.le_of_ble_eq_true rfl) dL_term_336
              · skip
                refine lv_aload_n S0.1 S0.2.1 dL_term_295 rfl (lv_at hl 11 rfl) ?_
                refine lv_iload S0.1 S0.2.1 dL_term_296 (lv_at hl 0 rfl) ?_
                refine lv_aload_n S0.1 S0.2.1 dL_term_298 rfl (lv_at hl 11 rfl) ?_
                refine lv_iload S0.1 S0.2.1 dL_term_299 (lv_at hl 0 rfl) ?_
                refine q_iald S0 hK hW.1 0 rfl (by omega) dL_term_301 ?_
                refine q_topI (b := a i.toNat) (adk_at (by omega)) ?_
                refine q_cut (α := Int) (fun z9 => F0 m 321 ls (.int (iI z9) :: [.int (iI (a i.toNat)), .int (iI i), .ref aq])) (fun z9 => z9 = if sg = 0 then (tms (c9 % pr) pr e9.toNat (up (fun _ => 0) 0 (F9 % pr))) i.toNat else -(tms (c9 % pr) pr e9.toNat (up (fun _ => 0) 0 (F9 % pr))) i.toNat) (fun z9 hz9 => ?_) (fun hJ302 => ?_)
                · skip
                  have hz9r : -pr < z9 ∧ z9 < pr := by rw [hz9]; have := hB9 i.toNat; split <;> omega
                  have ha9 := ha i.toNat
                  refine q_iadd S0 dL_term_321 ?_
                  refine lv_iload S0.1 S0.2.1 dL_term_322 (lv_at hl 12 rfl) ?_
                  refine q_pS (n := 2) (rest := [.int (iI i), .ref aq]) S0 hK (c_L_mod l g ((a i.toNat) + z9) pr (by omega) (by omega)) (subP hW.1 [] rfl) (trivial) gL_term_L_mod rfl rfl rfl (by decide +kernel) ⟨Nat.le_of_ble_eq_true rfl, Nat.le_of_ble_eq_true rfl⟩ rfl rfl hl.1 (Nat.le_of_ble_eq_true rfl) ⟨Nat.le_of_ble_eq_true rfl, Nat.le_of_ble_eq_true rfl⟩ dL_term_324 ?_
                  refine W.eq (g2 := F0 m 327 ls [.int (iI (((a i.toNat) + z9) % pr)), .int (iI i), .ref aq]) rfl ?_
                  refine q_iast S0 hK hW 0 rfl (by omega) dL_term_327 (fun H locs hW => ?_)
                  have hW : gW g A s.heap H _ [(aq, gI g 40 (up (adk pr sg a (tms (c9 % pr) pr e9.toNat (up (fun _ => 0) 0 (F9 % pr))) i) ((i).toNat) (((a i.toNat) + z9) % pr))), (ob, .inr (10, [.ref tx, .ref ps, .ref ho, .ref rk, va_rf so])), (tx, .inr (9, [.ref tc, .int (iI (((((((((tn + 1) + 1) + 1) + 1) + 1) + 1) + 1) + 1) + 1))])), (tc, gC g 40 (up (up (up (up (up (up (up (up (up tf tn.toNat (48 + F9)) (tn + 1).toNat 42) ((tn + 1) + 1).toNat 40) (((tn + 1) + 1) + 1).toNat 120) ((((tn + 1) + 1) + 1) + 1).toNat 43) (((((tn + 1) + 1) + 1) + 1) + 1).toNat (48 + c9)) ((((((tn + 1) + 1) + 1) + 1) + 1) + 1).toNat 41) (((((((tn + 1) + 1) + 1) + 1) + 1) + 1) + 1).toNat 94) ((((((((tn + 1) + 1) + 1) + 1) + 1) + 1) + 1) + 1).toNat (48 + e9))), (bq, gI g 40 (tms (c9 % pr) pr e9.toNat (up (fun _ => 0) 0 (F9 % pr))))] := hW
                  refine q_iinc (lv' := [(12, .int (iI (i + 1))), (11, .int (iI sg)), (10, .int (iI ((2 + 3) + 1))), (9, .int (iI 3)), (8, .int (iI e9)), (7, .int (iI c9)), (6, .int (iI F9)), (5, .ref bq), (0, .ref ob), (1, .int (iI gv)), (2, .int (iI less)), (3, .ref aq), (4, .int (iI pr))]) S0 dL_term_328 hl (k := 0) rfl (by decide) rfl (fun ls hl => ?_)
                  refine lv_goto (tgt := 288) S0.1 S0.2.1 dL_term_331 (by decide) ?_
                  rw [adk_s (by omega) hz9] at hW
                  exact IHl (i + 1) H locs ls (by (try dsimp only); omega) (by (try dsimp only); omega) hW (lv_sub hl [0, 1, 2, 3, 4, 5, 6, 7, 8, 9, 10, 11, 12] rfl)
                · skip
                  refine lv_iload S0.1 S0.2.1 dL_term_302 (lv_at hl 1 rfl) ?_
                  refine q_if_eq (tgt := 316) S0 (by omega) dL_term_304 (by decide) (fun c304 => ?_) (fun c304 => ?_)
                  · skip
                    refine lv_aload S0.1 S0.2.1 dL_term_316 (lv_at hl 7 rfl) ?_
                    refine lv_iload S0.1 S0.2.1 dL_term_318 (lv_at hl 0 rfl) ?_
                    refine q_iald S0 hK hW.1 4 rfl (by omega) dL_term_320 ?_
                    exact hJ302 _ (by first | (rw [if_pos (by omega)]; done) | (rw [if_neg (by omega)]; done))
                  · skip
                    refine lv_aload S0.1 S0.2.1 dL_term_307 (lv_at hl 7 rfl) ?_
                    refine lv_iload S0.1 S0.2.1 dL_term_309 (lv_at hl 0 rfl) ?_
                    refine q_iald S0 hK hW.1 4 rfl (by omega) dL_term_311 ?_
                    refine q_ineg S0 dL_term_312 ?_
                    refine lv_goto (tgt := 321) S0.1 S0.2.1 dL_term_313 (by decide) ?_
                    exact hJ302 _ (by first | (rw [if_pos (by omega)]; done) | (rw [if_neg (by omega)]; done))
            · skip
              refine lv_iload_n S0.1 S0.2.1 dL_term_255 rfl (lv_at hl 8 rfl) ?_
              refine lv_iload S0.1 S0.2.1 dL_term_256 (lv_at hl 1 rfl) ?_
              refine q_iconst S0 dL_term_258 ?_
              refine q_icmp_ne (tgt := 274) S0 (by omega) dL_term_259 (by decide) (fun c259 => ?_) (fun c259 => ?_)
              · skip
                refine q_iconst S0 dL_term_274 ?_
                refine q_icmp_eq (tgt := 282) S0 (by omega) dL_term_275 (by decide) (fun c275 => ?_) (fun c275 => ?_)
                · skip
                  refine q_iconst S0 dL_term_282 ?_
                  exact hJ255 _ (by first | (rw [neg9_a (by omega)]; first | (rw [if_pos (by omega)]; done) | (rw [if_neg (by omega)]; done)) | (rw [neg9_b (by omega)]; first | (rw [if_pos (by omega)]; done) | (rw [if_neg (by omega)]; done)))
                · skip
                  refine q_iconst S0 dL_term_278 ?_
                  refine lv_goto (tgt := 283) S0.1 S0.2.1 dL_term_279 (by decide) ?_
                  exact hJ255 _ (by first | (rw [neg9_a (by omega)]; first | (rw [if_pos (by omega)]; done) | (rw [if_neg (by omega)]; done)) | (rw [neg9_b (by omega)]; first | (rw [if_pos (by omega)]; done) | (rw [if_neg (by omega)]; done)))
              · skip
                exact absurd c259 (by omega)
      · skip
        exact absurd c138 (by omega)
    · skip
      exact absurd c119 (by omega)
  · skip
    exact absurd c79 (by omega)
