/-! the two readings of a text go side by side -/
theorem kc0 {K : Int} (h : kc K = 0) : K = 48 := by
  by_cases z : K = 48
  · exact z
  · exfalso
    unfold kc at h
    rw [if_neg z] at h
    repeat' split at h
    all_goals omega
theorem TI_wpop {B : BT} {l : List Int} (hT : TI B 1) (hc : cs B = wTop B :: l) (hl : lvl (wTop B) = 0) : TI (sWPop B) 1 := by
  refine ⟨hT.1, ?_, hT.2.2⟩
  show lP B = ops (cs (sWPop B)) + 1
  rw [(cs_cons hc).2.2, hT.2.1, hc, ops_c, if_pos hl]
  omega
theorem sim_call {B : BT} {N : NT} {f : Int} (hB : WFB B) (hf : fil B ≤ 39) (hR : Rel B N) (hT : TI B 1) (hr : 0 ≤ f ∧ f ≤ 3) : Rel (sCall B f) (mNode N 8 f) ∧ TI (sCall B f) 1 := by
  have hB1 := hB.1
  have hf' : bN B + wP B ≤ 39 := hf
  have hop := ops_nn (cs B)
  have hl := hT.2.1
  refine ⟨Rel_add (B := sLPop B) (k := 99) (u := f) (a := lTop B) (b := -1) hR (by show 0 ≤ bN B ∧ bN B < 40; omega), ⟨?_, ?_, LEA_call hT.2.2 (by omega)⟩⟩
  · exact TRE_un hT.1 (by omega) (by omega) (Or.inr (Or.inr ⟨rfl, hr⟩))
  · show pN (oN (lP B)) = ops (cs B) + 1
    unfold oN
    rw [if_pos (by omega)]
    unfold pN
    rw [if_pos (by omega)]
    omega
theorem sim_close {i : Int} {B : BT} {N : NT} (hB : WFB B) (hW : WB i N) (hR : Rel B N) (hT : TI B 1) (hd : 0 < nD N) : Rel (sClose B) (mClose N) ∧ TI (sClose B) 1 := by
  obtain ⟨w1, w2, w3, w4, w5⟩ := hW
  have w1' := w1
  unfold RN at w1'
  obtain ⟨hp, l0, e1, -, -, -⟩ := sk_open (by omega) w4 (by omega)
  have j := sim_join1 hB (by omega) hR hT
  have hj := WF_joinF (v := 1) (by omega) hB
  have hm9 : mLast (mBinds 1 N) = 9 := by
    have := sk_last hp
    rw [e1] at this
    injection this with a b
    exact a.symm
  rcases Rel_top j.1 (by omega) with q | ⟨l, p1, p2, p3, p4⟩
  · omega
  have hdrop : nP (mCl0 N) = nP (mBinds 1 N) - 1 := rfl
  rcases p4 with q | q | q | q
  · omega
  · have ec : sClose B = sFinA (sWPop (sJoinF 1 B)) := by
      unfold sClose
      rw [if_pos (by rw [q.1]; decide)]
    have hR0 : Rel (sWPop (sJoinF 1 B)) (mCl0 N) := Rel_drop j.1.1 j.1.2.2 p3 q.2.1
    have hT0 := TI_wpop j.2 p3 (by rw [q.1]; decide)
    have hl8 : ¬ mLast (mCl0 N) = 8 := by
      rcases Rel_top hR0 (by omega) with z | ⟨l2, a1, a2, a3, a4⟩
      · omega
      · rcases a4 with z | z | z | z
        · omega
        · omega
        · have := mSg_r (wTop (sWPop (sJoinF 1 B))); omega
        · omega
    have em : mClose N = mWh (mAtom (mCl0 N)) 2 := by
      unfold mClose mCl1
      rw [if_neg hl8]
    rw [ec, em]
    exact sim_finA (WF_wpop hj) (by omega) hR0 hT0
  · have := mSg_r (wTop (sJoinF 1 B)); omega
  · have hfn := isF_fn q.1
    have ec : sClose B = sFinA (sCall (sWPop (sJoinF 1 B)) (fnO (wTop (sJoinF 1 B)))) := by
      unfold sClose
      rw [if_neg (by omega)]
    have hm0 : mp9 (mCl0 N) = (8, fnO (wTop (sJoinF 1 B))) :: mpl l := (mp_cons q.2.1).2.2.2.1
    have hm1 := mp_cons hm0
    have hR0 : Rel (sWPop (sJoinF 1 B)) (mDrop (mCl0 N)) := by
      refine ⟨j.1.1, ?_, fun d hd => j.1.2.2 d ?_⟩
      · rw [(cs_cons p3).2.2]; exact hm1.2.2.2.1
      · rw [(cs_cons p3).2.2] at hd
        rw [p3]
        exact List.mem_cons_of_mem _ hd
    have hT0 := TI_wpop j.2 p3 hfn.2.2.1
    have hfl := fil_wpop hj (by rcases q.1 with z | z | z | z <;> omega)
    have hc := sim_call (WF_wpop hj) hfl hR0 hT0 ⟨hfn.1, hfn.2.1⟩
    have em : mClose N = mWh (mAtom (mNode (mDrop (mCl0 N)) 8 (fnO (wTop (sJoinF 1 B))))) 2 := by
      unfold mClose mCl1
      rw [if_pos hm1.2.2.2.2, come_eq hm0]
    rw [ec, em]
    exact sim_finA (WF_call (WF_wpop hj) hfl ⟨hfn.1, hfn.2.1⟩) (by show 0 ≤ nP (mCl0 N) - 1; have := hm1.1; omega) hc.1 hc.2
theorem sim_power {B : BT} {N : NT} {d : Int} (hB : WFB B) (hf : fil B ≤ 39) (hR : Rel B N) (hT : TI B 1) (hd : 0 ≤ d ∧ d ≤ 9) : Rel (sPower B d) (mNode N 7 d) ∧ TI (sPower B d) 1 := by
  have hB1 := hB.1
  have hf' : bN B + wP B ≤ 39 := hf
  have hop := ops_nn (cs B)
  have hl := hT.2.1
  refine ⟨Rel_add (B := sLPop B) (k := 94) (u := d) (a := lTop B) (b := -1) hR (by show 0 ≤ bN B ∧ bN B < 40; omega), ⟨?_, ?_, LEA_add (B := sLPop B) hT.2.2 (by show 0 ≤ bN B ∧ bN B < 40; omega) (by decide)⟩⟩
  · exact TRE_un hT.1 (by omega) (by omega) (Or.inr (Or.inl ⟨rfl, hd⟩))
  · show pN (oN (lP B)) = ops (cs B) + 1
    unfold oN
    rw [if_pos (by omega)]
    unfold pN
    rw [if_pos (by omega)]
    omega
/-- a number's further digits -/
def mS2 (N : NT) (j : Nat) (v g : Int) : NT := mkN (nK N) (up (nU N) j v) (nN N) (nQ N) (nP N) (nWh N) (nD N) g
theorem up_comm {f : Nat → Int} {i j : Nat} {a b : Int} (h : i ≠ j) : up (up f i a) j b = up (up f j b) i a := by
  funext x
  unfold up
  by_cases e1 : x = j
  · by_cases e2 : x = i
    · omega
    · rw [if_pos e1, if_neg e2, if_pos e1]
  · by_cases e2 : x = i
    · rw [if_neg e1, if_pos e2, if_pos e2]
    · rw [if_neg e1, if_neg e2, if_neg e2, if_neg e1]
theorem up_up {f : Nat → Int} {i : Nat} {a b : Int} : up (up f i a) i b = up f i b := by
  funext x
  unfold up
  by_cases e : x = i
  · rw [if_pos e, if_pos e]
  · rw [if_neg e, if_neg e, if_neg e]
theorem atm_set {j : Nat} {v g : Int} : ∀ (k : Nat) (N : NT), 0 ≤ nN N → (j : Int) < nN N → mAtm k (mS2 N j v g) = mS2 (mAtm k N) j v g
  | 0, _, _, _ => rfl
  | k + 1, N, h0, h => by
    have hl : mLast (mS2 N j v g) = mLast N := rfl
    by_cases z : mLast N = 2
    · have e : mCome (mS2 N j v g) = mS2 (mCome N) j v g := congrArg (fun U => mkN (up (nK N) (nN N).toNat (nQ N (2 * (nP N - 1)).toNat)) U (nN N + 1) (nQ N) (nP N - 1) (nWh N) (nD N) g) (up_comm (f := nU N) (i := j) (j := (nN N).toNat) (a := v) (b := nQ N (2 * (nP N - 1) + 1).toNat) (by omega))
      rw [mAtm_step (hl.trans z), mAtm_step z, e]
      exact atm_set k (mCome N) (by show 0 ≤ nN N + 1; omega) (by show (j : Int) < nN N + 1; omega)
    · rw [mAtm_stop (fun y => z (hl.symm.trans y)), mAtm_stop z]
theorem atm_nodes : ∀ (k : Nat) (N : NT) (j : Nat), (j : Int) < nN N → nK (mAtm k N) j = nK N j ∧ nU (mAtm k N) j = nU N j ∧ nN N ≤ nN (mAtm k N)
  | 0, _, _, _ => ⟨rfl, rfl, Int.le_refl _⟩
  | k + 1, N, j, h => by
    by_cases z : mLast N = 2
    · rw [mAtm_step z]
      have q := atm_nodes k (mCome N) j (by show (j : Int) < nN N + 1; omega)
      refine ⟨q.1.trans ?_, q.2.1.trans ?_, ?_⟩
      · show up (nK N) (nN N).toNat _ j = _
        exact up_n (by omega)
      · show up (nU N) (nN N).toNat _ j = _
        exact up_n (by omega)
      · have : nN N + 1 ≤ nN (mAtm k (mCome N)) := q.2.2
        omega
    · rw [mAtm_stop z]
      exact ⟨rfl, rfl, Int.le_refl _⟩
theorem ends_1 {N : NT} (h : nWh N = 1) : mEnds N = mWh (mAtom (mNode N 0 (nG N))) 2 := by
  unfold mEnds
  rw [if_pos h]
theorem ends_n {N : NT} (h : ¬ nWh N = 1) : mEnds N = N := by
  unfold mEnds
  rw [if_neg h]
theorem num_at {B : BT} {N : NT} (hw : nWh N = 1) (h0 : 0 ≤ nN N) (h : Rel B (mEnds N)) : nN N < bN B ∧ bK B (nN N).toNat = 48 ∧ bU B (nN N).toNat = nG N := by
  rw [ends_1 hw] at h
  have q := atm_nodes (nP (mNode N 0 (nG N))).toNat (mNode N 0 (nG N)) (nN N).toNat (by show _ < nN N + 1; omega)
  have h1 : nN (mAtm (nP (mNode N 0 (nG N))).toNat (mNode N 0 (nG N))) = bN B := h.1.1
  have h3 : nN N + 1 ≤ nN (mAtm (nP (mNode N 0 (nG N))).toNat (mNode N 0 (nG N))) := q.2.2
  have h2 := h.1.2 (nN N).toNat (by omega)
  have a1 : nK (mNode N 0 (nG N)) (nN N).toNat = 0 := up_s
  have a2 : nU (mNode N 0 (nG N)) (nN N).toNat = nG N := up_s
  refine ⟨by omega, kc0 ?_, ?_⟩
  · exact (h2.1.symm.trans q.1).trans a1
  · exact (h2.2.symm.trans q.2.1).trans a2
theorem sim_digit {B : BT} {N : NT} {d : Int} (hB : WFB B) (hw : nWh N = 1) (h0 : 0 ≤ nN N) (h : Rel B (mEnds N)) (hT : TI B 1) (hd : 0 ≤ d ∧ d ≤ 9) (hg : 1 ≤ nG N ∧ nG N ≤ 99) : Rel (sDigit B (nN N) d) (mEnds (mDg N (10 * nG N + d))) ∧ TI (sDigit B (nN N) d) 1 := by
  have q := num_at hw h0 h
  have hB1 := hB.1
  have em : mEnds (mDg N (10 * nG N + d)) = mWh (mS2 (mAtom (mNode N 0 (nG N))) (nN N).toNat (10 * nG N + d) (10 * nG N + d)) 2 := by
    rw [ends_1 (N := mDg N (10 * nG N + d)) hw]
    have e1 : mNode (mDg N (10 * nG N + d)) 0 (10 * nG N + d) = mS2 (mNode N 0 (nG N)) (nN N).toNat (10 * nG N + d) (10 * nG N + d) := congrArg (fun U => mkN (up (nK N) (nN N).toNat 0) U (nN N + 1) (nQ N) (nP N) (nWh N) (nD N) (10 * nG N + d)) (up_up (f := nU N) (i := (nN N).toNat) (a := nG N) (b := 10 * nG N + d)).symm
    show mWh (mAtm (nP N).toNat (mNode (mDg N (10 * nG N + d)) 0 (10 * nG N + d))) 2 = _
    rw [e1, atm_set _ _ (by show 0 ≤ nN N + 1; omega) (by show _ < nN N + 1; omega)]
    rfl
  have ea : at0 40 (bU B) (nN N) = nG N := by
    unfold at0
    rw [if_pos (by omega)]
    exact q.2.2
  have hR := h
  rw [ends_1 hw] at hR
  refine ⟨⟨⟨?_, fun j hj => ?_⟩, ?_⟩, ⟨?_, hT.2.1, LEA_digit hT.2.2 (by omega) q.2.1⟩⟩
  · rw [em]; exact hR.1.1
  · have hj' := hR.1.2 j hj
    rw [em]
    refine ⟨hj'.1, ?_⟩
    show up (nU (mAtom (mNode N 0 (nG N)))) (nN N).toNat (10 * nG N + d) j = put0 40 (bU B) (nN N) (at0 40 (bU B) (nN N) * 10 + d) j
    rw [put0_up (by omega), ea]
    unfold up
    by_cases e : j = (nN N).toNat
    · rw [if_pos e, if_pos e]; omega
    · rw [if_neg e, if_neg e]; exact hj'.2
  · rw [em]; exact hR.2
  · show TRc (bN B) (bK B) (put0 40 (bU B) (nN N) (at0 40 (bU B) (nN N) * 10 + d)) (bL B) (bV B) (bD B) (lP B) (lQ B)
    rw [put0_up (by omega), ea]
    exact TR_digit hT.1 q.2.1 (by omega)
/-- the two readings, between two signs -/
def Sim (S : PT) (N : NT) : Prop := pO S = nD N ∧
  ((pA S = 0 ∧ nWh N = 0 ∧ pM S = -1 ∧ Rel (pB S) N ∧ TI (pB S) 0) ∨
  (pA S = 1 ∧ nWh N = 5 ∧ pM S = -1 ∧ (∃ c l, isF c ∧ cs (pB S) = c :: l ∧ mp9 N = (8, fnO c) :: mpl l ∧ NDs (pB S) N ∧ ∀ d, d ∈ cs (pB S) → okc d) ∧ TI (pB S) 0) ∨
  (pA S = 2 ∧ nWh N = 4 ∧ pM S = -1 ∧ Rel (pB S) N ∧ TI (pB S) 1) ∨
  (pA S = 3 ∧ nWh N = 1 ∧ pM S = nN N ∧ Rel (pB S) (mEnds N) ∧ TI (pB S) 1) ∨
  (pA S = 3 ∧ nWh N = 2 ∧ pM S = -1 ∧ Rel (pB S) N ∧ TI (pB S) 1) ∨
  (pA S = 4 ∧ nWh N = 3 ∧ pM S = -1 ∧ Rel (pB S) N ∧ TI (pB S) 1))
theorem nD_close (N : NT) : nD (mClose N) = nD N - 1 := by
  have a := (mAtm_keep (nP (mCl1 (mCl0 N))).toNat (mCl1 (mCl0 N))).2.1
  have b := (mBnd_keep (t := 1) (nP N).toNat N).2.1
  have c : nD (mCl1 (mCl0 N)) = nD (mCl0 N) := by
    unfold mCl1
    split
    · rfl
    · rfl
  show nD (mAtm (nP (mCl1 (mCl0 N))).toNat (mCl1 (mCl0 N))) = _
  rw [a, c]
  show nD (mBnd 1 (nP N).toNat N) - 1 = _
  rw [b]
theorem nD_ends (N : NT) : nD (mEnds N) = nD N := by
  by_cases h : nWh N = 1
  · rw [ends_1 h]
    exact (mAtm_keep (nP (mNode N 0 (nG N))).toNat (mNode N 0 (nG N))).2.1
  · rw [ends_n h]
theorem sim_sign {B : BT} {N : NT} {c t : Int} (hB : WFB B) (hf : fil B ≤ 39) (h0 : 0 ≤ nP N) (hc : isO c) (hvt : (lvl c = 1 ∧ t = 1) ∨ (lvl c = 2 ∧ t = 0)) (hR : Rel B N) (hT : TI B 1) : Rel (sSign B c) (mWait (mBinds t N) (mSg c) 0) ∧ TI (sSign B c) 0 := by
  have ho := isO_lv hc
  have hj := WF_joinF (v := lvl c) (by omega) hB
  have ej := fil_joinF (v := lvl c) (by omega) hB
  have q : Rel (sJoinF (lvl c) B) (mBinds t N) ∧ TI (sJoinF (lvl c) B) 1 := by
    rcases hvt with z | z
    · rw [z.1, z.2]; exact sim_join1 hB h0 hR hT
    · rw [z.1, z.2]; exact sim_join2 hB h0 hR hT
  have hP : ∀ (k : Nat) (M : NT), 0 ≤ nP M → 0 ≤ nP (mBnd t k M) := by
    intro k
    induction k with
    | zero => intro M h; exact h
    | succ k ih =>
      intro M h
      by_cases y : bnds t (mLast M)
      · rw [mBnd_step y]
        refine ih (mCome M) ?_
        have := mLast_pos (N := M) (by unfold bnds at y; omega)
        show 0 ≤ nP M - 1
        omega
      · rw [mBnd_stop y]; exact h
  refine ⟨sim_wait hj (by omega) (hP _ N h0) q.1 (Or.inr (Or.inr (Or.inl hc))) (mpl_op hc), TI_wait hj (by omega) ?_⟩
  rw [if_neg (by omega)]
  exact q.2
theorem sim_follow {i c : Int} {S : PT} {N : NT} (hB : WFB (pB S)) (hf : fil (pB S) ≤ 39) (hW : WB i N) (hO : pO S = nD N) (hA : (pA S = 3 ∧ nWh N = 2) ∨ (pA S = 4 ∧ nWh N = 3)) (hR : Rel (pB S) N) (hT : TI (pB S) 1) (hd : ¬ (48 ≤ c ∧ c ≤ 57)) : (tkB S c).2 = (mFollows N c).2 ∧ (¬ (tkB S c).2 = 0 → Sim (tkB S c).1 (mFollows N c).1) := by
  have h0 : 0 ≤ nP N := by
    have := hW.1
    unfold RN at this
    omega
  by_cases h1 : c = 94 ∧ pA S = 3
  · have e1 : tkB S c = (mkP (pB S) 2 (pO S) (-1), 1) := by unfold tkB; rw [if_neg hd, if_pos h1]
    have e2 : mFollows N c = (mWh N 4, 1) := by unfold mFollows; rw [if_pos (by omega)]
    rw [e1, e2]
    exact ⟨rfl, fun _ => ⟨hO, Or.inr (Or.inr (Or.inl ⟨rfl, rfl, rfl, hR, hT⟩))⟩⟩
  · by_cases h2 : c = 41 ∧ 0 < pO S
    · have e1 : tkB S c = (mkP (sClose (pB S)) 3 (pO S - 1) (-1), 1) := by unfold tkB; rw [if_neg hd, if_neg h1, if_pos h2]
      have e2 : mFollows N c = (mClose N, 1) := by unfold mFollows; rw [if_neg (by omega), if_pos (by omega)]
      rw [e1, e2]
      have q := sim_close hB hW hR hT (by omega)
      refine ⟨rfl, fun _ => ⟨?_, Or.inr (Or.inr (Or.inr (Or.inr (Or.inl ⟨rfl, rfl, rfl, q.1, q.2⟩))))⟩⟩
      show pO S - 1 = nD (mClose N)
      rw [nD_close, hO]
    · by_cases h3 : c = 43 ∨ c = 45 ∨ c = 42 ∨ c = 47
      · have e1 : tkB S c = (mkP (sSign (pB S) c) 0 (pO S) (-1), 1) := by unfold tkB; rw [if_neg hd, if_neg h1, if_neg h2, if_pos h3]
        by_cases h4 : c = 43 ∨ c = 45
        · have e2 : mFollows N c = (mWh (mWait (mBinds 1 N) (mSg c) 0) 0, 1) := by unfold mFollows; rw [if_neg (by omega), if_neg (by omega), if_pos h4]
          have q := sim_sign hB hf h0 h3 (t := 1) (Or.inl ⟨by rcases h4 with rfl | rfl <;> decide, rfl⟩) hR hT
          rw [e1, e2]
          refine ⟨rfl, fun _ => ⟨?_, Or.inl ⟨rfl, rfl, rfl, q.1, q.2⟩⟩⟩
          show pO S = nD (mBnd 1 (nP N).toNat N)
          rw [(mBnd_keep (t := 1) (nP N).toNat N).2.1, hO]
        · have e2 : mFollows N c = (mWh (mWait (mBinds 0 N) (mSg c) 0) 0, 1) := by unfold mFollows; rw [if_neg (by omega), if_neg (by omega), if_neg h4, if_pos (by omega)]
          have q := sim_sign hB hf h0 h3 (t := 0) (Or.inr ⟨by rcases h3 with rfl | rfl | rfl | rfl; exact absurd (Or.inl rfl) h4; exact absurd (Or.inr rfl) h4; decide; decide, rfl⟩) hR hT
          rw [e1, e2]
          refine ⟨rfl, fun _ => ⟨?_, Or.inl ⟨rfl, rfl, rfl, q.1, q.2⟩⟩⟩
          show pO S = nD (mBnd 0 (nP N).toNat N)
          rw [(mBnd_keep (t := 0) (nP N).toNat N).2.1, hO]
      · have e1 : tkB S c = (mkP (pB S) (pA S) (pO S) (-1), 0) := by unfold tkB; rw [if_neg hd, if_neg h1, if_neg h2, if_neg h3]
        have e2 : mFollows N c = (N, 0) := by unfold mFollows; rw [if_neg (by omega), if_neg (by omega), if_neg (by omega), if_neg (by omega)]
        rw [e1, e2]
        exact ⟨rfl, fun z => absurd rfl z⟩
theorem sim_begin {i c : Int} {S : PT} {N : NT} (hB : WFB (pB S)) (hf : fil (pB S) ≤ 39) (hN : RN i N) (hO : pO S = nD N) (ha : pA S = 0) (hw : nWh N = 0) (hm : pM S = -1) (hR : Rel (pB S) N) (hT : TI (pB S) 0) : (tkA S c).2 = (mBegins N c).2 ∧ (¬ (tkA S c).2 = 0 → Sim (tkA S c).1 (mBegins N c).1) := by
  have hN' := hN
  unfold RN at hN'
  have hB1 := hB.1
  have hf' : bN (pB S) + wP (pB S) ≤ 39 := hf
  by_cases h1 : 48 ≤ c ∧ c ≤ 57
  · have e1 : tkA S c = (mkP (sAddNum (pB S) (c - 48)) 3 (pO S) (bN (pB S)), 1) := by unfold tkA; rw [if_pos h1]
    have e2 : mBegins N c = (mWh (mDg N (c - 48)) 1, 1) := by unfold mBegins; rw [if_pos h1]
    rw [e1, e2]
    have q := sim_finA (B := sAdd (pB S) 48 (c - 48) (-1) (-1)) (N := mNode (mWh (mDg N (c - 48)) 1) 0 (c - 48)) (WF_add hB (by omega) (by omega) (by omega) (by omega) (by omega)) hN'.2.1 (Rel_add (k := 48) (N := mWh (mDg N (c - 48)) 1) hR (by omega)) (TI_leaf hB hf hT (Or.inr ⟨rfl, by omega⟩))
    refine ⟨rfl, fun _ => ⟨hO, Or.inr (Or.inr (Or.inr (Or.inl ⟨rfl, rfl, hR.1.1.symm, ?_, q.2⟩)))⟩⟩
    show Rel (sFinA (sAdd (pB S) 48 (c - 48) (-1) (-1))) (mEnds (mWh (mDg N (c - 48)) 1))
    rw [ends_1 (N := mWh (mDg N (c - 48)) 1) rfl]
    exact q.1
  · by_cases h2 : c = 120
    · have e1 : tkA S c = (mkP (sAddX (pB S)) 3 (pO S) (pM S), 1) := by unfold tkA; rw [if_neg h1, if_pos h2]
      have e2 : mBegins N c = (mWh (mAtom (mNode N 1 0)) 2, 1) := by unfold mBegins; rw [if_neg h1, if_pos h2]
      rw [e1, e2]
      have q := sim_finA (B := sAdd (pB S) 120 0 (-1) (-1)) (N := mNode N 1 0) (WF_add hB (by omega) (by omega) (by omega) (by omega) (by omega)) hN'.2.1 (Rel_add (k := 120) hR (by omega)) (TI_leaf hB hf hT (Or.inl ⟨rfl, rfl⟩))
      refine ⟨rfl, fun _ => ⟨?_, Or.inr (Or.inr (Or.inr (Or.inr (Or.inl ⟨rfl, rfl, hm, q.1, q.2⟩))))⟩⟩
      show pO S = nD (mAtm (nP (mNode N 1 0)).toNat (mNode N 1 0))
      rw [(mAtm_keep (nP (mNode N 1 0)).toNat (mNode N 1 0)).2.1]
      exact hO
    · by_cases h3 : c = 45
      · have e1 : tkA S c = (mkP (sWait (pB S) 110) (pA S) (pO S) (pM S), 1) := by unfold tkA; rw [if_neg h1, if_neg h2, if_pos h3]
        have e2 : mBegins N c = (mWait N 2 0, 1) := by unfold mBegins; rw [if_neg h1, if_neg h2, if_pos h3]
        rw [e1, e2]
        exact ⟨rfl, fun _ => ⟨hO, Or.inl ⟨ha, hw, hm, sim_wait hB hf hN'.2.1 hR (Or.inl rfl) mpl_neg, TI_wait hB hf (by rw [if_pos (by decide)]; exact hT)⟩⟩⟩
      · by_cases h4 : c = 40
        · have e1 : tkA S c = (mkP (sWait (pB S) c) (pA S) (pO S + 1) (pM S), 1) := by unfold tkA; rw [if_neg h1, if_neg h2, if_neg h3, if_pos h4]
          have e2 : mBegins N c = (mDp (mWait N 9 0) (nD N + 1), 1) := by unfold mBegins; rw [if_neg h1, if_neg h2, if_neg h3, if_pos h4]
          rw [e1, e2, h4]
          exact ⟨rfl, fun _ => ⟨by show pO S + 1 = nD N + 1; omega, Or.inl ⟨ha, hw, hm, sim_wait hB hf hN'.2.1 hR (Or.inr (Or.inl rfl)) mpl_par, TI_wait hB hf (by rw [if_pos (by decide)]; exact hT)⟩⟩⟩
        · by_cases h5 : fnO c = -1
          · have e1 : tkA S c = (S, 0) := by unfold tkA; rw [if_neg h1, if_neg h2, if_neg h3, if_neg h4, if_pos h5]
            have e2 : mBegins N c = (N, 0) := by unfold mBegins; rw [if_neg h1, if_neg h2, if_neg h3, if_neg h4, if_pos h5]
            rw [e1, e2]
            exact ⟨rfl, fun z => absurd rfl z⟩
          · have e1 : tkA S c = (mkP (sWait (pB S) c) 1 (pO S) (pM S), 1) := by unfold tkA; rw [if_neg h1, if_neg h2, if_neg h3, if_neg h4, if_neg h5]
            have e2 : mBegins N c = (mWh (mWait N 8 (fnO c)) 5, 1) := by unfold mBegins; rw [if_neg h1, if_neg h2, if_neg h3, if_neg h4, if_neg h5]
            rw [e1, e2]
            have hc := fn_is h5
            have hq := isF_fn hc
            have hcs : cs (sWait (pB S) c) = c :: cs (pB S) := cs_wait (by omega)
            refine ⟨rfl, fun _ => ⟨hO, Or.inr (Or.inl ⟨rfl, rfl, hm, ⟨c, cs (pB S), hc, hcs, ?_, hR.1, fun d hd => ?_⟩, TI_wait hB hf (by rw [if_pos hq.2.2.1]; exact hT)⟩)⟩⟩
            · show mp9 (mWait N 8 (fnO c)) = _
              rw [mp_wait hN'.2.1, hR.2.1]
            · have hd' : d ∈ cs (sWait (pB S) c) := hd
              rw [hcs] at hd'
              rcases List.mem_cons.mp hd' with e | e
              · rw [e]; exact Or.inr (Or.inr (Or.inr hc))
              · exact hR.2.2 d e
theorem sim_tk {i c : Int} {S : PT} {N : NT} (hS : WFP i S) (hN : WN i N) (hi : i ≤ 39) (h : Sim S N) : (tk S c).2 = (mReads N c).2 ∧ (¬ (tk S c).2 = 0 → Sim (tk S c).1 (mReads N c).1) := by
  obtain ⟨hB, hf, hp⟩ := hS
  have hf9 : fil (pB S) ≤ 39 := by omega
  have hR0 := hN.1
  unfold RN at hR0
  have hB1 := hB.1
  have hf' : bN (pB S) + wP (pB S) ≤ 39 := hf9
  obtain ⟨hO, h⟩ := h
  rcases h with ⟨a, w, m, hR, hT⟩ | ⟨a, w, m, ⟨c0, l, hc0, hcs, hmp, hnd, hok⟩, hT⟩ | ⟨a, w, m, hR, hT⟩ | ⟨a, w, m, hR, hT⟩ | ⟨a, w, m, hR, hT⟩ | ⟨a, w, m, hR, hT⟩
  · rw [show tk S c = tkA S c by unfold tk; rw [if_pos a], show mReads N c = mBegins N c by unfold mReads; rw [if_pos w]]
    exact sim_begin hB hf9 hN.1 hO a w m hR hT
  · rw [show tk S c = tkO S c by unfold tk; rw [if_neg (by omega), if_pos a], show mReads N c = (mWh (mDp (mWait N 9 0) (nD N + 1)) 0, if c = 40 then 1 else 0) by unfold mReads; rw [if_neg (by omega), if_neg (by omega), if_pos w]]
    unfold tkO
    by_cases h4 : c = 40
    · rw [if_pos h4, if_pos h4]
      refine ⟨rfl, fun _ => ⟨by show pO S + 1 = nD N + 1; omega, Or.inl ⟨rfl, rfl, m, ⟨hnd, ?_, hok⟩, hT⟩⟩⟩
      show mp9 (mWait N 9 0) = mpl (cs (pB S))
      rw [mp_wait hR0.2.1, hcs, mpl_fn hc0, hmp]
    · rw [if_neg h4, if_neg h4]
      exact ⟨rfl, fun z => absurd rfl z⟩
  · rw [show tk S c = tkE S c by unfold tk; rw [if_neg (by omega), if_neg (by omega), if_pos a], show mReads N c = (if 48 ≤ c ∧ c ≤ 57 then (mWh (mNode N 7 (c - 48)) 3, 1) else (mWh N 3, 0)) by unfold mReads; rw [if_neg (by omega), if_pos w]]
    unfold tkE
    by_cases h4 : 48 ≤ c ∧ c ≤ 57
    · rw [if_pos h4, if_pos h4]
      have q := sim_power hB hf9 hR hT (d := c - 48) (by omega)
      exact ⟨rfl, fun _ => ⟨hO, Or.inr (Or.inr (Or.inr (Or.inr (Or.inr ⟨rfl, rfl, m, q.1, q.2⟩))))⟩⟩
    · rw [if_neg h4, if_neg h4]
      exact ⟨rfl, fun z => absurd rfl z⟩
  · rw [show tk S c = tkB S c by unfold tk; rw [if_neg (by omega), if_neg (by omega), if_neg (by omega)]]
    by_cases h4 : 48 ≤ c ∧ c ≤ 57
    · have q := num_at w hR0.1 hR
      have ea : at0 40 (bU (pB S)) (pM S) = nG N := by
        rw [m]
        unfold at0
        rw [if_pos (by omega)]
        exact q.2.2
      have e2 : mReads N c = (mDg N (10 * nG N + c - 48), if 0 < nG N ∧ nG N < 100 then 1 else 0) := by unfold mReads; rw [if_neg (by omega), if_neg (by omega), if_neg (by omega), if_pos ⟨w, h4⟩]
      have e1 : tkB S c = if 1 ≤ nG N ∧ nG N ≤ 99 then (mkP (sDigit (pB S) (pM S) (c - 48)) (pA S) (pO S) (pM S), 1) else (S, 0) := by
        unfold tkB
        rw [if_pos h4]
        unfold tkD
        rw [if_neg (by omega), ea]
      rw [e1, e2]
      by_cases h5 : 1 ≤ nG N ∧ nG N ≤ 99
      · rw [if_pos h5, if_pos (by omega)]
        have y := sim_digit hB w hR0.1 hR hT (d := c - 48) (by omega) h5
        rw [show 10 * nG N + (c - 48) = 10 * nG N + c - 48 by omega] at y
        refine ⟨rfl, fun _ => ⟨hO, Or.inr (Or.inr (Or.inr (Or.inl ⟨a, w, m, ?_, ?_⟩)))⟩⟩
        · show Rel (sDigit (pB S) (pM S) (c - 48)) _
          rw [m]; exact y.1
        · show TI (sDigit (pB S) (pM S) (c - 48)) 1
          rw [m]; exact y.2
      · rw [if_neg h5, if_neg (by omega)]
        exact ⟨rfl, fun z => absurd rfl z⟩
    · rw [show mReads N c = mFollows (mEnds N) c by unfold mReads; rw [if_neg (by omega), if_neg (by omega), if_neg (by omega), if_neg (fun z => h4 z.2)]]
      have hw2 : nWh (mEnds N) = 2 := by rw [ends_1 w]; rfl
      exact sim_follow hB hf9 (WB_ends hN (by omega)) (by rw [nD_ends]; exact hO) (Or.inl ⟨a, hw2⟩) hR hT h4
  · rw [show tk S c = tkB S c by unfold tk; rw [if_neg (by omega), if_neg (by omega), if_neg (by omega)], show mReads N c = mFollows (mEnds N) c by unfold mReads; rw [if_neg (by omega), if_neg (by omega), if_neg (by omega), if_neg (by omega)]]
    have hE := WB_ends hN (by omega)
    rw [ends_n (by omega)] at hE ⊢
    by_cases h4 : 48 ≤ c ∧ c ≤ 57
    · have e1 : tkB S c = (S, 0) := by unfold tkB; rw [if_pos h4]; unfold tkD; rw [if_pos m]
      have e2 : mFollows N c = (N, 0) := by unfold mFollows; rw [if_neg (by omega), if_neg (by omega), if_neg (by omega), if_neg (by omega)]
      rw [e1, e2]
      exact ⟨rfl, fun z => absurd rfl z⟩
    · exact sim_follow hB hf9 hE hO (Or.inl ⟨a, w⟩) hR hT h4
  · rw [show tk S c = tkB S c by unfold tk; rw [if_neg (by omega), if_neg (by omega), if_neg (by omega)], show mReads N c = mFollows (mEnds N) c by unfold mReads; rw [if_neg (by omega), if_neg (by omega), if_neg (by omega), if_neg (by omega)]]
    have hE := WB_ends hN (by omega)
    rw [ends_n (by omega)] at hE ⊢
    by_cases h4 : 48 ≤ c ∧ c ≤ 57
    · have e1 : tkB S c = (S, 0) := by unfold tkB; rw [if_pos h4]; unfold tkD; rw [if_pos m]
      have e2 : mFollows N c = (N, 0) := by unfold mFollows; rw [if_neg (by omega), if_neg (by omega), if_neg (by omega), if_neg (by omega)]
      rw [e1, e2]
      exact ⟨rfl, fun z => absurd rfl z⟩
    · exact sim_follow hB hf9 hE hO (Or.inr ⟨a, w⟩) hR hT h4
theorem sim_rd {f : Nat → Int} (hf : ∀ j, 0 ≤ f j ∧ f j < 65536) : ∀ (k : Nat) (i : Int) (S : PT) (N : NT), 0 ≤ i → i + k ≤ 40 → WFP i S → WN i N → Sim S N → (feL f k i S).2 = (mRd f k i N).2 ∧ ((feL f k i S).2 = -2 → Sim (feL f k i S).1 (mRd f k i N).1 ∧ WFP (i + k) (feL f k i S).1 ∧ WN (i + k) (mRd f k i N).1)
  | 0, i, S, N, _, _, hS, hN, h => by
    refine ⟨rfl, fun _ => ⟨h, ?_, ?_⟩⟩
    · rw [show i + ((0 : Nat) : Int) = i by omega]; exact hS
    · rw [show i + ((0 : Nat) : Int) = i by omega]; exact hN
  | k + 1, i, S, N, h0, hi, hS, hN, h => by
    have hq := hf i.toNat
    have q := sim_tk (c := f i.toNat) hS hN (by omega) h
    by_cases z : (tk S (f i.toNat)).2 = 0
    · rw [feL_stop z, mRd_stop (q.1.symm.trans z)]
      exact ⟨rfl, fun y => absurd (show i = -2 from y) (by omega)⟩
    · have z2 : ¬ (mReads N (f i.toNat)).2 = 0 := fun y => z (q.1.trans y)
      rw [feL_step z, mRd_step z2]
      have ih := sim_rd hf k (i + 1) _ _ (by omega) (by omega) (WF_tk hS (by omega) (by omega)) ((WN_reads hN (by omega) (by omega)).2 z2) (q.2 z)
      rw [show i + ((k + 1 : Nat) : Int) = i + 1 + k by omega]
      exact ih
theorem Sim_0 (B : BT) (N : NT) : Sim (fe0 B) (mR0 N) := by
  refine ⟨rfl, Or.inl ⟨rfl, rfl, rfl, ⟨⟨rfl, fun j hj => absurd (show (j : Int) < 0 from hj) (by omega)⟩, rfl, fun c hc => ?_⟩, ⟨?_, rfl, rfl⟩⟩⟩
  · have hc' : c ∈ ([] : List Int) := hc
    cases hc'
  · show TRc 0 (bK B) (bU B) (bL B) (bV B) (bD B) 0 (lQ B)
    exact ⟨by omega, fun k hk => absurd hk (by omega), ⟨rfl, fun i hi => absurd hi (by omega)⟩, fun i j _ hj => absurd hj (by omega), fun z => absurd z (by omega), fun j hj => absurd hj (by omega)⟩
/-- a whole text: one tree -/
def Good (B : BT) (N : NT) : Prop := NDs B N ∧ TRE B ∧ LEA B ∧ lP B = 1
theorem sim_end {n : Int} {B : BT} {N : NT} (hB : WFB B) (hW : WB n N) (hd : nD N = 0) (hR : Rel B N) (hT : TI B 1) : Good (sJoinF 1 B) (mBinds 1 N) := by
  obtain ⟨w1, w2, w3, w4, w5⟩ := hW
  unfold RN at w1
  have j := sim_join1 hB (by omega) hR hT
  have q := WS_bnd (t := 1) (nP N).toNat N (by omega) rfl w4
  have q3 : ¬ bnds 1 (mLast (mBinds 1 N)) := q.2.2.1
  have q1 : okL 1 (sk (mBinds 1 N)) := q.1
  have q2 : c9 (sk (mBinds 1 N)) = c9 (sk N) := q.2.1
  have q4 : 0 ≤ nP (mBinds 1 N) := q.2.2.2
  refine ⟨j.1.1, j.2.1, j.2.2.2, ?_⟩
  rcases Rel_top j.1 q4 with z | ⟨l, p1, p2, p3, p4⟩
  · rw [j.2.2.1, z.1]; rfl
  · exfalso
    have hl := sk_last p2
    rw [hl] at q1 q2
    have hn := c9_nn (sk (mDrop (mBinds 1 N)))
    unfold okL at q1
    unfold bnds at q3
    rcases q1 with y | y | y | y
    · exact y.2.1 rfl
    · omega
    · have e9 : c9 (mLast (mBinds 1 N) :: sk (mDrop (mBinds 1 N))) = 1 + c9 (sk (mDrop (mBinds 1 N))) := by
        show (if mLast (mBinds 1 N) = 9 then 1 else 0) + _ = _
        rw [if_pos y.1]
      omega
    · omega
theorem sim_read {B : BT} {N : NT} {f : Nat → Int} {n : Int} (hB : WFB B) (hZ : WZ N) (hn : 0 ≤ n ∧ n ≤ 40) (hf : ∀ j, 0 ≤ f j ∧ f j < 65536) : (fe B f n).2 = (mRead N f n).2 ∧ ((fe B f n).2 = -1 → Good (pB (fe B f n).1) (mRead N f n).1) := by
  have q := sim_rd hf n.toNat 0 (fe0 B) (mR0 N) (by omega) (by omega) (WF_fe0 hB) (WN_0 hZ) (Sim_0 B N)
  rw [show (0 : Int) + ((n.toNat : Nat) : Int) = n by omega] at q
  have hM := (WZ_mRd hf n.toNat 0 (mR0 N) (by omega) (by omega) (WN_0 hZ)).2
  unfold fe mRead feZ mRz
  generalize feL f n.toNat 0 (fe0 B) = P at q ⊢
  generalize mRd f n.toNat 0 (mR0 N) = M at q hM ⊢
  by_cases h2 : P.2 = -2
  · have h2' : M.2 = -2 := q.1.symm.trans h2
    rw [if_pos h2, if_pos h2']
    obtain ⟨⟨hO, hS⟩, hP, hN⟩ := q.2 h2
    have hN3 := hN.2.2.1
    by_cases h3 : 0 < pO P.1 ∨ (¬ pA P.1 = 3 ∧ ¬ pA P.1 = 4)
    · rw [if_pos h3, if_pos (by omega)]
      exact ⟨rfl, fun y => absurd (show n = -1 from y) (by omega)⟩
    · have hd0 : 0 ≤ nD M.1 := by rw [hN.2.2.2.1]; exact c9_nn _
      rw [if_neg h3, if_neg (by omega)]
      refine ⟨rfl, fun _ => ?_⟩
      have hE := WB_ends hN (by omega)
      have hR : Rel (pB P.1) (mEnds M.1) ∧ TI (pB P.1) 1 := by
        rcases hS with z | z | z | z | z | z
        · omega
        · omega
        · omega
        · exact z.2.2.2
        · rw [ends_n (by omega)]; exact z.2.2.2
        · rw [ends_n (by omega)]; exact z.2.2.2
      exact sim_end hP.1 hE (by rw [nD_ends]; omega) hR.1 hR.2
  · have h2' : ¬ M.2 = -2 := fun y => h2 (q.1.trans y)
    rw [if_neg h2, if_neg h2']
    refine ⟨q.1, fun y => ?_⟩
    exfalso
    have q1 := q.1
    rcases hM with z | z
    · exact h2' z.1
    · omega
