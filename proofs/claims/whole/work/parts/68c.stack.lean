/-! what waits, on both sides -/
def skc (Q : Nat → Int) : Nat → List Int
  | 0 => []
  | k + 1 => Q k :: skc Q k
def cs (B : BT) : List Int := skc (wQ B) (wP B).toNat
def skp (Q : Nat → Int) : Nat → List (Int × Int)
  | 0 => []
  | k + 1 => (Q (2 * k), Q (2 * k + 1)) :: skp Q k
def mp9 (N : NT) : List (Int × Int) := skp (nQ N) (nP N).toNat
theorem skc_up {Q : Nat → Int} {j : Nat} {v : Int} : ∀ k : Nat, k ≤ j → skc (up Q j v) k = skc Q k
  | 0, _ => rfl
  | k + 1, h => by
    show up Q j v k :: skc (up Q j v) k = Q k :: skc Q k
    rw [up_n (by omega), skc_up k (by omega)]
theorem skp_up {Q : Nat → Int} {j : Nat} {v : Int} : ∀ k : Nat, 2 * k ≤ j → skp (up Q j v) k = skp Q k
  | 0, _ => rfl
  | k + 1, h => by
    show (up Q j v (2 * k), up Q j v (2 * k + 1)) :: skp (up Q j v) k = (Q (2 * k), Q (2 * k + 1)) :: skp Q k
    rw [up_n (by omega), up_n (by omega), skp_up k (by omega)]
theorem cs_wait {B : BT} {c : Int} (h : 0 ≤ wP B ∧ wP B < 40) : cs (sWait B c) = c :: cs B := by
  show skc (pF (wP B) (wQ B) c) (pN (wP B)).toNat = _
  unfold pN pF
  rw [if_pos h.2, if_pos h.2, show (wP B + 1).toNat = (wP B).toNat + 1 by omega]
  show up (wQ B) (wP B).toNat c (wP B).toNat :: skc (up (wQ B) (wP B).toNat c) (wP B).toNat = c :: skc (wQ B) (wP B).toNat
  rw [up_s, skc_up _ (Nat.le_refl _)]
theorem cs_pos {B : BT} (h : 0 < wP B) : cs B = wTop B :: cs (sWPop B) := by
  have e1 : wTop B = wQ B (wP B - 1).toNat := by
    show tp (wP B) (wQ B) = _
    unfold tp
    rw [if_pos h]
  have e2 : cs (sWPop B) = skc (wQ B) (wP B - 1).toNat := by
    show skc (wQ B) (oN (wP B)).toNat = _
    unfold oN
    rw [if_pos h]
  rw [e1, e2]
  unfold cs
  rw [show (wP B).toNat = (wP B - 1).toNat + 1 by omega]
  rfl
theorem cs_0 {B : BT} (h : wP B ≤ 0) : cs B = [] ∧ wTop B = -1 := by
  refine ⟨?_, ?_⟩
  · unfold cs
    rw [show (wP B).toNat = 0 by omega]
    rfl
  · show tp (wP B) (wQ B) = -1
    unfold tp
    rw [if_neg (by omega)]
theorem cs_cons {B : BT} {c : Int} {l : List Int} (h : cs B = c :: l) : 0 < wP B ∧ wTop B = c ∧ cs (sWPop B) = l := by
  by_cases z : 0 < wP B
  · rw [cs_pos z] at h
    injection h with h1 h2
    exact ⟨z, h1, h2⟩
  · rw [(cs_0 (B := B) (by omega)).1] at h
    cases h
theorem mp_wait {N : NT} {k u : Int} (h : 0 ≤ nP N) : mp9 (mWait N k u) = (k, u) :: mp9 N := by
  show skp (up (up (nQ N) (2 * nP N).toNat k) (2 * nP N + 1).toNat u) (nP N + 1).toNat = _
  rw [show (nP N + 1).toNat = (nP N).toNat + 1 by omega]
  show (up (up (nQ N) (2 * nP N).toNat k) (2 * nP N + 1).toNat u (2 * (nP N).toNat), up (up (nQ N) (2 * nP N).toNat k) (2 * nP N + 1).toNat u (2 * (nP N).toNat + 1)) :: skp (up (up (nQ N) (2 * nP N).toNat k) (2 * nP N + 1).toNat u) (nP N).toNat = _
  have e1 : up (up (nQ N) (2 * nP N).toNat k) (2 * nP N + 1).toNat u (2 * (nP N).toNat) = k := by
    rw [up_n (by omega), show 2 * (nP N).toNat = (2 * nP N).toNat by omega, up_s]
  have e2 : up (up (nQ N) (2 * nP N).toNat k) (2 * nP N + 1).toNat u (2 * (nP N).toNat + 1) = u := by
    rw [show 2 * (nP N).toNat + 1 = (2 * nP N + 1).toNat by omega, up_s]
  rw [e1, e2, skp_up _ (by omega), skp_up _ (by omega)]
  rfl
theorem mp_pos {N : NT} (h : 0 < nP N) : mp9 N = (nQ N (2 * (nP N - 1)).toNat, nQ N (2 * (nP N - 1) + 1).toNat) :: mp9 (mDrop N) := by
  unfold mp9
  rw [show (nP N).toNat = (nP N - 1).toNat + 1 by omega]
  show (nQ N (2 * (nP N - 1).toNat), nQ N (2 * (nP N - 1).toNat + 1)) :: skp (nQ N) (nP N - 1).toNat = _
  rw [show 2 * (nP N - 1).toNat + 1 = (2 * (nP N - 1) + 1).toNat by omega, show 2 * (nP N - 1).toNat = (2 * (nP N - 1)).toNat by omega]
  rfl
theorem mp_0 {N : NT} (h : nP N ≤ 0) : mp9 N = [] := by
  unfold mp9
  rw [show (nP N).toNat = 0 by omega]
  rfl
theorem mp_cons {N : NT} {k u : Int} {r : List (Int × Int)} (h : mp9 N = (k, u) :: r) : 0 < nP N ∧ nQ N (2 * (nP N - 1)).toNat = k ∧ nQ N (2 * (nP N - 1) + 1).toNat = u ∧ mp9 (mDrop N) = r ∧ mLast N = k := by
  by_cases z : 0 < nP N
  · rw [mp_pos z] at h
    injection h with h1 h2
    injection h1 with h3 h4
    refine ⟨z, h3, h4, h2, ?_⟩
    unfold mLast
    rw [if_neg (by omega), show 2 * nP N - 2 = 2 * (nP N - 1) by omega]
    exact h3
  · rw [mp_0 (by omega)] at h
    cases h
theorem mp_nil {N : NT} (h : mp9 N = []) (h0 : 0 ≤ nP N) : nP N = 0 ∧ mLast N = -1 := by
  by_cases z : 0 < nP N
  · rw [mp_pos z] at h
    cases h
  · refine ⟨by omega, ?_⟩
    unfold mLast
    rw [if_pos (by omega)]
theorem skl_skp (Q : Nat → Int) : ∀ k : Nat, skl Q k = (skp Q k).map (fun q => q.1)
  | 0 => rfl
  | k + 1 => by
    show Q (2 * k) :: skl Q k = Q (2 * k) :: (skp Q k).map (fun q => q.1)
    rw [skl_skp Q k]
theorem sk_mp (N : NT) : sk N = (mp9 N).map (fun q => q.1) := skl_skp _ _
/-- what stands on the reference's side for a sign that waits -/
def mpw (c : Int) : List (Int × Int) := if c = 110 then [(2, 0)] else if c = 40 then [(9, 0)] else if lvl c = 0 then [(9, 0), (8, fnO c)] else [(mSg c, 0)]
def mpl : List Int → List (Int × Int)
  | [] => []
  | c :: l => mpw c ++ mpl l
abbrev isO (c : Int) : Prop := c = 43 ∨ c = 45 ∨ c = 42 ∨ c = 47
abbrev isF (c : Int) : Prop := c = 102 ∨ c = 103 ∨ c = 104 ∨ c = 107
def okc (c : Int) : Prop := c = 110 ∨ c = 40 ∨ isO c ∨ isF c
theorem mpl_neg (l : List Int) : mpl (110 :: l) = (2, 0) :: mpl l := by
  show mpw 110 ++ mpl l = _
  rw [show mpw 110 = [(2, 0)] by decide]
  rfl
theorem mpl_par (l : List Int) : mpl (40 :: l) = (9, 0) :: mpl l := by
  show mpw 40 ++ mpl l = _
  rw [show mpw 40 = [(9, 0)] by decide]
  rfl
theorem mpl_op {c : Int} (h : isO c) (l : List Int) : mpl (c :: l) = (mSg c, 0) :: mpl l := by
  show mpw c ++ mpl l = _
  rw [show mpw c = [(mSg c, 0)] by rcases h with rfl | rfl | rfl | rfl <;> decide]
  rfl
theorem mpl_fn {c : Int} (h : isF c) (l : List Int) : mpl (c :: l) = (9, 0) :: (8, fnO c) :: mpl l := by
  show mpw c ++ mpl l = _
  rw [show mpw c = [(9, 0), (8, fnO c)] by rcases h with rfl | rfl | rfl | rfl <;> decide]
  rfl
theorem fn_is {c : Int} (h : ¬ fnO c = -1) : isF c := by
  unfold fnO at h
  unfold isF
  split at h
  · exact Or.inl ‹_›
  · split at h
    · exact Or.inr (Or.inl ‹_›)
    · split at h
      · exact Or.inr (Or.inr (Or.inl ‹_›))
      · split at h
        · exact Or.inr (Or.inr (Or.inr ‹_›))
        · exact absurd rfl h
theorem isF_fn {c : Int} (h : isF c) : 0 ≤ fnO c ∧ fnO c ≤ 3 ∧ lvl c = 0 ∧ ¬ c = 110 ∧ ¬ c = 40 := by rcases h with rfl | rfl | rfl | rfl <;> decide
theorem isO_lv {c : Int} (h : isO c) : (1 ≤ lvl c ∧ lvl c ≤ 2 ∧ kc c = mSg c ∧ ¬ c = 110 ∧ fnO c = -1 ∧ ¬ kc c = 8) ∧ ((lvl c = 1 ∧ (mSg c = 3 ∨ mSg c = 4)) ∨ (lvl c = 2 ∧ (mSg c = 5 ∨ mSg c = 6))) := by rcases h with rfl | rfl | rfl | rfl <;> decide
theorem lvl_is {c : Int} (h : 1 ≤ lvl c) : isO c := by
  unfold lvl at h
  unfold isO
  split at h
  · exact Or.inl ‹_›
  · split at h
    · exact Or.inr (Or.inl ‹_›)
    · split at h
      · exact Or.inr (Or.inr (Or.inl ‹_›))
      · split at h
        · exact Or.inr (Or.inr (Or.inr ‹_›))
        · omega
/-- how many signs between two parts wait -/
def ops : List Int → Int
  | [] => 0
  | c :: l => (if lvl c = 0 then 0 else 1) + ops l
theorem ops_nn : ∀ l : List Int, 0 ≤ ops l
  | [] => Int.le_refl 0
  | c :: l => by
    have := ops_nn l
    show 0 ≤ (if lvl c = 0 then 0 else 1) + ops l
    split <;> omega
theorem ops_c {c : Int} {l : List Int} : ops (c :: l) = (if lvl c = 0 then 0 else 1) + ops l := rfl
def NDs (B : BT) (N : NT) : Prop := nN N = bN B ∧ ∀ j : Nat, (j : Int) < bN B → nK N j = kc (bK B j) ∧ nU N j = bU B j
def Rel (B : BT) (N : NT) : Prop := NDs B N ∧ mp9 N = mpl (cs B) ∧ ∀ c, c ∈ cs B → okc c
def TI (B : BT) (d : Int) : Prop := TRE B ∧ lP B = ops (cs B) + d ∧ LEA B
/-- what is on top, on both sides -/
theorem Rel_top {B : BT} {N : NT} (h : Rel B N) (h0 : 0 ≤ nP N) : (cs B = [] ∧ wTop B = -1 ∧ mLast N = -1 ∧ nP N = 0) ∨
    (∃ l, 0 < wP B ∧ 0 < nP N ∧ cs B = wTop B :: l ∧ ((wTop B = 110 ∧ mp9 N = (2, 0) :: mpl l ∧ mLast N = 2) ∨ (wTop B = 40 ∧ mp9 N = (9, 0) :: mpl l ∧ mLast N = 9) ∨ (isO (wTop B) ∧ mp9 N = (mSg (wTop B), 0) :: mpl l ∧ mLast N = mSg (wTop B)) ∨ (isF (wTop B) ∧ mp9 N = (9, 0) :: (8, fnO (wTop B)) :: mpl l ∧ mLast N = 9))) := by
  obtain ⟨-, hm, hk⟩ := h
  cases hcs : cs B with
  | nil =>
    rw [hcs] at hm
    have q := mp_nil (show mp9 N = [] from hm) h0
    refine Or.inl ⟨rfl, ?_, q.2, q.1⟩
    by_cases z : 0 < wP B
    · rw [cs_pos z] at hcs; cases hcs
    · exact (cs_0 (by omega)).2
  | cons c l =>
    have hc := cs_cons hcs
    have ho := hk c (by rw [hcs]; exact List.mem_cons_self)
    rw [hcs] at hm
    rw [hc.2.1]
    refine Or.inr ⟨l, hc.1, ?_⟩
    rcases ho with rfl | rfl | ho | ho
    · rw [mpl_neg] at hm
      exact ⟨(mp_cons hm).1, rfl, Or.inl ⟨rfl, hm, (mp_cons hm).2.2.2.2⟩⟩
    · rw [mpl_par] at hm
      exact ⟨(mp_cons hm).1, rfl, Or.inr (Or.inl ⟨rfl, hm, (mp_cons hm).2.2.2.2⟩)⟩
    · rw [mpl_op ho] at hm
      exact ⟨(mp_cons hm).1, rfl, Or.inr (Or.inr (Or.inl ⟨ho, hm, (mp_cons hm).2.2.2.2⟩))⟩
    · rw [mpl_fn ho] at hm
      exact ⟨(mp_cons hm).1, rfl, Or.inr (Or.inr (Or.inr ⟨ho, hm, (mp_cons hm).2.2.2.2⟩))⟩
theorem NDs_add {B : BT} {N : NT} {k u a b : Int} (h : NDs B N) (hn : 0 ≤ bN B ∧ bN B < 40) : NDs (sAdd B k u a b) (mNode N (kc k) u) := by
  have h1 := h.1
  refine ⟨?_, fun j hj => ?_⟩
  · show nN N + 1 = min (bN B + 1) 40
    omega
  · have hj' : (j : Int) < min (bN B + 1) 40 := hj
    show up (nK N) (nN N).toNat (kc k) j = kc (put0 40 (bK B) (bN B) k j) ∧ up (nU N) (nN N).toNat u j = put0 40 (bU B) (bN B) u j
    rw [put0_up hn, put0_up hn, h1]
    unfold up
    by_cases e : j = (bN B).toNat
    · simp only [if_pos e, and_self]
    · simp only [if_neg e]
      exact h.2 j (by omega)
theorem Rel_add {B : BT} {N : NT} {k u a b : Int} (h : Rel B N) (hn : 0 ≤ bN B ∧ bN B < 40) : Rel (sAdd B k u a b) (mNode N (kc k) u) := ⟨NDs_add h.1 hn, h.2⟩
theorem Rel_drop {B : BT} {N : NT} {k u : Int} (h : NDs B N) (hk : ∀ c, c ∈ cs B → okc c) {c : Int} {l : List Int} (hc : cs B = c :: l) (hm : mp9 N = (k, u) :: mpl l) : Rel (sWPop B) (mDrop N) := by
  have q := cs_cons hc
  refine ⟨h, ?_, fun d hd => hk d ?_⟩
  · rw [q.2.2]; exact (mp_cons hm).2.2.2.1
  · rw [q.2.2] at hd
    rw [hc]
    exact List.mem_cons_of_mem _ hd
theorem come_eq {N : NT} {k u : Int} {r : List (Int × Int)} (hm : mp9 N = (k, u) :: r) : mCome N = mNode (mDrop N) k u := by
  have q := mp_cons hm
  unfold mCome
  rw [q.2.1, q.2.2.1]
theorem bN_lt {B : BT} (h : WFB B) (hp : 0 < wP B) : 0 ≤ bN B ∧ bN B < 40 := by
  have := h.1
  omega
theorem sim_neg {B : BT} {N : NT} (hB : WFB B) (hR : Rel B N) (hT : TI B 1) (h0 : 0 ≤ nP N) (hw : wTop B = 110) : Rel (sNeg B) (mCome N) ∧ TI (sNeg B) 1 ∧ mLast N = 2 ∧ 0 < nP N := by
  rcases Rel_top hR h0 with q | ⟨l, p1, p2, p3, p4⟩
  · omega
  have pn := bN_lt hB p1
  have hB1 := hB.1
  rw [hw] at p3 p4
  have p5 : mp9 N = (2, 0) :: mpl l ∧ mLast N = 2 := by
    rcases p4 with q | q | q | q
    · exact q.2
    · exact absurd q.1 (by decide)
    · exact absurd q.1 (by decide)
    · exact absurd q.1 (by decide)
  have hs := cs_cons p3
  have e3 : sNeg B = sAdd (sLPop (sWPop B)) 110 0 (lTop B) (-1) := by unfold sNeg; rw [hw]
  have hop := ops_nn l
  have hl : lP B = ops (110 :: l) + 1 := by rw [← p3]; exact hT.2.1
  rw [ops_c, if_pos (by decide)] at hl
  refine ⟨?_, ?_, p5.2, p2⟩
  · rw [come_eq p5.1, e3]
    exact Rel_add (k := 110) (Rel_drop hR.1 hR.2.2 p3 p5.1) pn
  · rw [e3]
    refine ⟨TRE_un (B := sWPop B) hT.1 pn.2 (by show 1 ≤ lP B; omega) (Or.inl ⟨rfl, rfl⟩), ?_, LEA_add (B := sLPop (sWPop B)) hT.2.2 pn (by decide)⟩
    show pN (oN (lP B)) = ops (cs (sWPop B)) + 1
    rw [hs.2.2]
    unfold oN
    rw [if_pos (by omega)]
    unfold pN
    rw [if_pos (by omega)]
    omega
theorem sim_op {B : BT} {N : NT} (hB : WFB B) (hR : Rel B N) (hT : TI B 1) (h0 : 0 ≤ nP N) (hw : isO (wTop B)) : Rel (sOp B) (mCome N) ∧ TI (sOp B) 1 ∧ mLast N = mSg (wTop B) ∧ 0 < nP N := by
  have ho := isO_lv hw
  rcases Rel_top hR h0 with q | ⟨l, p1, p2, p3, p4⟩
  · rw [q.2.1] at hw; exact absurd hw (by decide)
  have pn := bN_lt hB p1
  have hB1 := hB.1
  have p5 : mp9 N = (mSg (wTop B), 0) :: mpl l ∧ mLast N = mSg (wTop B) := by
    rcases p4 with q | q | q | q
    · omega
    · rw [q.1] at hw; exact absurd hw (by decide)
    · exact q.2
    · have := isF_fn q.1; omega
  have hs := cs_cons p3
  have hop := ops_nn l
  have hl : lP B = ops (wTop B :: l) + 1 := by rw [← p3]; exact hT.2.1
  rw [ops_c, if_neg (by omega)] at hl
  refine ⟨?_, ?_, p5.2, p2⟩
  · rw [come_eq p5.1, ← ho.1.2.2.1]
    exact Rel_add (B := sLPop (sWPop (sLPop B))) (Rel_drop (B := sLPop B) hR.1 hR.2.2 p3 p5.1) pn
  · refine ⟨TRE_bin (B := sWPop B) hT.1 pn.2 (by show 2 ≤ lP B; omega) hw, ?_, LEA_add (B := sLPop (sWPop (sLPop B))) hT.2.2 pn ho.1.2.2.2.2.2⟩
    show pN (oN (oN (lP B))) = ops (cs (sWPop B)) + 1
    rw [hs.2.2]
    have e1 : oN (lP B) = lP B - 1 := by unfold oN; rw [if_pos (by omega)]
    have e2 : oN (lP B - 1) = lP B - 2 := by unfold oN; rw [if_pos (by omega)]; omega
    rw [e1, e2]
    unfold pN
    rw [if_pos (by omega)]
    omega
theorem sim_fin : ∀ (k m : Nat) (B : BT) (N : NT), (wP B).toNat ≤ k → (nP N).toNat ≤ m → WFB B → 0 ≤ nP N → Rel B N → TI B 1 → Rel (sFin k B) (mAtm m N) ∧ TI (sFin k B) 1
  | 0, m, B, N, hk, hm, hB, h0, hR, hT => by
    rcases Rel_top hR h0 with q | ⟨l, p1, p2, p3, p4⟩
    · rw [mAtm_stop (by omega)]
      exact ⟨hR, hT⟩
    · omega
  | k + 1, m, B, N, hk, hm, hB, h0, hR, hT => by
    by_cases hw : wTop B = 110
    · have q := sim_neg hB hR hT h0 hw
      have hp := wTop_pos (B := B) (by omega)
      obtain ⟨m', rfl⟩ : ∃ m', m = m' + 1 := ⟨m - 1, by omega⟩
      rw [sFin_step hw, mAtm_step q.2.2.1]
      refine sim_fin k m' (sNeg B) (mCome N) ?_ ?_ (WF_neg hB hw) ?_ q.1 q.2.1
      · show (oN (wP B)).toNat ≤ k
        unfold oN
        rw [if_pos hp]
        omega
      · show (nP N - 1).toNat ≤ m'
        omega
      · show 0 ≤ nP N - 1
        omega
    · rw [sFin_stop hw]
      have hl : ¬ mLast N = 2 := by
        rcases Rel_top hR h0 with q | ⟨l, p1, p2, p3, p4⟩
        · omega
        · rcases p4 with q | q | q | q
          · exact absurd q.1 hw
          · omega
          · have := mSg_r (wTop B); omega
          · omega
      rw [mAtm_stop hl]
      exact ⟨hR, hT⟩
theorem sim_finA {B : BT} {N : NT} (hB : WFB B) (h0 : 0 ≤ nP N) (hR : Rel B N) (hT : TI B 1) : Rel (sFinA B) (mAtom N) ∧ TI (sFinA B) 1 := sim_fin _ _ B N (Nat.le_refl _) (Nat.le_refl _) hB h0 hR hT
theorem sim_joinL {v t : Int} (hvt : (v = 1 ∧ t = 1) ∨ (v = 2 ∧ t = 0)) : ∀ (k m : Nat) (B : BT) (N : NT), (wP B).toNat ≤ k → (nP N).toNat ≤ m → WFB B → 0 ≤ nP N → Rel B N → TI B 1 → Rel (sJoin v k B) (mBnd t m N) ∧ TI (sJoin v k B) 1
  | 0, m, B, N, hk, hm, hB, h0, hR, hT => by
    rcases Rel_top hR h0 with q | ⟨l, p1, p2, p3, p4⟩
    · rw [mBnd_stop (by unfold bnds; omega)]
      exact ⟨hR, hT⟩
    · omega
  | k + 1, m, B, N, hk, hm, hB, h0, hR, hT => by
    by_cases hw : v ≤ lvl (wTop B)
    · have ho := lvl_is (c := wTop B) (by omega)
      have hv := isO_lv ho
      have q := sim_op hB hR hT h0 ho
      have hp := wTop_pos (lvl_pos (c := wTop B) (by omega))
      obtain ⟨m', rfl⟩ : ∃ m', m = m' + 1 := ⟨m - 1, by omega⟩
      rw [sJoin_step hw, mBnd_step (by unfold bnds; omega)]
      refine sim_joinL hvt k m' (sOp B) (mCome N) ?_ ?_ (WF_op hB (by omega)) ?_ q.1 q.2.1
      · show (oN (wP B)).toNat ≤ k
        unfold oN
        rw [if_pos hp]
        omega
      · show (nP N - 1).toNat ≤ m'
        omega
      · show 0 ≤ nP N - 1
        omega
    · rw [sJoin_stop hw]
      have hl : ¬ bnds t (mLast N) := by
        unfold bnds
        rcases Rel_top hR h0 with q | ⟨l, p1, p2, p3, p4⟩
        · omega
        · rcases p4 with q | q | q | q
          · omega
          · omega
          · have := isO_lv q.1; omega
          · omega
      rw [mBnd_stop hl]
      exact ⟨hR, hT⟩
theorem sim_join1 {B : BT} {N : NT} (hB : WFB B) (h0 : 0 ≤ nP N) (hR : Rel B N) (hT : TI B 1) : Rel (sJoinF 1 B) (mBinds 1 N) ∧ TI (sJoinF 1 B) 1 := sim_joinL (Or.inl ⟨rfl, rfl⟩) _ _ B N (Nat.le_refl _) (Nat.le_refl _) hB h0 hR hT
theorem sim_join2 {B : BT} {N : NT} (hB : WFB B) (h0 : 0 ≤ nP N) (hR : Rel B N) (hT : TI B 1) : Rel (sJoinF 2 B) (mBinds 0 N) ∧ TI (sJoinF 2 B) 1 := sim_joinL (Or.inr ⟨rfl, rfl⟩) _ _ B N (Nat.le_refl _) (Nat.le_refl _) hB h0 hR hT
theorem sim_wait {B : BT} {N : NT} {c k u : Int} (hB : WFB B) (hf : fil B ≤ 39) (h0 : 0 ≤ nP N) (hR : Rel B N) (hc : okc c) (hm : ∀ l, mpl (c :: l) = (k, u) :: mpl l) : Rel (sWait B c) (mWait N k u) := by
  have hB1 := hB.1
  have hf' : bN B + wP B ≤ 39 := hf
  refine ⟨hR.1, ?_, fun d hd => ?_⟩
  · rw [mp_wait h0, cs_wait (by omega), hm, hR.2.1]
  · rw [cs_wait (by omega)] at hd
    rcases List.mem_cons.mp hd with e | e
    · rw [e]; exact hc
    · exact hR.2.2 d e
theorem TI_wait {B : BT} {c d : Int} (hB : WFB B) (hf : fil B ≤ 39) (hT : TI B (d + if lvl c = 0 then 0 else 1)) : TI (sWait B c) d := by
  have hB1 := hB.1
  have hf' : bN B + wP B ≤ 39 := hf
  refine ⟨hT.1, ?_, hT.2.2⟩
  show lP B = ops (cs (sWait B c)) + d
  rw [cs_wait (by omega), ops_c, hT.2.1]
  split <;> omega
theorem TI_leaf {B : BT} {k u : Int} (hB : WFB B) (hf : fil B ≤ 39) (hT : TI B 0) (hk : (k = 120 ∧ u = 0) ∨ (k = 48 ∧ 0 ≤ u ∧ u ≤ 999)) : TI (sAdd B k u (-1) (-1)) 1 := by
  have hB1 := hB.1
  have hf' : bN B + wP B ≤ 39 := hf
  refine ⟨TRE_leaf hT.1 (by omega) hk, ?_, LEA_add hT.2.2 (by omega) (by rcases hk with ⟨rfl, -⟩ | ⟨rfl, -⟩ <;> decide)⟩
  show pN (lP B) = ops (cs B) + 1
  unfold pN
  rw [if_pos (by omega), hT.2.1]
  omega
