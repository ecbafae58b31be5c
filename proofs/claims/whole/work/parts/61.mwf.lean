/-! what holds while the reference reads: ranges, and the order of what waits -/
def skl (Q : Nat → Int) : Nat → List Int
  | 0 => []
  | k + 1 => Q (2 * k) :: skl Q k
def sk (N : NT) : List Int := skl (nQ N) (nP N).toNat
def okL : Int → List Int → Prop
  | _, [] => True
  | m, k :: l => (k = 2 ∧ ¬ m = 1 ∧ okL 0 l) ∨ ((3 ≤ k ∧ k ≤ 6) ∧ okL 1 l) ∨ (k = 9 ∧ okL 2 l) ∨ (k = 8 ∧ m = 2 ∧ okL 0 l)
def c9 : List Int → Int
  | [] => 0
  | k :: l => (if k = 9 then 1 else 0) + c9 l
theorem c9_nn : ∀ l, 0 ≤ c9 l
  | [] => Int.le_refl 0
  | k :: l => by
    have := c9_nn l
    unfold c9
    split <;> omega
theorem skl_up {Q : Nat → Int} {j : Nat} {v : Int} : ∀ k, 2 * k ≤ j + 1 → skl (up Q j v) k = skl Q k
  | 0, _ => rfl
  | k + 1, h => by
    show up Q j v (2 * k) :: skl (up Q j v) k = Q (2 * k) :: skl Q k
    rw [up_n (by omega), skl_up k (by omega)]
theorem sk_wait {N : NT} {k u : Int} (h : 0 ≤ nP N) : sk (mWait N k u) = k :: sk N := by
  show skl (up (up (nQ N) (2 * nP N).toNat k) (2 * nP N + 1).toNat u) (nP N + 1).toNat = _
  rw [show (nP N + 1).toNat = (nP N).toNat + 1 by omega]
  show up (up (nQ N) (2 * nP N).toNat k) (2 * nP N + 1).toNat u (2 * (nP N).toNat) :: skl _ _ = _
  rw [up_n (by omega), show 2 * (nP N).toNat = (2 * nP N).toNat by omega, up_s, skl_up _ (by omega), skl_up _ (by omega)]
  rfl
theorem sk_drop {N : NT} (h : 0 < nP N) : sk N = nQ N (2 * (nP N - 1)).toNat :: sk (mDrop N) := by
  show skl (nQ N) (nP N).toNat = _ :: skl (nQ N) (nP N - 1).toNat
  rw [show (nP N).toNat = (nP N - 1).toNat + 1 by omega]
  show nQ N (2 * (nP N - 1).toNat) :: _ = _
  rw [show 2 * (nP N - 1).toNat = (2 * (nP N - 1)).toNat by omega]
theorem sk_nil {N : NT} (h : nP N = 0) : sk N = [] := by
  show skl (nQ N) (nP N).toNat = []
  rw [h]; rfl
theorem sk_last {N : NT} (h : 0 < nP N) : sk N = mLast N :: sk (mDrop N) := by
  rw [sk_drop h]
  unfold mLast
  rw [if_neg (by omega), show 2 * nP N - 2 = 2 * (nP N - 1) by omega]
theorem sk_come (N : NT) : sk (mCome N) = sk (mDrop N) := rfl
def WZ (N : NT) : Prop := (∀ j, 0 ≤ nQ N j ∧ nQ N j ≤ 999) ∧ (∀ j, 0 ≤ nK N j ∧ nK N j ≤ 999) ∧ (∀ j, 0 ≤ nU N j ∧ nU N j ≤ 999) ∧ (0 ≤ nG N ∧ nG N ≤ 99999)
theorem WZ_node {N : NT} {k u : Int} (h : WZ N) (hk : 0 ≤ k ∧ k ≤ 999) (hu : 0 ≤ u ∧ u ≤ 999) : WZ (mNode N k u) :=
  ⟨h.1, up_bnd (P := fun v => 0 ≤ v ∧ v ≤ 999) h.2.1 hk, up_bnd (P := fun v => 0 ≤ v ∧ v ≤ 999) h.2.2.1 hu, h.2.2.2⟩
theorem WZ_wait {N : NT} {k u : Int} (h : WZ N) (hk : 0 ≤ k ∧ k ≤ 999) (hu : 0 ≤ u ∧ u ≤ 999) : WZ (mWait N k u) :=
  ⟨up_bnd (P := fun v => 0 ≤ v ∧ v ≤ 999) (up_bnd (P := fun v => 0 ≤ v ∧ v ≤ 999) h.1 hk) hu, h.2.1, h.2.2.1, h.2.2.2⟩
theorem WZ_come {N : NT} (h : WZ N) : WZ (mCome N) := WZ_node (N := mDrop N) h (h.1 _) (h.1 _)
theorem WZ_atm : ∀ (k : Nat) (N : NT), WZ N → WZ (mAtm k N)
  | 0, _, h => h
  | k + 1, N, h => by
    unfold mAtm
    split
    · exact WZ_atm k _ (WZ_come h)
    · exact h
theorem WZ_bnd {t : Int} : ∀ (k : Nat) (N : NT), WZ N → WZ (mBnd t k N)
  | 0, _, h => h
  | k + 1, N, h => by
    unfold mBnd
    split
    · exact WZ_bnd k _ (WZ_come h)
    · exact h
theorem okL_2 {l : List Int} (h : okL 0 l) : okL 2 l := by
  cases l with
  | nil => trivial
  | cons k l =>
    unfold okL at h ⊢
    rcases h with h | h | h | h
    · exact Or.inl ⟨h.1, by omega, h.2.2⟩
    · exact Or.inr (Or.inl h)
    · exact Or.inr (Or.inr (Or.inl h))
    · exact absurd h.2.1 (by omega)
/-- behind an atom nothing that negates waits on top -/
theorem WS_atm : ∀ (k : Nat) (N : NT), (nP N).toNat = k → okL 0 (sk N) → okL 1 (sk (mAtm k N)) ∧ c9 (sk (mAtm k N)) = c9 (sk N)
  | 0, N, hk, h => by
    show okL 1 (sk N) ∧ c9 (sk N) = c9 (sk N)
    refine ⟨?_, rfl⟩
    show okL 1 (skl (nQ N) (nP N).toNat)
    rw [hk]; trivial
  | k + 1, N, hk, h => by
    have hl := sk_last (N := N) (by omega)
    unfold mAtm
    split
    · rename_i h2
      have ih := WS_atm k (mCome N) (by show (nP N - 1).toNat = k; omega) (by rw [sk_come]; rw [hl, h2] at h; unfold okL at h; rcases h with h | h | h | h; exact h.2.2; exact absurd h.1 (by omega); exact absurd h.1 (by omega); exact absurd h.1 (by omega))
      refine ⟨ih.1, ih.2.trans ?_⟩
      rw [hl, h2, sk_come]
      show c9 _ = (if (2 : Int) = 9 then 1 else 0) + c9 _
      rw [if_neg (by omega)]; omega
    · rename_i h2
      refine ⟨?_, rfl⟩
      rw [hl] at h ⊢
      unfold okL at h ⊢
      rcases h with h | h | h | h
      · exact absurd h.1 h2
      · exact Or.inr (Or.inl h)
      · exact Or.inr (Or.inr (Or.inl h))
      · exact absurd h.2.1 (by omega)
theorem WS_atom {N : NT} (h : okL 0 (sk N)) : okL 1 (sk (mAtom N)) ∧ c9 (sk (mAtom N)) = c9 (sk N) := WS_atm _ N rfl h
theorem WS_bnd {t : Int} : ∀ (k : Nat) (N : NT), 0 ≤ nP N → (nP N).toNat = k → okL 1 (sk N) → okL 1 (sk (mBnd t k N)) ∧ c9 (sk (mBnd t k N)) = c9 (sk N) ∧ ¬ bnds t (mLast (mBnd t k N)) ∧ 0 ≤ nP (mBnd t k N)
  | 0, N, h0, hk, h => by
    refine ⟨h, rfl, ?_, h0⟩
    show ¬ bnds t (mLast N)
    unfold mLast bnds
    rw [if_pos (by omega)]; omega
  | k + 1, N, h0, hk, h => by
    have hl := sk_last (N := N) (by omega)
    unfold mBnd
    split
    · rename_i h2
      have ih := WS_bnd (t := t) k (mCome N) (by show 0 ≤ nP N - 1; omega) (by show (nP N - 1).toNat = k; omega) (by rw [sk_come]; rw [hl] at h; unfold okL at h; unfold bnds at h2; rcases h with h | h | h | h; exact absurd h.1 (by omega); exact h.2; exact absurd h.1 (by omega); exact absurd h.1 (by omega))
      refine ⟨ih.1, ih.2.1.trans ?_, ih.2.2⟩
      rw [hl, sk_come]
      show c9 _ = (if mLast N = 9 then 1 else 0) + c9 _
      unfold bnds at h2
      rw [if_neg (by omega)]; omega
    · rename_i h2
      exact ⟨h, rfl, h2, h0⟩
/-- where a bracket is open, it is on top when all that binds has come -/
theorem sk_open {N : NT} (h0 : 0 ≤ nP N) (h : okL 1 (sk N)) (hd : 0 < c9 (sk N)) : 0 < nP (mBinds 1 N) ∧ ∃ l, sk (mBinds 1 N) = 9 :: l ∧ sk (mDrop (mBinds 1 N)) = l ∧ okL 2 l ∧ c9 (sk N) = 1 + c9 l := by
  have q := WS_bnd (t := 1) _ N h0 rfl h
  have e : mBnd 1 (nP N).toNat N = mBinds 1 N := rfl
  rw [e] at q
  have hp : 0 < nP (mBinds 1 N) := by
    rcases Int.lt_or_eq_of_le q.2.2.2 with z | z
    · exact z
    · have := sk_nil z.symm
      rw [this] at q
      have h9 : c9 ([] : List Int) = 0 := rfl
      omega
  have hl := sk_last hp
  refine ⟨hp, sk (mDrop (mBinds 1 N)), ?_⟩
  have ho := q.1
  rw [hl] at ho
  unfold okL at ho
  have hb := q.2.2.1
  unfold bnds at hb
  rcases ho with ho | ho | ho | ho
  · exact absurd rfl ho.2.1
  · exact absurd ho.1 (by omega)
  · refine ⟨by rw [hl, ho.1], rfl, ho.2, ?_⟩
    rw [← q.2.1, hl, ho.1]
    show (if (9 : Int) = 9 then 1 else 0) + c9 _ = _
    rw [if_pos rfl]
  · exact absurd ho.2.1 (by omega)
def WN (i : Int) (N : NT) : Prop := RN i N ∧ WZ N ∧ (0 ≤ nWh N ∧ nWh N ≤ 5) ∧ nD N = c9 (sk N) ∧ (nWh N ≤ 1 → okL 0 (sk N)) ∧ (2 ≤ nWh N ∧ nWh N ≤ 4 → okL 1 (sk N)) ∧ (nWh N = 5 → ∃ l, sk N = 8 :: l ∧ okL 0 l) ∧ (nWh N = 1 → nG N ≤ 999 ∧ nN N + nP N + 1 ≤ i)
/-- behind an atom -/
def WB (i : Int) (N : NT) : Prop := RN i N ∧ WZ N ∧ nD N = c9 (sk N) ∧ okL 1 (sk N) ∧ (nWh N = 2 ∨ nWh N = 3)
theorem WB_ends {i : Int} {N : NT} (h : WN i N) (hw : 1 ≤ nWh N ∧ nWh N ≤ 3) : WB i (mEnds N) := by
  obtain ⟨h1, h2, h3, h4, h5, h6, h7, h8⟩ := h
  unfold mEnds
  by_cases e : nWh N = 1
  · rw [if_pos e]
    have q := WS_atom (N := mNode N 0 (nG N)) (h5 (by omega))
    have e8 := h8 e
    have hG := h2.2.2.2
    have hk := mAtm_keep (nP (mNode N 0 (nG N))).toNat (mNode N 0 (nG N))
    have hRn : RN i (mNode N 0 (nG N)) := by
      unfold RN at h1 ⊢
      show 0 ≤ nN N + 1 ∧ 0 ≤ nP N ∧ nN N + 1 + nP N ≤ i ∧ i ≤ 40
      omega
    exact ⟨RN_atom hRn, WZ_atm _ _ (WZ_node h2 (by omega) (by omega)), (hk.2.1.trans h4).trans q.2.symm, q.1, Or.inl rfl⟩
  · rw [if_neg e]
    exact ⟨h1, h2, h4, h6 (by omega), by omega⟩
theorem WN_close {i : Int} {N : NT} (h : WB i N) (hi : i ≤ 39) (hd : 0 < nD N) : WN (i + 1) (mClose N) := by
  obtain ⟨h1, h2, h4, h5, h6⟩ := h
  have h1' := h1
  unfold RN at h1'
  obtain ⟨hp, l, e1, e2, e3, e4⟩ := sk_open (by omega) h5 (by omega)
  have hk := mBnd_keep (t := 1) (nP N).toNat N
  have hR1 : RN i (mBinds 1 N) := RN_binds h1
  have hZ1 : WZ (mBinds 1 N) := WZ_bnd _ _ h2
  have hZ0 : WZ (mCl0 N) := hZ1
  have hR0 : RN i (mCl0 N) := by
    unfold RN at hR1 ⊢
    show 0 ≤ nN (mBinds 1 N) ∧ 0 ≤ nP (mBinds 1 N) - 1 ∧ nN (mBinds 1 N) + (nP (mBinds 1 N) - 1) ≤ i ∧ i ≤ 40
    omega
  have hs0 : sk (mCl0 N) = l := e2
  have hd0 : nD (mCl0 N) = c9 l := by
    show nD (mBinds 1 N) - 1 = _
    have : nD (mBinds 1 N) = nD N := hk.2.1
    omega
  have key : okL 0 (sk (mCl1 (mCl0 N))) ∧ c9 (sk (mCl1 (mCl0 N))) = c9 l ∧ nD (mCl1 (mCl0 N)) = c9 l ∧ RN i (mCl1 (mCl0 N)) ∧ WZ (mCl1 (mCl0 N)) := by
    unfold mCl1
    by_cases q : mLast (mCl0 N) = 8
    · rw [if_pos q]
      have hpp := mLast_pos (N := mCl0 N) (by omega)
      have hR0' := hR0
      unfold RN at hR0'
      have hl := sk_last (N := mCl0 N) (by omega)
      rw [hs0, q] at hl
      rw [hl] at e3 hd0 ⊢
      unfold okL at e3
      have e8 : okL 0 (sk (mDrop (mCl0 N))) := by
        rcases e3 with z | z | z | z
        · exact absurd z.1 (by omega)
        · exact absurd z.1 (by omega)
        · exact absurd z.1 (by omega)
        · exact z.2.2
      have e9 : c9 (8 :: sk (mDrop (mCl0 N))) = c9 (sk (mDrop (mCl0 N))) := by
        show (if (8 : Int) = 9 then 1 else 0) + c9 _ = _
        rw [if_neg (by omega)]; omega
      exact ⟨e8, e9.symm, hd0, RN_come hR0 hpp, WZ_come hZ0⟩
    · rw [if_neg q]
      refine ⟨?_, by rw [hs0], hd0, hR0, hZ0⟩
      rw [hs0]
      have hR0' := hR0
      unfold RN at hR0'
      rcases Int.lt_or_eq_of_le hR0'.2.1 with z | z
      · have hl := sk_last (N := mCl0 N) z
        rw [hs0] at hl
        rw [hl] at e3 ⊢
        unfold okL at e3 ⊢
        rcases e3 with y | y | y | y
        · exact Or.inl ⟨y.1, by omega, y.2.2⟩
        · exact Or.inr (Or.inl y)
        · exact Or.inr (Or.inr (Or.inl y))
        · exact absurd y.1 q
      · rw [← hs0, sk_nil z.symm]; trivial
  obtain ⟨k1, k2, k3, k4, k5⟩ := key
  have qa := WS_atom k1
  have ka := mAtm_keep (nP (mCl1 (mCl0 N))).toNat (mCl1 (mCl0 N))
  have hR9 := RN_atom k4
  have hA : nD (mAtom (mCl1 (mCl0 N))) = c9 (sk (mAtom (mCl1 (mCl0 N)))) := ((ka.2.1.trans k3).trans k2.symm).trans qa.2.symm
  refine ⟨?_, WZ_atm _ _ k5, ?_, hA, ?_, fun _ => qa.1, ?_, ?_⟩
  · unfold RN at hR9 ⊢
    show 0 ≤ nN (mAtom (mCl1 (mCl0 N))) ∧ 0 ≤ nP (mAtom (mCl1 (mCl0 N))) ∧ nN (mAtom (mCl1 (mCl0 N))) + nP (mAtom (mCl1 (mCl0 N))) ≤ i + 1 ∧ i + 1 ≤ 40
    omega
  · show 0 ≤ (2 : Int) ∧ (2 : Int) ≤ 5; omega
  · intro z; exact absurd (show (2 : Int) ≤ 1 from z) (by omega)
  · intro z; exact absurd (show (2 : Int) = 5 from z) (by omega)
  · intro z; exact absurd (show (2 : Int) = 1 from z) (by omega)
theorem WN_sign {i t k : Int} {N : NT} (h : WB i N) (hi : i ≤ 39) (hk : 3 ≤ k ∧ k ≤ 6) : WN (i + 1) (mWh (mWait (mBinds t N) k 0) 0) := by
  obtain ⟨h1, h2, h4, h5, h6⟩ := h
  have h1' := h1
  unfold RN at h1'
  have hR1 : RN i (mBinds t N) := RN_binds h1
  have hR1' := hR1
  unfold RN at hR1'
  have q := WS_bnd (t := t) _ N (by omega) rfl h5
  have hb := mBnd_keep (t := t) (nP N).toNat N
  have hs : sk (mWait (mBinds t N) k 0) = k :: sk (mBinds t N) := sk_wait hR1'.2.1
  have hs2 : sk (mWh (mWait (mBinds t N) k 0) 0) = k :: sk (mBinds t N) := hs
  refine ⟨RN_wait (k := 0) (u := 0) hR1 hi, WZ_wait (WZ_bnd _ _ h2) (by omega) (by omega), by show 0 ≤ (0 : Int) ∧ (0 : Int) ≤ 5; omega, ?_, fun _ => ?_, ?_, ?_, ?_⟩
  · rw [hs2]
    show nD (mBinds t N) = (if k = 9 then 1 else 0) + c9 (sk (mBinds t N))
    rw [if_neg (by omega), show nD (mBinds t N) = nD N from hb.2.1, h4, show c9 (sk (mBinds t N)) = c9 (sk N) from q.2.1]
    omega
  · rw [hs2]
    unfold okL
    exact Or.inr (Or.inl ⟨hk, q.1⟩)
  · intro z; exact absurd (show (2 : Int) ≤ 0 ∧ (0 : Int) ≤ 4 from z) (by omega)
  · intro z; exact absurd (show (0 : Int) = 5 from z) (by omega)
  · intro z; exact absurd (show (0 : Int) = 1 from z) (by omega)
theorem mSg_r (c : Int) : 3 ≤ mSg c ∧ mSg c ≤ 6 := by
  unfold mSg
  repeat' split
  all_goals omega
theorem WN_follows {i c : Int} {N : NT} (h : WB i N) (hi : i ≤ 39) : WZ (mFollows N c).1 ∧ (¬ (mFollows N c).2 = 0 → WN (i + 1) (mFollows N c).1) := by
  have h' := h
  obtain ⟨h1, h2, h4, h5, h6⟩ := h'
  unfold mFollows
  split
  · refine ⟨h2, fun _ => ⟨?_, h2, by show 0 ≤ (4 : Int) ∧ (4 : Int) ≤ 5; omega, h4, ?_, fun _ => h5, ?_, ?_⟩⟩
    · unfold RN at h1 ⊢
      show 0 ≤ nN N ∧ 0 ≤ nP N ∧ nN N + nP N ≤ i + 1 ∧ i + 1 ≤ 40
      omega
    · intro z; exact absurd (show (4 : Int) ≤ 1 from z) (by omega)
    · intro z; exact absurd (show (4 : Int) = 5 from z) (by omega)
    · intro z; exact absurd (show (4 : Int) = 1 from z) (by omega)
  · split
    · rename_i hc
      have q := WN_close h hi hc.2
      exact ⟨q.2.1, fun _ => q⟩
    · split
      · have q := WN_sign (t := 1) (k := mSg c) h hi (mSg_r c)
        exact ⟨q.2.1, fun _ => q⟩
      · split
        · have q := WN_sign (t := 0) (k := mSg c) h hi (mSg_r c)
          exact ⟨q.2.1, fun _ => q⟩
        · exact ⟨h2, fun z => absurd rfl z⟩
theorem WN_begins {i c : Int} {N : NT} (h : WN i N) (hw : nWh N = 0) (hi : i ≤ 39) : WZ (mBegins N c).1 ∧ (¬ (mBegins N c).2 = 0 → WN (i + 1) (mBegins N c).1) := by
  obtain ⟨h1, h2, h3, h4, h5, h6, h7, h8⟩ := h
  have h1' := h1
  unfold RN at h1'
  have h50 := h5 (by omega)
  have hf := fnO_r c
  unfold mBegins
  split
  · rename_i hc
    have hz : WZ (mWh (mDg N (c - 48)) 1) := ⟨h2.1, h2.2.1, h2.2.2.1, by show 0 ≤ c - 48 ∧ c - 48 ≤ 99999; omega⟩
    refine ⟨hz, fun _ => ⟨?_, hz, by show 0 ≤ (1 : Int) ∧ (1 : Int) ≤ 5; omega, h4, fun _ => h50, ?_, ?_, fun _ => ?_⟩⟩
    · unfold RN
      show 0 ≤ nN N ∧ 0 ≤ nP N ∧ nN N + nP N ≤ i + 1 ∧ i + 1 ≤ 40
      omega
    · intro z; exact absurd (show (2 : Int) ≤ 1 ∧ (1 : Int) ≤ 4 from z) (by omega)
    · intro z; exact absurd (show (1 : Int) = 5 from z) (by omega)
    · show c - 48 ≤ 999 ∧ nN N + nP N + 1 ≤ i + 1
      omega
  · split
    · have q := WS_atom (N := mNode N 1 0) h50
      have hk := mAtm_keep (nP (mNode N 1 0)).toNat (mNode N 1 0)
      have hz : WZ (mAtom (mNode N 1 0)) := WZ_atm _ _ (WZ_node h2 (by omega) (by omega))
      refine ⟨hz, fun _ => ⟨RN_atom (RN_node (k := 1) (u := 0) h1 hi), hz, by show 0 ≤ (2 : Int) ∧ (2 : Int) ≤ 5; omega, (hk.2.1.trans h4).trans q.2.symm, ?_, fun _ => q.1, ?_, ?_⟩⟩
      · intro z; exact absurd (show (2 : Int) ≤ 1 from z) (by omega)
      · intro z; exact absurd (show (2 : Int) = 5 from z) (by omega)
      · intro z; exact absurd (show (2 : Int) = 1 from z) (by omega)
    · split
      · have hz : WZ (mWait N 2 0) := WZ_wait h2 (by omega) (by omega)
        have hs := sk_wait (N := N) (k := 2) (u := 0) h1'.2.1
        refine ⟨hz, fun _ => ⟨RN_wait (k := 0) (u := 0) h1 hi, hz, by show 0 ≤ nWh N ∧ nWh N ≤ 5; omega, ?_, fun _ => ?_, ?_, ?_, ?_⟩⟩
        · rw [hs]
          show nD N = (if (2 : Int) = 9 then 1 else 0) + c9 (sk N)
          rw [if_neg (by omega)]; omega
        · rw [hs]; unfold okL; exact Or.inl ⟨rfl, by omega, h50⟩
        · intro z; exact absurd (show 2 ≤ nWh N ∧ nWh N ≤ 4 from z) (by omega)
        · intro z; exact absurd (show nWh N = 5 from z) (by omega)
        · intro z; exact absurd (show nWh N = 1 from z) (by omega)
      · split
        · have hz : WZ (mWait N 9 0) := WZ_wait h2 (by omega) (by omega)
          have hs := sk_wait (N := N) (k := 9) (u := 0) h1'.2.1
          have hs2 : sk (mDp (mWait N 9 0) (nD N + 1)) = 9 :: sk N := hs
          refine ⟨hz, fun _ => ⟨RN_wait (k := 0) (u := 0) h1 hi, hz, by show 0 ≤ nWh N ∧ nWh N ≤ 5; omega, ?_, fun _ => ?_, ?_, ?_, ?_⟩⟩
          · rw [hs2]
            show nD N + 1 = (if (9 : Int) = 9 then 1 else 0) + c9 (sk N)
            rw [if_pos rfl]; omega
          · rw [hs2]; unfold okL; refine Or.inr (Or.inr (Or.inl ⟨rfl, ?_⟩))
            exact okL_2 h50
          · intro z; exact absurd (show 2 ≤ nWh N ∧ nWh N ≤ 4 from z) (by omega)
          · intro z; exact absurd (show nWh N = 5 from z) (by omega)
          · intro z; exact absurd (show nWh N = 1 from z) (by omega)
        · split
          · exact ⟨h2, fun z => absurd rfl z⟩
          · have hz : WZ (mWait N 8 (fnO c)) := WZ_wait h2 (by omega) (by omega)
            have hs := sk_wait (N := N) (k := 8) (u := fnO c) h1'.2.1
            have hs2 : sk (mWh (mWait N 8 (fnO c)) 5) = 8 :: sk N := hs
            refine ⟨hz, fun _ => ⟨RN_wait (k := 0) (u := 0) h1 hi, hz, by show 0 ≤ (5 : Int) ∧ (5 : Int) ≤ 5; omega, ?_, ?_, ?_, fun _ => ⟨_, hs2, h50⟩, ?_⟩⟩
            · rw [hs2]
              show nD N = (if (8 : Int) = 9 then 1 else 0) + c9 (sk N)
              rw [if_neg (by omega)]; omega
            · intro z; exact absurd (show (5 : Int) ≤ 1 from z) (by omega)
            · intro z; exact absurd (show (2 : Int) ≤ 5 ∧ (5 : Int) ≤ 4 from z) (by omega)
            · intro z; exact absurd (show (5 : Int) = 1 from z) (by omega)
theorem WN_reads {i c : Int} {N : NT} (h : WN i N) (hi : i ≤ 39) (hc : 0 ≤ c ∧ c ≤ 65535) : WZ (mReads N c).1 ∧ (¬ (mReads N c).2 = 0 → WN (i + 1) (mReads N c).1) := by
  have h' := h
  obtain ⟨h1, h2, h3, h4, h5, h6, h7, h8⟩ := h'
  have h1' := h1
  unfold RN at h1'
  unfold mReads
  split
  · exact WN_begins h ‹_› hi
  · split
    · split
      · have hz : WZ (mNode N 7 (c - 48)) := WZ_node h2 (by omega) (by omega)
        refine ⟨hz, fun _ => ⟨RN_node (k := 0) (u := 0) h1 hi, hz, by show 0 ≤ (3 : Int) ∧ (3 : Int) ≤ 5; omega, h4, ?_, fun _ => h6 (by omega), ?_, ?_⟩⟩
        · intro z; exact absurd (show (3 : Int) ≤ 1 from z) (by omega)
        · intro z; exact absurd (show (3 : Int) = 5 from z) (by omega)
        · intro z; exact absurd (show (3 : Int) = 1 from z) (by omega)
      · exact ⟨h2, fun z => absurd rfl z⟩
    · split
      · obtain ⟨l, e1, e2⟩ := h7 ‹_›
        have hz : WZ (mWait N 9 0) := WZ_wait h2 (by omega) (by omega)
        have hs := sk_wait (N := N) (k := 9) (u := 0) h1'.2.1
        have hs2 : sk (mWh (mDp (mWait N 9 0) (nD N + 1)) 0) = 9 :: sk N := hs
        refine ⟨hz, fun _ => ⟨RN_wait (k := 0) (u := 0) h1 hi, hz, by show 0 ≤ (0 : Int) ∧ (0 : Int) ≤ 5; omega, ?_, fun _ => ?_, ?_, ?_, ?_⟩⟩
        · rw [hs2]
          show nD N + 1 = (if (9 : Int) = 9 then 1 else 0) + c9 (sk N)
          rw [if_pos rfl]; omega
        · rw [hs2, e1]; unfold okL; refine Or.inr (Or.inr (Or.inl ⟨rfl, ?_⟩))
          unfold okL
          exact Or.inr (Or.inr (Or.inr ⟨rfl, rfl, e2⟩))
        · intro z; exact absurd (show (2 : Int) ≤ 0 ∧ (0 : Int) ≤ 4 from z) (by omega)
        · intro z; exact absurd (show (0 : Int) = 5 from z) (by omega)
        · intro z; exact absurd (show (0 : Int) = 1 from z) (by omega)
      · split
        · rename_i hw
          have h88 := h8 hw.1
          have hg := h2.2.2.2
          have hz : WZ (mDg N (10 * nG N + c - 48)) := ⟨h2.1, h2.2.1, h2.2.2.1, by show 0 ≤ 10 * nG N + c - 48 ∧ 10 * nG N + c - 48 ≤ 99999; omega⟩
          refine ⟨hz, fun hq => ⟨?_, hz, h3, h4, h5, h6, h7, fun _ => ?_⟩⟩
          · unfold RN
            show 0 ≤ nN N ∧ 0 ≤ nP N ∧ nN N + nP N ≤ i + 1 ∧ i + 1 ≤ 40
            omega
          · show 10 * nG N + c - 48 ≤ 999 ∧ nN N + nP N + 1 ≤ i + 1
            have : 0 < nG N ∧ nG N < 100 := by
              by_cases z : 0 < nG N ∧ nG N < 100
              · exact z
              · exact absurd (show (if 0 < nG N ∧ nG N < 100 then (1 : Int) else 0) = 0 from if_neg z) hq
            omega
        · exact WN_follows (WB_ends h (by omega)) hi
theorem WN_0 {N : NT} (h : WZ N) : WN 0 (mR0 N) := by
  refine ⟨?_, h, by show 0 ≤ (0 : Int) ∧ (0 : Int) ≤ 5; omega, rfl, fun _ => trivial, fun _ => trivial, ?_, ?_⟩
  · unfold RN
    show 0 ≤ (0 : Int) ∧ 0 ≤ (0 : Int) ∧ (0 : Int) + 0 ≤ 0 ∧ (0 : Int) ≤ 40
    omega
  · intro z; exact absurd (show (0 : Int) = 5 from z) (by omega)
  · intro z; exact absurd (show (0 : Int) = 1 from z) (by omega)
