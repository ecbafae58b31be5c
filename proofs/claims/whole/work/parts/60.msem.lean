/-! the reference's reading of a text, as a value: kinds, numbers, many, waiting, waits, where, depth, digits -/
abbrev NT : Type := (Nat → Int) × (Nat → Int) × Int × (Nat → Int) × Int × Int × Int × Int
def nK (N : NT) : Nat → Int := N.1
def nU (N : NT) : Nat → Int := N.2.1
def nN (N : NT) : Int := N.2.2.1
def nQ (N : NT) : Nat → Int := N.2.2.2.1
def nP (N : NT) : Int := N.2.2.2.2.1
def nWh (N : NT) : Int := N.2.2.2.2.2.1
def nD (N : NT) : Int := N.2.2.2.2.2.2.1
def nG (N : NT) : Int := N.2.2.2.2.2.2.2
def mkN (K U : Nat → Int) (n : Int) (Q : Nat → Int) (p w d g : Int) : NT := (K, U, n, Q, p, w, d, g)
def mNode (N : NT) (k u : Int) : NT := mkN (up (nK N) (nN N).toNat k) (up (nU N) (nN N).toNat u) (nN N + 1) (nQ N) (nP N) (nWh N) (nD N) (nG N)
def mWait (N : NT) (k u : Int) : NT := mkN (nK N) (nU N) (nN N) (up (up (nQ N) (2 * nP N).toNat k) (2 * nP N + 1).toNat u) (nP N + 1) (nWh N) (nD N) (nG N)
def mLast (N : NT) : Int := if nP N = 0 then -1 else nQ N (2 * nP N - 2).toNat
def mDrop (N : NT) : NT := mkN (nK N) (nU N) (nN N) (nQ N) (nP N - 1) (nWh N) (nD N) (nG N)
def mCome (N : NT) : NT := mNode (mDrop N) (nQ N (2 * (nP N - 1)).toNat) (nQ N (2 * (nP N - 1) + 1).toNat)
def mAtm : Nat → NT → NT
  | 0, N => N
  | k + 1, N => if mLast N = 2 then mAtm k (mCome N) else N
def mAtom (N : NT) : NT := mAtm (nP N).toNat N
abbrev bnds (t k : Int) : Prop := k = 5 ∨ k = 6 ∨ (¬ t = 0 ∧ (k = 3 ∨ k = 4))
def mBnd (t : Int) : Nat → NT → NT
  | 0, N => N
  | k + 1, N => if bnds t (mLast N) then mBnd t k (mCome N) else N
def mBinds (t : Int) (N : NT) : NT := mBnd t (nP N).toNat N
def mWh (N : NT) (w : Int) : NT := mkN (nK N) (nU N) (nN N) (nQ N) (nP N) w (nD N) (nG N)
def mDp (N : NT) (d : Int) : NT := mkN (nK N) (nU N) (nN N) (nQ N) (nP N) (nWh N) d (nG N)
def mDg (N : NT) (g : Int) : NT := mkN (nK N) (nU N) (nN N) (nQ N) (nP N) (nWh N) (nD N) g
def mBegins (N : NT) (c : Int) : NT × Int :=
  if 48 ≤ c ∧ c ≤ 57 then (mWh (mDg N (c - 48)) 1, 1)
  else if c = 120 then (mWh (mAtom (mNode N 1 0)) 2, 1)
  else if c = 45 then (mWait N 2 0, 1)
  else if c = 40 then (mDp (mWait N 9 0) (nD N + 1), 1)
  else if fnO c = -1 then (N, 0)
  else (mWh (mWait N 8 (fnO c)) 5, 1)
def mEnds (N : NT) : NT := if nWh N = 1 then mWh (mAtom (mNode N 0 (nG N))) 2 else N
def mCl0 (N : NT) : NT := mDp (mDrop (mBinds 1 N)) (nD (mBinds 1 N) - 1)
def mCl1 (N : NT) : NT := if mLast N = 8 then mCome N else N
def mClose (N : NT) : NT := mWh (mAtom (mCl1 (mCl0 N))) 2
def mSg (c : Int) : Int := if c = 43 then 3 else if c = 45 then 4 else if c = 42 then 5 else 6
def mFollows (N : NT) (c : Int) : NT × Int :=
  if c = 94 ∧ nWh N = 2 then (mWh N 4, 1)
  else if c = 41 ∧ 0 < nD N then (mClose N, 1)
  else if c = 43 ∨ c = 45 then (mWh (mWait (mBinds 1 N) (mSg c) 0) 0, 1)
  else if c = 42 ∨ c = 47 then (mWh (mWait (mBinds 0 N) (mSg c) 0) 0, 1)
  else (N, 0)
def mReads (N : NT) (c : Int) : NT × Int :=
  if nWh N = 0 then mBegins N c
  else if nWh N = 4 then (if 48 ≤ c ∧ c ≤ 57 then (mWh (mNode N 7 (c - 48)) 3, 1) else (mWh N 3, 0))
  else if nWh N = 5 then (mWh (mDp (mWait N 9 0) (nD N + 1)) 0, if c = 40 then 1 else 0)
  else if nWh N = 1 ∧ 48 ≤ c ∧ c ≤ 57 then (mDg N (10 * nG N + c - 48), if 0 < nG N ∧ nG N < 100 then 1 else 0)
  else mFollows (mEnds N) c
def mRd (f : Nat → Int) : Nat → Int → NT → NT × Int
  | 0, _, N => (N, -2)
  | k + 1, i, N => if (mReads N (f i.toNat)).2 = 0 then ((mReads N (f i.toNat)).1, i) else mRd f k (i + 1) (mReads N (f i.toNat)).1
def mR0 (N : NT) : NT := mkN (nK N) (nU N) 0 (nQ N) 0 0 0 (nG N)
def mRz (n : Int) (q : NT × Int) : NT × Int := if q.2 = -2 then (if nWh q.1 = 0 ∨ 3 < nWh q.1 ∨ 0 < nD q.1 then (q.1, n) else (mBinds 1 (mEnds q.1), -1)) else q
def mRead (N : NT) (f : Nat → Int) (n : Int) : NT × Int := mRz n (mRd f n.toNat 0 (mR0 N))
theorem mRd_stop {f : Nat → Int} {k : Nat} {i : Int} {N : NT} (h : (mReads N (f i.toNat)).2 = 0) : mRd f (k + 1) i N = ((mReads N (f i.toNat)).1, i) := by
  show (if (mReads N (f i.toNat)).2 = 0 then _ else _) = _
  rw [if_pos h]
theorem mRd_step {f : Nat → Int} {k : Nat} {i : Int} {N : NT} (h : ¬ (mReads N (f i.toNat)).2 = 0) : mRd f (k + 1) i N = mRd f k (i + 1) (mReads N (f i.toNat)).1 := by
  show (if (mReads N (f i.toNat)).2 = 0 then _ else _) = _
  rw [if_neg h]
theorem mAtm_step {N : NT} (h : mLast N = 2) (k : Nat) : mAtm (k + 1) N = mAtm k (mCome N) := by
  show (if mLast N = 2 then _ else _) = _
  rw [if_pos h]
theorem mAtm_stop {N : NT} (h : ¬ mLast N = 2) : ∀ k, mAtm k N = N
  | 0 => rfl
  | k + 1 => by show (if mLast N = 2 then _ else _) = _; rw [if_neg h]
theorem mBnd_step {N : NT} {t : Int} (h : bnds t (mLast N)) (k : Nat) : mBnd t (k + 1) N = mBnd t k (mCome N) := by
  show (if bnds t (mLast N) then _ else _) = _
  rw [if_pos h]
theorem mBnd_stop {N : NT} {t : Int} (h : ¬ bnds t (mLast N)) : ∀ k, mBnd t k N = N
  | 0 => rfl
  | k + 1 => by show (if bnds t (mLast N) then _ else _) = _; rw [if_neg h]
theorem mLast_pos {N : NT} (h : 0 ≤ mLast N) : ¬ nP N = 0 := by
  intro e
  unfold mLast at h
  rw [if_pos e] at h
  omega
/-- room: what is full -/
def RN (i : Int) (N : NT) : Prop := 0 ≤ nN N ∧ 0 ≤ nP N ∧ nN N + nP N ≤ i ∧ i ≤ 40
theorem RN_come {i : Int} {N : NT} (h : RN i N) (h2 : ¬ nP N = 0) : RN i (mCome N) := by
  unfold RN at h ⊢
  show 0 ≤ nN N + 1 ∧ 0 ≤ nP N - 1 ∧ nN N + 1 + (nP N - 1) ≤ i ∧ i ≤ 40
  omega
theorem RN_atm {i : Int} : ∀ (k : Nat) (N : NT), RN i N → RN i (mAtm k N)
  | 0, _, h => h
  | k + 1, N, h => by
    unfold mAtm
    split
    · exact RN_atm k _ (RN_come h (mLast_pos (by omega)))
    · exact h
theorem RN_bnd {i t : Int} : ∀ (k : Nat) (N : NT), RN i N → RN i (mBnd t k N)
  | 0, _, h => h
  | k + 1, N, h => by
    unfold mBnd
    split
    · exact RN_bnd k _ (RN_come h (mLast_pos (by omega)))
    · exact h
theorem RN_atom {i : Int} {N : NT} (h : RN i N) : RN i (mAtom N) := RN_atm _ _ h
theorem RN_binds {i t : Int} {N : NT} (h : RN i N) : RN i (mBinds t N) := RN_bnd _ _ h
theorem RN_node {i k u : Int} {N : NT} (h : RN i N) (hi : i ≤ 39) : RN (i + 1) (mNode N k u) := by
  unfold RN at h ⊢
  show 0 ≤ nN N + 1 ∧ 0 ≤ nP N ∧ nN N + 1 + nP N ≤ i + 1 ∧ i + 1 ≤ 40
  omega
theorem RN_wait {i k u : Int} {N : NT} (h : RN i N) (hi : i ≤ 39) : RN (i + 1) (mWait N k u) := by
  unfold RN at h ⊢
  show 0 ≤ nN N ∧ 0 ≤ nP N + 1 ∧ nN N + (nP N + 1) ≤ i + 1 ∧ i + 1 ≤ 40
  omega
/-- what binds and atoms leave as it was -/
theorem mAtm_keep : ∀ (k : Nat) (N : NT), nWh (mAtm k N) = nWh N ∧ nD (mAtm k N) = nD N ∧ nG (mAtm k N) = nG N
  | 0, _ => ⟨rfl, rfl, rfl⟩
  | k + 1, N => by
    unfold mAtm
    split
    · exact mAtm_keep k (mCome N)
    · exact ⟨rfl, rfl, rfl⟩
theorem mBnd_keep {t : Int} : ∀ (k : Nat) (N : NT), nWh (mBnd t k N) = nWh N ∧ nD (mBnd t k N) = nD N ∧ nG (mBnd t k N) = nG N
  | 0, _ => ⟨rfl, rfl, rfl⟩
  | k + 1, N => by
    unfold mBnd
    split
    · exact mBnd_keep k (mCome N)
    · exact ⟨rfl, rfl, rfl⟩
