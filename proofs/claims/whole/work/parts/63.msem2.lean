/-! more of the reference as functions: what is recorded, laid down, taken; primes and their inverses -/
theorem WZ_q {N : NT} (h : WZ N) : ∀ j, -2147483648 ≤ nQ N j ∧ nQ N j < 2147483648 := fun j => by
  have := h.1 j
  omega
theorem RN_node1 {i k u : Int} {N : NT} (h : RN i N) (hi : nN N + nP N + 1 ≤ i) : RN i (mNode N k u) := by
  unfold RN at h ⊢
  show 0 ≤ nN N + 1 ∧ 0 ≤ nP N ∧ nN N + 1 + nP N ≤ i ∧ i ≤ 40
  omega
theorem mBegins_01 (N : NT) (c : Int) : (mBegins N c).2 = 0 ∨ (mBegins N c).2 = 1 := by
  unfold mBegins
  repeat' split
  all_goals first | exact Or.inl rfl | exact Or.inr rfl
theorem mFollows_01 (N : NT) (c : Int) : (mFollows N c).2 = 0 ∨ (mFollows N c).2 = 1 := by
  unfold mFollows
  repeat' split
  all_goals first | exact Or.inl rfl | exact Or.inr rfl
theorem mReads_01 (N : NT) (c : Int) : (mReads N c).2 = 0 ∨ (mReads N c).2 = 1 := by
  unfold mReads
  split
  · exact mBegins_01 N c
  · split
    · split
      · exact Or.inr rfl
      · exact Or.inl rfl
    · split
      · show (if c = 40 then (1 : Int) else 0) = 0 ∨ (if c = 40 then (1 : Int) else 0) = 1
        split
        · exact Or.inr rfl
        · exact Or.inl rfl
      · split
        · show (if 0 < nG N ∧ nG N < 100 then (1 : Int) else 0) = 0 ∨ (if 0 < nG N ∧ nG N < 100 then (1 : Int) else 0) = 1
          split
          · exact Or.inr rfl
          · exact Or.inl rfl
        · exact mFollows_01 _ c
/-- the least function that may have the nodes -/
def lea (K U : Nat → Int) : Nat → Int → Int → Int
  | 0, _, l => l
  | k + 1, i, l => lea K U k (i + 1) (if K i.toNat = 8 ∧ l ≤ U i.toNat then U i.toNat + 1 else l)
def mLe (N : NT) : Int := lea (nK N) (nU N) (nN N).toNat 0 0
/-- a row's first k places out of another, from o on -/
def cpi (P : Nat → Int) (o : Nat) (Z : Nat → Int) (k : Nat) : Nat → Int := fun j => if j < k then P (o + j) else Z j
theorem cpi_0 (P : Nat → Int) (o : Nat) (Z : Nat → Int) : cpi P o Z 0 = Z := by funext j; simp [cpi]
theorem cpi_up (P : Nat → Int) (o : Nat) (Z : Nat → Int) (k : Nat) : up (cpi P o Z k) k (P (o + k)) = cpi P o Z (k + 1) := by
  funext j
  unfold up cpi
  by_cases h1 : j = k
  · rw [if_pos h1, if_pos (by omega), h1]
  · rw [if_neg h1]
    by_cases h2 : j < k
    · rw [if_pos h2, if_pos (by omega)]
    · rw [if_neg h2, if_neg (by omega)]
/-- a row with k places from o on out of another -/
def cpo (Z : Nat → Int) (P : Nat → Int) (o k : Nat) : Nat → Int := fun j => if o ≤ j ∧ j < o + k then Z (j - o) else P j
theorem cpo_0 (Z P : Nat → Int) (o : Nat) : cpo Z P o 0 = P := by
  funext j
  unfold cpo
  rw [if_neg (by omega)]
theorem cpo_up (Z P : Nat → Int) (o k : Nat) : up (cpo Z P o k) (o + k) (Z k) = cpo Z P o (k + 1) := by
  funext j
  unfold up cpo
  by_cases h1 : j = o + k
  · rw [if_pos h1, if_pos (by omega), show j - o = k by omega]
  · rw [if_neg h1]
    by_cases h2 : o ≤ j ∧ j < o + k
    · rw [if_pos h2, if_pos (by omega)]
    · rw [if_neg h2, if_neg (by omega)]
/-- a row moved down by 325 -/
def shf (P : Nat → Int) (k : Nat) : Nat → Int := fun j => if j < k then P (j + 325) else P j
theorem shf_0 (P : Nat → Int) : shf P 0 = P := by funext j; simp [shf]
theorem shf_at (P : Nat → Int) (k : Nat) : shf P k (k + 325) = P (k + 325) := by unfold shf; rw [if_neg (by omega)]
theorem shf_up (P : Nat → Int) (k : Nat) : up (shf P k) k (P (k + 325)) = shf P (k + 1) := by
  funext j
  unfold up shf
  by_cases h1 : j = k
  · rw [if_pos h1, if_pos (by omega), h1]
  · rw [if_neg h1]
    by_cases h2 : j < k
    · rw [if_pos h2, if_pos (by omega)]
    · rw [if_neg h2, if_neg (by omega)]
def recN (pm : Int) : Int := if pm = 4 then 4 else pm + 1
def recM (pm : Int) (P Z : Nat → Int) : Nat → Int := if pm = 4 then cpo Z (shf P 975) 975 325 else cpo Z P (325 * pm).toNat 325
/-- the nodes that were read laid down as a function's -/
def gzs (N : NT) (Z : Nat → Int) (u : Int) : Nat → Nat → Int
  | 0 => up Z (1 + 81 * u).toNat (nN N)
  | k + 1 => up (up (gzs N Z u k) (2 + 81 * u + 2 * (k : Int)).toNat (if (k : Int) < nN N then nK N k else 0)) (3 + 81 * u + 2 * (k : Int)).toNat (if (k : Int) < nN N then nU N k else 0)
theorem gzs_s (N : NT) (Z : Nat → Int) {u k : Int} (h : 0 ≤ k) : gzs N Z u (k + 1).toNat = up (up (gzs N Z u k.toNat) (2 + 81 * u + 2 * k).toNat (if k < nN N then nK N k.toNat else 0)) (3 + 81 * u + 2 * k).toNat (if k < nN N then nU N k.toNat else 0) := by
  rw [show (k + 1).toNat = k.toNat + 1 by omega]
  show up (up (gzs N Z u k.toNat) (2 + 81 * u + 2 * ((k.toNat : Nat) : Int)).toNat (if ((k.toNat : Nat) : Int) < nN N then _ else 0)) (3 + 81 * u + 2 * ((k.toNat : Nat) : Int)).toNat (if ((k.toNat : Nat) : Int) < nN N then _ else 0) = _
  rw [show ((k.toNat : Nat) : Int) = k by omega]
/-- a function's nodes taken -/
def tkf (Z : Nat → Int) (o : Int) (K : Nat → Int) (k : Nat) : Nat → Int := fun j => if j < k then Z (o + 2 * (j : Int)).toNat else K j
theorem tkf_0 (Z : Nat → Int) (o : Int) (K : Nat → Int) : tkf Z o K 0 = K := by funext j; simp [tkf]
theorem tkf_up (Z : Nat → Int) (o : Int) (K : Nat → Int) {k : Int} (h : 0 ≤ k) : up (tkf Z o K k.toNat) k.toNat (Z (o + 2 * k).toNat) = tkf Z o K (k + 1).toNat := by
  funext j
  unfold up tkf
  by_cases h1 : j = k.toNat
  · rw [if_pos h1, if_pos (by omega), h1, show ((k.toNat : Nat) : Int) = k by omega]
  · rw [if_neg h1]
    by_cases h2 : j < k.toNat
    · rw [if_pos h2, if_pos (by omega)]
    · rw [if_neg h2, if_neg (by omega)]
def mTake (N : NT) (Z : Nat → Int) (u : Int) : NT := mkN (tkf Z (2 + 81 * u) (nK N) (Z (1 + 81 * u).toNat).toNat) (tkf Z (3 + 81 * u) (nU N) (Z (1 + 81 * u).toNat).toNat) (Z (1 + 81 * u).toNat) (nQ N) (nP N) (nWh N) (nD N) (nG N)
/-- whether v is a prime, as the reference tries it -/
def isp (v : Int) : Nat → Int → Int → Int
  | 0, _, b => b
  | k + 1, d, b => isp v k (d + 1) (if ¬ b = 0 ∧ 0 < v % d then 1 else 0)
theorem isp_01 {v : Int} : ∀ (k : Nat) (d b : Int), b = 0 ∨ b = 1 → isp v k d b = 0 ∨ isp v k d b = 1
  | 0, _, b, h => h
  | k + 1, d, b, h => isp_01 k (d + 1) _ (by split <;> simp)
/-! Fermat's little theorem for the primes below 200 -/
def pbN (n : Nat) : Bool := (List.range n).all (fun d => d < 2 || n % d != 0)
def ferN : Bool := (List.range 200).all (fun n => !(pbN n) || n < 2 || (List.range n).all (fun v => v == 0 || (v ^ (n - 2) % n * v) % n == 1 % n))
theorem ferN_ok : ferN = true := by decide +kernel
theorem fer_nat {n v : Nat} (hn : n < 200) (h2 : 2 ≤ n) (hp : ∀ d, 2 ≤ d → d < n → ¬ n % d = 0) (hv : 0 < v) (hvn : v < n) : (v ^ (n - 2) % n * v) % n = 1 % n := by
  have h := List.all_eq_true.mp ferN_ok n (List.mem_range.mpr hn)
  have hb : pbN n = true := List.all_eq_true.mpr (fun d hd => by
    by_cases e : d < 2
    · simp [e]
    · have := hp d (by omega) (List.mem_range.mp hd)
      simp [this])
  rw [hb] at h
  simp only [Bool.not_true, Bool.false_or, Bool.or_eq_true, decide_eq_true_eq] at h
  rcases h with h | h
  · omega
  · have q := List.all_eq_true.mp h v (List.mem_range.mpr hvn)
    simp only [Bool.or_eq_true, beq_iff_eq] at q
    omega
theorem inv_ok {p v : Int} (h : PRM p) (hv : 0 < v ∧ v < p) : inv' p v * v % p = 1 % p := by
  obtain ⟨h1, h2, h3⟩ := h
  obtain ⟨n, rfl⟩ := Int.eq_ofNat_of_zero_le (show 0 ≤ p by omega)
  obtain ⟨w, rfl⟩ := Int.eq_ofNat_of_zero_le (show 0 ≤ v by omega)
  have q := fer_nat (n := n) (v := w) (by omega) (by omega) (fun d a b e => h3 d (by omega) (by omega) (by rw [← Int.natCast_emod, e]; rfl)) (by omega) (by omega)
  unfold inv'
  rw [show ((n : Int) - 2).toNat = n - 2 by omega, ← Int.natCast_pow, ← Int.natCast_emod, ← Int.natCast_mul, ← Int.natCast_emod, q, Int.natCast_emod]
  rfl
theorem inv_pos {p v : Int} (h : PRM p) (hv : 0 < v ∧ v < p) : 0 < inv' p v ∧ inv' p v < p := by
  have hp := h.1
  have r := inv'_rng (v := v) (show 0 < p by omega)
  have q := inv_ok h hv
  refine ⟨?_, r.2⟩
  rcases Int.lt_or_eq_of_le r.1 with z | z
  · exact z
  · rw [← z, Int.zero_mul, Int.zero_emod, Int.emod_eq_of_lt (by omega) (by omega)] at q
    omega
theorem inv_uniq {p v r : Int} (h : PRM p) (hv : 0 < v ∧ v < p) (hr : 0 < r ∧ r < p) (e : r * v % p = 1 % p) : r = inv' p v := by
  have q := inv_ok h hv
  have hi := inv_pos h hv
  have e1 : inv' p v * (r * v) % p = inv' p v % p := by rw [Int.mul_emod, e, ← Int.mul_emod, Int.mul_one]
  have e2 : r * (inv' p v * v) % p = r % p := by rw [Int.mul_emod, q, ← Int.mul_emod, Int.mul_one]
  have e3 : inv' p v * (r * v) = r * (inv' p v * v) := by rw [← Int.mul_assoc, ← Int.mul_assoc, Int.mul_comm (inv' p v) r]
  rw [e3, e2, Int.emod_eq_of_lt (by omega) (by omega), Int.emod_eq_of_lt (by omega) (by omega)] at e1
  exact e1
theorem c9_skl (Q : Nat → Int) : ∀ k, c9 (skl Q k) ≤ (k : Int)
  | 0 => Int.le_refl 0
  | k + 1 => by
    have := c9_skl Q k
    show (if Q (2 * k) = 9 then 1 else 0) + c9 (skl Q k) ≤ ((k + 1 : Nat) : Int)
    split <;> omega
theorem c9_sk (N : NT) : c9 (sk N) ≤ ((nP N).toNat : Int) := c9_skl _ _
