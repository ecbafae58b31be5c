/-! plain facts -/
theorem tmod_pos {z p : Int} (hp : 0 < p) (h : ¬ z.tmod p < 0) : z.tmod p = z % p := by
  have h1 := Int.mul_tdiv_add_tmod z p
  have h2 := Int.tmod_lt_of_pos z hp
  have h3 : (p * z.tdiv p + z.tmod p) % p = z.tmod p := by
    rw [Int.add_comm, Int.add_mul_emod_self_left, Int.emod_eq_of_lt (by omega) h2]
  rw [h1] at h3
  exact h3.symm
theorem tmod_neg {z p : Int} (hp : 0 < p) (h : z.tmod p < 0) : z.tmod p + p = z % p := by
  have h1 := Int.mul_tdiv_add_tmod z p
  have h2 := Int.lt_tmod_of_pos z hp
  have h3 : (p * z.tdiv p + z.tmod p) % p = z.tmod p + p := by
    rw [Int.add_comm, Int.add_mul_emod_self_left, ← Int.add_emod_right, Int.emod_eq_of_lt (by omega) (by omega)]
  rw [h1] at h3
  exact h3.symm
theorem tmod_rng {z p : Int} (hp : 0 < p) : -p < z.tmod p ∧ z.tmod p < p := ⟨Int.lt_tmod_of_pos z hp, Int.tmod_lt_of_pos z hp⟩
theorem emod_rng (z : Int) {p : Int} (hp : 0 < p) : 0 ≤ z % p ∧ z % p < p := ⟨Int.emod_nonneg z (by omega), Int.emod_lt_of_pos z hp⟩
theorem mul_rng {a b : Int} {n k : Int} (ha : 0 ≤ a ∧ a ≤ n) (hb : 0 ≤ b ∧ b ≤ k) : 0 ≤ a * b ∧ a * b ≤ n * k :=
  ⟨Int.mul_nonneg ha.1 hb.1, Int.mul_le_mul ha.2 hb.2 hb.1 (by omega)⟩
theorem iI_and1 {z : Int} (h : 0 ≤ z ∧ z < 2147483648) : iI z &&& iI 1 = iI (z % 2) := by
  obtain ⟨n, rfl⟩ := Int.eq_ofNat_of_zero_le h.1
  have e1 : iI ((n : Nat) : Int) = nI n := (iI_nat n).symm
  have e2 : iI (((n : Nat) : Int) % 2) = nI (n % 2) := by
    have := iI_nat (n % 2)
    rw [Int.natCast_emod] at this
    exact this.symm
  rw [e1, e2]
  exact pk_andN (k := 1) (by omega) rfl
theorem pow_mod (a p : Int) (k : Nat) : (a % p) ^ k % p = a ^ k % p := by
  induction k with
  | zero => simp
  | succ k ih => rw [Int.pow_succ, Int.pow_succ, Int.mul_emod, ih, Int.emod_emod, ← Int.mul_emod]
/-- a row with its first n places all x -/
def fillf (n : Nat) (x : Int) (f : Nat → Int) : Nat → Int := fun j => if j < n then x else f j
theorem fillf_0 (x : Int) (f : Nat → Int) : fillf 0 x f = f := by funext j; simp [fillf]
theorem fillf_up (k : Nat) (x : Int) (f : Nat → Int) : up (fillf k x f) k x = fillf (k + 1) x f := by
  funext j
  unfold up fillf
  by_cases h1 : j = k
  · rw [if_pos h1, if_pos (by omega)]
  · rw [if_neg h1]
    by_cases h2 : j < k
    · rw [if_pos h2, if_pos (by omega)]
    · rw [if_neg h2, if_neg (by omega)]
/-- a row's place, 0 outside; a row with a place changed -/
def at0 (n : Nat) (f : Nat → Int) (i : Int) : Int := if 0 ≤ i ∧ i < n then f i.toNat else 0
def put0 (n : Nat) (f : Nat → Int) (i x : Int) : Nat → Int := if 0 ≤ i ∧ i < n then up f i.toNat x else f
theorem pw_even {p rs sq lf : Int} (h : 0 < lf) (ho : ¬ lf % 2 = 1) : rs * (sq * sq % p) ^ (lf / 2).toNat % p = rs * sq ^ lf.toNat % p := by
  have e : lf.toNat = (lf / 2).toNat + (lf / 2).toNat := by omega
  rw [Int.mul_emod, pow_mod, ← Int.mul_emod, e, Int.pow_add, Int.mul_pow]
theorem pw_odd {p rs sq lf : Int} (h : 0 < lf) (ho : lf % 2 = 1) : rs * sq % p * (sq * sq % p) ^ (lf / 2).toNat % p = rs * sq ^ lf.toNat % p := by
  have e : lf.toNat = (lf / 2).toNat + (lf / 2).toNat + 1 := by omega
  rw [Int.mul_emod, Int.emod_emod, pow_mod, ← Int.mul_emod, e, Int.pow_succ, Int.pow_add, Int.mul_pow]
  congr 1
  rw [Int.mul_assoc, Int.mul_assoc, Int.mul_comm sq]
  simp only [Int.mul_assoc]
/-- one of four -/
def sel4 (u : Int) (a b c d : Nat) : Nat := if u = 0 then a else if u = 1 then b else if u = 2 then c else d
