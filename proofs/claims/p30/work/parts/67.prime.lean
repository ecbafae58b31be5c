/-! the law's prime -/
/-- the law's prime -/
def dvd9 (n : Int) : Nat → Int → Int
  | 0, _ => 0
  | k + 1, d => if n < d * d then 0 else if n % d = 0 then 1 else dvd9 n k (d + 1)
def pri9 : Nat → Int → Int
  | 0, n => n
  | k + 1, n => if dvd9 n 62 2 = 0 then n else pri9 k (n - 1)
theorem pri_all : ∀ k : Fin 60, 2 ≤ pri9 60 ((k.val : Int) + 2) ∧ pri9 60 ((k.val : Int) + 2) ≤ 61 ∧ prU (pri9 60 ((k.val : Int) + 2)) 198 2 = 1 := by decide +kernel
theorem pri_ok {n : Int} (h : 2 ≤ n ∧ n ≤ 61) : (2 ≤ pri9 60 n ∧ pri9 60 n ≤ 61) ∧ prU (pri9 60 n) 198 2 = 1 := by
  have q := pri_all ⟨(n - 2).toNat, by omega⟩
  rw [show (((⟨(n - 2).toNat, by omega⟩ : Fin 60).val : Int) + 2) = n by show (((n - 2).toNat : Nat) : Int) + 2 = n; omega] at q
  exact ⟨⟨q.1, q.2.1⟩, q.2.2⟩
