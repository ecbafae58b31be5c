/-! the law's rows of coefficients -/
theorem cg_0 {p a b : Int} (h : cg p a b) (c : Int) : cg p (a * c) (b * c) := cg_mul h (cg_rfl p c)
theorem cg_l {p a b : Int} (c : Int) (h : cg p a b) : cg p (c * a) (c * b) := cg_mul (cg_rfl p c) h
theorem cg_pow {p a b : Int} (h : cg p a b) : ∀ k : Nat, cg p (a ^ k) (b ^ k)
  | 0 => by
    rw [Int.pow_zero, Int.pow_zero]
    exact cg_rfl p 1
  | k + 1 => by
    rw [Int.pow_succ, Int.pow_succ]
    exact cg_mul (cg_pow h k) h
/-- the first k coefficients at x -/
def pv (f : Nat → Int) (x : Int) : Nat → Int
  | 0 => 0
  | k + 1 => pv f x k + f k * x ^ k
def dv (f : Nat → Int) : Nat → Int := fun d => f (d + 1) * ((d : Int) + 1)
/-- from the highest one down, each time a remainder -/
def hor (f : Nat → Int) (x p : Int) : Nat → Int → Int
  | 0, v => v
  | k + 1, v => hor f x p k ((v * x + f k) % p)
theorem hor_cg (f : Nat → Int) (x p : Int) : ∀ (k : Nat) (v : Int), cg p (hor f x p k v) (v * x ^ k + pv f x k)
  | 0, v => by
    show cg p v (v * x ^ 0 + 0)
    rw [Int.pow_zero, Int.mul_one, Int.add_zero]
    exact cg_rfl p v
  | k + 1, v => by
    have ih := hor_cg f x p k ((v * x + f k) % p)
    show cg p (hor f x p k ((v * x + f k) % p)) (v * x ^ (k + 1) + (pv f x k + f k * x ^ k))
    refine cg_trans ih ?_
    have e : v * x ^ (k + 1) + (pv f x k + f k * x ^ k) = (v * x + f k) * x ^ k + pv f x k := by
      rw [Int.pow_succ, Int.add_mul, Int.mul_comm (x ^ k) x, Int.mul_assoc]
      omega
    rw [e]
    exact cg_add (cg_0 (cg_mod p _) _) (cg_rfl p _)
theorem hor_rng {f : Nat → Int} {x p : Int} (hp : 0 < p) : ∀ (k : Nat) (v : Int), 0 ≤ v ∧ v < p → 0 ≤ hor f x p k v ∧ hor f x p k v < p
  | 0, _, h => h
  | k + 1, v, _ => hor_rng hp k _ (emod_rng _ hp)
theorem pv_cg {f g : Nat → Int} {x p : Int} : ∀ k : Nat, (∀ d, d < k → cg p (f d) (g d)) → cg p (pv f x k) (pv g x k)
  | 0, _ => cg_rfl p 0
  | k + 1, h => cg_add (pv_cg k (fun d hd => h d (by omega))) (cg_0 (h k (by omega)) _)
theorem pv_0 {f : Nat → Int} {x : Int} : ∀ k : Nat, (∀ d, d < k → f d = 0) → pv f x k = 0
  | 0, _ => rfl
  | k + 1, h => by
    show pv f x k + f k * x ^ k = 0
    rw [pv_0 k (fun d hd => h d (by omega)), h k (by omega), Int.zero_mul]
    rfl
/-- a row times x + c -/
def mulx (c p : Int) (f : Nat → Int) : Nat → Int := fun d => if d < 40 then (f d * c + (if 0 < d then f (d - 1) else 0)) % p else f d
def tms (c p : Int) : Nat → (Nat → Int) → (Nat → Int)
  | 0, f => f
  | n + 1, f => tms c p n (mulx c p f)
theorem tms_s (c p : Int) : ∀ (n : Nat) (f : Nat → Int), tms c p (n + 1) f = mulx c p (tms c p n f)
  | 0, _ => rfl
  | n + 1, f => by
    show tms c p (n + 1) (mulx c p f) = _
    rw [tms_s c p n (mulx c p f)]
    rfl
theorem pv_mulx {c p x : Int} {f : Nat → Int} : ∀ k : Nat, k < 40 → cg p (pv (mulx c p f) x (k + 1)) (c * pv f x (k + 1) + x * pv f x k)
  | 0, _ => by
    show cg p (0 + mulx c p f 0 * x ^ 0) (c * (0 + f 0 * x ^ 0) + x * 0)
    have e : mulx c p f 0 = (f 0 * c + 0) % p := by
      unfold mulx
      rw [if_pos (by omega), if_neg (by omega)]
    rw [e, Int.pow_zero, Int.mul_one, Int.mul_one, Int.mul_zero, Int.add_zero, Int.zero_add, Int.zero_add, Int.add_zero, Int.mul_comm c]
    exact cg_mod p _
  | k + 1, h => by
    have ih := pv_mulx (c := c) (p := p) (x := x) (f := f) k (by omega)
    have e : mulx c p f (k + 1) = (f (k + 1) * c + f k) % p := by
      unfold mulx
      rw [if_pos h, if_pos (by omega), show k + 1 - 1 = k by omega]
    show cg p (pv (mulx c p f) x (k + 1) + mulx c p f (k + 1) * x ^ (k + 1)) (c * (pv f x (k + 1) + f (k + 1) * x ^ (k + 1)) + x * (pv f x k + f k * x ^ k))
    rw [e]
    have e2 : c * (pv f x (k + 1) + f (k + 1) * x ^ (k + 1)) + x * (pv f x k + f k * x ^ k) = (c * pv f x (k + 1) + x * pv f x k) + (f (k + 1) * c + f k) * x ^ (k + 1) := by
      rw [Int.mul_add, Int.mul_add, Int.add_mul, Int.pow_succ x k]
      have q1 : c * (f (k + 1) * (x ^ k * x)) = f (k + 1) * c * (x ^ k * x) := by rw [← Int.mul_assoc, Int.mul_comm c]
      have q2 : x * (f k * x ^ k) = f k * (x ^ k * x) := by rw [← Int.mul_assoc, Int.mul_comm x, Int.mul_assoc, Int.mul_comm x]
      rw [q1, q2]
      omega
    rw [e2]
    exact cg_add ih (cg_0 (cg_mod p _) _)
theorem dv_mulx {c p x : Int} {f : Nat → Int} : ∀ k : Nat, k < 39 → cg p (pv (dv (mulx c p f)) x (k + 1)) (c * pv (dv f) x (k + 1) + pv f x (k + 1) + x * pv (dv f) x k)
  | 0, _ => by
    show cg p (0 + (mulx c p f 1 * (((0 : Nat) : Int) + 1)) * x ^ 0) (c * (0 + (f 1 * (((0 : Nat) : Int) + 1)) * x ^ 0) + (0 + f 0 * x ^ 0) + x * 0)
    have e : mulx c p f 1 = (f 1 * c + f 0) % p := by
      unfold mulx
      rw [if_pos (by omega), if_pos (by omega)]
    rw [e, Int.pow_zero, Int.mul_one, Int.mul_one, Int.mul_one, Int.mul_zero, Int.add_zero, Int.zero_add, Int.zero_add, Int.zero_add, show (((0 : Nat) : Int) + 1) = 1 by decide, Int.mul_one, Int.mul_one, Int.mul_comm c]
    exact cg_mod p _
  | k + 1, h => by
    have ih := dv_mulx (c := c) (p := p) (x := x) (f := f) k (by omega)
    have e : mulx c p f (k + 1 + 1) = (f (k + 1 + 1) * c + f (k + 1)) % p := by
      unfold mulx
      rw [if_pos (by omega), if_pos (by omega), show k + 1 + 1 - 1 = k + 1 by omega]
    show cg p (pv (dv (mulx c p f)) x (k + 1) + (mulx c p f (k + 1 + 1) * (((k + 1 : Nat) : Int) + 1)) * x ^ (k + 1)) (c * (pv (dv f) x (k + 1) + (f (k + 1 + 1) * (((k + 1 : Nat) : Int) + 1)) * x ^ (k + 1)) + (pv f x (k + 1) + f (k + 1) * x ^ (k + 1)) + x * (pv (dv f) x k + (f (k + 1) * ((k : Int) + 1)) * x ^ k))
    rw [e]
    have e2 : c * (pv (dv f) x (k + 1) + (f (k + 1 + 1) * (((k + 1 : Nat) : Int) + 1)) * x ^ (k + 1)) + (pv f x (k + 1) + f (k + 1) * x ^ (k + 1)) + x * (pv (dv f) x k + (f (k + 1) * ((k : Int) + 1)) * x ^ k) = (c * pv (dv f) x (k + 1) + pv f x (k + 1) + x * pv (dv f) x k) + ((f (k + 1 + 1) * c + f (k + 1)) * (((k + 1 : Nat) : Int) + 1)) * x ^ (k + 1) := by
      have q1 : c * ((f (k + 1 + 1) * (((k + 1 : Nat) : Int) + 1)) * x ^ (k + 1)) = (f (k + 1 + 1) * c * (((k + 1 : Nat) : Int) + 1)) * x ^ (k + 1) := by
        rw [← Int.mul_assoc, ← Int.mul_assoc, Int.mul_comm c]
      have q2 : x * ((f (k + 1) * ((k : Int) + 1)) * x ^ k) = (f (k + 1) * ((k : Int) + 1)) * x ^ (k + 1) := by
        rw [Int.pow_succ, ← Int.mul_assoc, Int.mul_comm x, Int.mul_assoc, Int.mul_comm x]
      have q3 : ((f (k + 1 + 1) * c + f (k + 1)) * (((k + 1 : Nat) : Int) + 1)) * x ^ (k + 1) = (f (k + 1 + 1) * c * (((k + 1 : Nat) : Int) + 1)) * x ^ (k + 1) + ((f (k + 1) * ((k : Int) + 1)) * x ^ (k + 1) + f (k + 1) * x ^ (k + 1)) := by
        rw [Int.add_mul, Int.add_mul, ← Int.add_mul (f (k + 1) * ((k : Int) + 1)) (f (k + 1)), show (((k + 1 : Nat) : Int) + 1) = ((k : Int) + 1) + 1 by omega, Int.mul_add (f (k + 1)) ((k : Int) + 1) 1, Int.mul_one]
      rw [Int.mul_add c (pv (dv f) x (k + 1)), Int.mul_add x (pv (dv f) x k), q1, q2, q3]
      omega
    rw [e2]
    exact cg_add ih (cg_0 (cg_0 (cg_mod p _) _) _)
/-- value and slope of a row at x -/
def pe (f : Nat → Int) (x : Int) : Int := pv f x 40
def pd (f : Nat → Int) (x : Int) : Int := pv (dv f) x 39
theorem pe_mulx {c p x : Int} {f : Nat → Int} (h : f 39 = 0) : cg p (pe (mulx c p f) x) ((x + c) * pe f x) := by
  have q := pv_mulx (c := c) (p := p) (x := x) (f := f) 39 (by omega)
  have e : pv f x 40 = pv f x 39 := by
    show pv f x 39 + f 39 * x ^ 39 = pv f x 39
    rw [h, Int.zero_mul, Int.add_zero]
  have e2 : (x + c) * pe f x = c * pv f x (39 + 1) + x * pv f x 39 := by
    show (x + c) * pv f x 40 = c * pv f x 40 + x * pv f x 39
    rw [e, Int.add_mul]
    omega
  rw [e2]
  exact q
theorem pd_mulx {c p x : Int} {f : Nat → Int} (h : f 39 = 0) : cg p (pd (mulx c p f) x) (pe f x + (x + c) * pd f x) := by
  have q := dv_mulx (c := c) (p := p) (x := x) (f := f) 38 (by omega)
  have e : pe f x = pv f x 39 := by
    show pv f x 39 + f 39 * x ^ 39 = pv f x 39
    rw [h, Int.zero_mul, Int.add_zero]
  have e3 : pd f x = pv (dv f) x 38 := by
    show pv (dv f) x 38 + (f 39 * (((38 : Nat) : Int) + 1)) * x ^ 38 = pv (dv f) x 38
    rw [h, Int.zero_mul, Int.zero_mul, Int.add_zero]
  have e2 : pe f x + (x + c) * pd f x = c * pv (dv f) x (38 + 1) + pv f x (38 + 1) + x * pv (dv f) x 38 := by
    show pe f x + (x + c) * pd f x = c * pd f x + pv f x 39 + x * pv (dv f) x 38
    rw [← e, ← e3, Int.add_mul]
    omega
  rw [e2]
  exact q
/-- the row that begins with F -/
def r0 (F : Int) : Nat → Int := up (fun _ => 0) 0 F
theorem tms_deg {c p F : Int} : ∀ (n : Nat) (d : Nat), n < d → tms c p n (r0 F) d = 0
  | 0, d, h => by
    show up (fun _ => 0) 0 F d = 0
    rw [up_n (by omega)]
  | n + 1, d, h => by
    rw [tms_s]
    unfold mulx
    have h1 := tms_deg (c := c) (p := p) (F := F) n d (by omega)
    by_cases z : d < 40
    · rw [if_pos z, if_pos (by omega), h1, tms_deg (c := c) (p := p) (F := F) n (d - 1) (by omega), Int.zero_mul, Int.add_zero, Int.zero_emod]
    · rw [if_neg z]
      exact h1
theorem pe_r0 (F x : Int) : pe (r0 F) x = F := by
  have h : ∀ k : Nat, pv (r0 F) x (k + 1) = F := by
    intro k
    induction k with
    | zero =>
      show 0 + F * x ^ 0 = F
      rw [Int.pow_zero, Int.mul_one, Int.zero_add]
    | succ k ih =>
      show pv (r0 F) x (k + 1) + r0 F (k + 1) * x ^ (k + 1) = F
      have z : r0 F (k + 1) = 0 := up_n (by omega)
      rw [ih, z, Int.zero_mul, Int.add_zero]
  exact h 39
theorem pd_r0 (F x : Int) : pd (r0 F) x = 0 := pv_0 39 (fun d _ => by
  have z : r0 F (d + 1) = 0 := up_n (by omega)
  show r0 F (d + 1) * ((d : Int) + 1) = 0
  rw [z, Int.zero_mul])
theorem pe_tms {c p F x : Int} : ∀ n : Nat, n < 39 → cg p (pe (tms c p n (r0 F)) x) (F * (x + c) ^ n)
  | 0, _ => by
    show cg p (pe (r0 F) x) (F * (x + c) ^ 0)
    rw [pe_r0, Int.pow_zero, Int.mul_one]
    exact cg_rfl p F
  | n + 1, h => by
    have ih := pe_tms (c := c) (p := p) (F := F) (x := x) n (by omega)
    rw [tms_s]
    refine cg_trans (pe_mulx (tms_deg n 39 (by omega))) (cg_trans (cg_l (x + c) ih) (cg_of_eq ?_))
    rw [Int.pow_succ, ← Int.mul_assoc, Int.mul_comm (x + c) F, Int.mul_assoc, Int.mul_comm (x + c)]
theorem pd_tms {c p F x : Int} : ∀ n : Nat, n < 39 → cg p (pd (tms c p n (r0 F)) x) (F * ((n : Int) * (x + c) ^ (n - 1)))
  | 0, _ => by
    show cg p (pd (r0 F) x) (F * (((0 : Nat) : Int) * (x + c) ^ (0 - 1)))
    rw [pd_r0, show (((0 : Nat) : Int)) = 0 by rfl, Int.zero_mul, Int.mul_zero]
    exact cg_rfl p 0
  | n + 1, h => by
    have ih := pd_tms (c := c) (p := p) (F := F) (x := x) n (by omega)
    have ie := pe_tms (c := c) (p := p) (F := F) (x := x) n (by omega)
    rw [tms_s]
    refine cg_trans (pd_mulx (tms_deg n 39 (by omega))) (cg_trans (cg_add ie (cg_l (x + c) ih)) (cg_of_eq ?_))
    rw [show n + 1 - 1 = n by omega]
    cases n with
    | zero =>
      rw [Int.pow_zero, show (((0 : Nat) : Int)) = 0 by rfl, Int.zero_mul, Int.mul_zero, Int.mul_zero, Int.add_zero]
      rfl
    | succ m =>
      rw [show m + 1 - 1 = m by omega]
      have q : (x + c) * (F * (((m + 1 : Nat) : Int) * (x + c) ^ m)) = F * (((m + 1 : Nat) : Int) * (x + c) ^ (m + 1)) := by
        rw [Int.pow_succ, ← Int.mul_assoc, Int.mul_comm (x + c) F, Int.mul_assoc, ← Int.mul_assoc (x + c), Int.mul_comm (x + c), Int.mul_assoc, Int.mul_comm (x + c)]
      rw [q, ← Int.mul_add, show (((m + 1 + 1 : Nat) : Int)) = 1 + ((m + 1 : Nat) : Int) by omega, Int.add_mul, Int.one_mul]
/-- a term's row: kind k, factor F, number c, exponent e -/
def tB (p k F c e : Int) : Nat → Int := if k = 0 then up (up (fun _ => 0) 0 (F % p)) 0 (F * c % p) else tms (if k = 3 then c % p else 0) p e.toNat (r0 (F % p))
/-- the sign that the row gets -/
def neg9 (k e less : Int) : Int := if less = (if k = 2 ∧ e % 2 = 1 then 1 else 0) then 0 else 1
/-- two rows added -/
def addr (p s : Int) (f g : Nat → Int) : Nat → Int := fun d => if d < 40 then (f d + (if s = 0 then g d else -g d)) % p else f d
def sg9 (s : Int) : Int := if s = 0 then 1 else -1
theorem sg9_0 : sg9 0 = 1 := if_pos rfl
theorem sg9_1 : sg9 1 = -1 := if_neg (by decide)
theorem pe_addr {p s x : Int} {f g : Nat → Int} : cg p (pe (addr p s f g) x) (pe f x + sg9 s * pe g x) := by
  have h : ∀ k : Nat, k ≤ 40 → cg p (pv (addr p s f g) x k) (pv f x k + sg9 s * pv g x k) := by
    intro k
    induction k with
    | zero =>
      intro _
      show cg p 0 (0 + sg9 s * 0)
      rw [Int.mul_zero]
      exact cg_rfl p 0
    | succ k ih =>
      intro hk
      have e : addr p s f g k = (f k + sg9 s * g k) % p := by
        unfold addr sg9
        rw [if_pos (by omega)]
        split
        · rw [Int.one_mul]
        · rw [Int.neg_mul, Int.one_mul]
      show cg p (pv (addr p s f g) x k + addr p s f g k * x ^ k) (pv f x k + f k * x ^ k + sg9 s * (pv g x k + g k * x ^ k))
      rw [e]
      refine cg_trans (cg_add (ih (by omega)) (cg_0 (cg_mod p _) _)) (cg_of_eq ?_)
      rw [Int.add_mul, Int.mul_add, Int.mul_assoc]
      omega
  exact h 40 (Nat.le_refl _)
theorem pd_addr {p s x : Int} {f g : Nat → Int} : cg p (pd (addr p s f g) x) (pd f x + sg9 s * pd g x) := by
  have h : ∀ k : Nat, k ≤ 39 → cg p (pv (dv (addr p s f g)) x k) (pv (dv f) x k + sg9 s * pv (dv g) x k) := by
    intro k
    induction k with
    | zero =>
      intro _
      show cg p 0 (0 + sg9 s * 0)
      rw [Int.mul_zero]
      exact cg_rfl p 0
    | succ k ih =>
      intro hk
      have e : addr p s f g (k + 1) = (f (k + 1) + sg9 s * g (k + 1)) % p := by
        unfold addr sg9
        rw [if_pos (by omega)]
        split
        · rw [Int.one_mul]
        · rw [Int.neg_mul, Int.one_mul]
      show cg p (pv (dv (addr p s f g)) x k + (addr p s f g (k + 1) * ((k : Int) + 1)) * x ^ k) (pv (dv f) x k + (f (k + 1) * ((k : Int) + 1)) * x ^ k + sg9 s * (pv (dv g) x k + (g (k + 1) * ((k : Int) + 1)) * x ^ k))
      rw [e]
      refine cg_trans (cg_add (ih (by omega)) (cg_0 (cg_0 (cg_mod p _) _) _)) (cg_of_eq ?_)
      rw [Int.add_mul, Int.add_mul, Int.mul_add (sg9 s) (pv (dv g) x k), Int.mul_assoc (sg9 s) (g (k + 1)), Int.mul_assoc (sg9 s)]
      omega
  exact h 39 (Nat.le_refl _)
theorem neg_pow (x : Int) : ∀ n : Nat, (-x) ^ n = (if (n : Int) % 2 = 1 then -1 else 1) * x ^ n
  | 0 => by
    rw [Int.pow_zero, Int.pow_zero, if_neg (by omega)]
    rfl
  | n + 1 => by
    rw [Int.pow_succ, Int.pow_succ, neg_pow x n]
    by_cases z : (n : Int) % 2 = 1
    · rw [if_pos z, if_neg (by omega), Int.neg_mul, Int.one_mul, Int.one_mul, Int.neg_mul_neg]
    · rw [if_neg z, if_pos (by omega), Int.one_mul, Int.neg_mul, Int.one_mul, Int.mul_neg]
/-- a term's value and slope -/
def vT (x k F c e : Int) : Int := if k = 0 then F * c else if k = 1 then F * x ^ e.toNat else if k = 2 then F * (-x) ^ e.toNat else F * (x + c) ^ e.toNat
def sT (x k F c e : Int) : Int := if k = 0 then 0 else if k = 1 then F * (e * x ^ (e - 1).toNat) else if k = 2 then F * (e * (-x) ^ (e - 1).toNat * (-1)) else F * (e * (x + c) ^ (e - 1).toNat)
theorem vT_0 {x F c e : Int} : vT x 0 F c e = F * c ∧ sT x 0 F c e = 0 := by
  unfold vT sT
  rw [if_pos rfl, if_pos rfl]
  exact ⟨rfl, rfl⟩
theorem vT_1 {x F c e : Int} : vT x 1 F c e = F * x ^ e.toNat ∧ sT x 1 F c e = F * (e * x ^ (e - 1).toNat) := by
  unfold vT sT
  rw [if_neg (by decide), if_pos rfl, if_neg (by decide), if_pos rfl]
  exact ⟨rfl, rfl⟩
theorem vT_2 {x F c e : Int} : vT x 2 F c e = F * (-x) ^ e.toNat ∧ sT x 2 F c e = F * (e * (-x) ^ (e - 1).toNat * (-1)) := by
  unfold vT sT
  rw [if_neg (by decide), if_neg (by decide), if_pos rfl, if_neg (by decide), if_neg (by decide), if_pos rfl]
  exact ⟨rfl, rfl⟩
theorem vT_3 {x F c e : Int} : vT x 3 F c e = F * (x + c) ^ e.toNat ∧ sT x 3 F c e = F * (e * (x + c) ^ (e - 1).toNat) := by
  unfold vT sT
  rw [if_neg (by decide), if_neg (by decide), if_neg (by decide), if_neg (by decide), if_neg (by decide), if_neg (by decide)]
  exact ⟨rfl, rfl⟩
/-- what the class's term gives is it, but for multiples of p -/
theorem tP_cg {p x k F c e : Int} (ht : okT k F c e) : cg p (tP p x k F c e).1 (vT x k F c e) ∧ cg p (tP p x k F c e).2 (sT x k F c e) := by
  obtain ⟨hk, hF, hc, he⟩ := ht
  have cF := cg_mod p F
  unfold tP
  rw [opv_42]
  have hk4 : k = 0 ∨ k = 1 ∨ k = 2 ∨ k = 3 := by omega
  rcases hk4 with rfl | rfl | rfl | rfl
  · rw [tVs_0, vT_0.1, vT_0.2]
    refine ⟨cg_mod2 (cg_mul cF (cg_mod p c)), ?_⟩
    show cg p ((0 * (c % p) + F % p * 0) % p) 0
    rw [Int.zero_mul, Int.mul_zero]
    exact cg_mod2 (cg_rfl p 0)
  · rw [tVs_1, vT_1.1, vT_1.2]
    refine ⟨cg_mod2 (cg_mul cF (cg_mod p _)), ?_⟩
    show cg p ((0 * (x ^ e.toNat % p) + F % p * ((e * (x ^ (e - 1).toNat % p) % p) * 1 % p)) % p) _
    rw [Int.zero_mul, Int.zero_add, Int.mul_one]
    exact cg_mod2 (cg_mul cF (cg_mod2 (cg_mod2 (cg_l e (cg_mod p _)))))
  · rw [tVs_2, vT_2.1, vT_2.2]
    have cx : cg p ((0 - x) % p) (-x) := cg_mod2 (cg_of_eq (by omega))
    have c1 : cg p ((0 - 1) % p) (-1) := cg_mod2 (cg_of_eq (by omega))
    refine ⟨cg_mod2 (cg_mul cF (cg_mod2 (cg_pow cx _))), ?_⟩
    show cg p ((0 * (((0 - x) % p) ^ e.toNat % p) + F % p * ((e * (((0 - x) % p) ^ (e - 1).toNat % p) % p) * ((0 - 1) % p) % p)) % p) _
    rw [Int.zero_mul, Int.zero_add]
    exact cg_mod2 (cg_mul cF (cg_mod2 (cg_mul (cg_mod2 (cg_l e (cg_mod2 (cg_pow cx _)))) c1)))
  · rw [tVs_3, vT_3.1, vT_3.2]
    have cx : cg p ((x + c % p) % p) (x + c) := cg_mod2 (cg_add (cg_rfl p x) (cg_mod p c))
    have c1 : cg p ((1 + 0) % p) 1 := cg_mod2 (cg_of_eq (by omega))
    refine ⟨cg_mod2 (cg_mul cF (cg_mod2 (cg_pow cx _))), ?_⟩
    show cg p ((0 * (((x + c % p) % p) ^ e.toNat % p) + F % p * ((e * (((x + c % p) % p) ^ (e - 1).toNat % p) % p) * ((1 + 0) % p) % p)) % p) _
    rw [Int.zero_mul, Int.zero_add]
    have q := cg_mul cF (cg_mod2 (cg_mul (cg_mod2 (cg_l e (cg_mod2 (cg_pow cx (e - 1).toNat)))) c1))
    rw [Int.mul_one] at q
    exact cg_mod2 q
/-- and so is the law's row, with its sign -/
theorem tB_cg {p x k F c e less : Int} (ht : okT k F c e) (hl : less = 0 ∨ less = 1) :
    cg p (sg9 (neg9 k e less) * pe (tB p k F c e) x) (sg9 less * vT x k F c e) ∧ cg p (sg9 (neg9 k e less) * pd (tB p k F c e) x) (sg9 less * sT x k F c e) := by
  obtain ⟨hk, hF, hc, he⟩ := ht
  have cF := cg_mod p F
  have e1 : ((e.toNat : Nat) : Int) = e := by omega
  have e2 : e.toNat - 1 = (e - 1).toNat := by omega
  have hk4 : k = 0 ∨ k = 1 ∨ k = 2 ∨ k = 3 := by omega
  have hn : ¬ k = 2 → neg9 k e less = less := by
    intro q
    unfold neg9
    rw [if_neg (show ¬ (k = 2 ∧ e % 2 = 1) from fun w => q w.1)]
    split <;> omega
  have gen : ∀ a : Int, cg p (pe (tms a p e.toNat (r0 (F % p))) x) (F * (x + a) ^ e.toNat) ∧ cg p (pd (tms a p e.toNat (r0 (F % p))) x) (F * (e * (x + a) ^ (e - 1).toNat)) := by
    intro a
    have q1 := pe_tms (c := a) (p := p) (F := F % p) (x := x) e.toNat (by omega)
    have q2 := pd_tms (c := a) (p := p) (F := F % p) (x := x) e.toNat (by omega)
    rw [e1, e2] at q2
    exact ⟨cg_trans q1 (cg_0 cF _), cg_trans q2 (cg_0 cF _)⟩
  rcases hk4 with rfl | rfl | rfl | rfl
  · rw [hn (by decide), vT_0.1, vT_0.2]
    have et : tB p 0 F c e = r0 (F * c % p) := by
      unfold tB
      rw [if_pos rfl]
      funext j
      show up (up (fun _ => 0) 0 (F % p)) 0 (F * c % p) j = up (fun _ => 0) 0 (F * c % p) j
      by_cases z : j = 0
      · rw [z, up_s, up_s]
      · rw [up_n z, up_n z, up_n z]
    rw [et, pe_r0, pd_r0]
    exact ⟨cg_l _ (cg_mod p _), cg_l _ (cg_rfl p 0)⟩
  · rw [hn (by decide), vT_1.1, vT_1.2]
    have et : tB p 1 F c e = tms 0 p e.toNat (r0 (F % p)) := by
      unfold tB
      rw [if_neg (by decide), if_neg (by decide)]
    rw [et]
    have q := gen 0
    rw [Int.add_zero] at q
    exact ⟨cg_l _ q.1, cg_l _ q.2⟩
  · rw [vT_2.1, vT_2.2]
    have et : tB p 2 F c e = tms 0 p e.toNat (r0 (F % p)) := by
      unfold tB
      rw [if_neg (by decide), if_neg (by decide)]
    rw [et]
    have q := gen 0
    rw [Int.add_zero] at q
    have es : ∀ a : Int, sg9 (neg9 2 e less) * a = sg9 less * ((if e % 2 = 1 then -1 else 1) * a) := by
      intro a
      rcases hl with rfl | rfl <;> by_cases z : e % 2 = 1
      · have e9 : neg9 2 e 0 = 1 := by
          unfold neg9
          rw [if_pos (show (2 : Int) = 2 ∧ e % 2 = 1 from ⟨rfl, z⟩), if_neg (by decide)]
        rw [e9, if_pos z, sg9_0, sg9_1]
        omega
      · have e9 : neg9 2 e 0 = 0 := by
          unfold neg9
          rw [if_neg (show ¬ ((2 : Int) = 2 ∧ e % 2 = 1) from fun w => z w.2), if_pos rfl]
        rw [e9, if_neg z, sg9_0]
        omega
      · have e9 : neg9 2 e 1 = 0 := by
          unfold neg9
          rw [if_pos (show (2 : Int) = 2 ∧ e % 2 = 1 from ⟨rfl, z⟩), if_pos rfl]
        rw [e9, if_pos z, sg9_0, sg9_1]
        omega
      · have e9 : neg9 2 e 1 = 1 := by
          unfold neg9
          rw [if_neg (show ¬ ((2 : Int) = 2 ∧ e % 2 = 1) from fun w => z w.2), if_neg (by decide)]
        rw [e9, if_neg z, sg9_1]
        omega
    rw [es, es]
    have n1 := neg_pow x e.toNat
    have n2 := neg_pow x (e - 1).toNat
    rw [e1] at n1
    refine ⟨cg_l _ (cg_trans (cg_l _ q.1) (cg_of_eq ?_)), cg_l _ (cg_trans (cg_l _ q.2) (cg_of_eq ?_))⟩
    · rw [n1, ← Int.mul_assoc, Int.mul_comm _ F, Int.mul_assoc]
    · by_cases z0 : e = 0
      · rw [z0]
        simp
      · rw [n2, show ((((e - 1).toNat : Nat) : Int)) = e - 1 by omega]
        by_cases z : e % 2 = 1
        · rw [if_pos z, if_neg (by omega)]
          generalize x ^ (e - 1).toNat = y
          grind
        · rw [if_neg z, if_pos (by omega)]
          generalize x ^ (e - 1).toNat = y
          grind
  · rw [hn (by decide), vT_3.1, vT_3.2]
    have et : tB p 3 F c e = tms (c % p) p e.toNat (r0 (F % p)) := by
      unfold tB
      rw [if_neg (by decide), if_pos rfl]
    rw [et]
    have q := gen (c % p)
    have cx : cg p (x + c % p) (x + c) := cg_add (cg_rfl p x) (cg_mod p c)
    exact ⟨cg_l _ (cg_trans q.1 (cg_l F (cg_pow cx _))), cg_l _ (cg_trans q.2 (cg_l F (cg_l e (cg_pow cx _))))⟩
