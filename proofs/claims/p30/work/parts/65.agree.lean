/-! the law's numbers and the class's agree -/
def dh (f : Nat → Int) (p : Int) : Nat → Int := fun d => f (d + 1) * (((d : Int) + 1) % p)
/-- the law's value and slope at x -/
def lvV (p : Int) (a b : Nat → Int) (x : Int) : Int := if hor b x p 40 0 = 0 then -1 else hor a x p 40 0 * inv' p (hor b x p 40 0) % p
def lsS (p : Int) (a b : Nat → Int) (x : Int) : Int := if hor b x p 40 0 = 0 then -1 else ((hor (dh a p) x p 39 0 * hor b x p 40 0 - hor a x p 40 0 * hor (dh b p) x p 39 0) % p) * (inv' p (hor b x p 40 0) * inv' p (hor b x p 40 0) % p) % p
theorem at_pe {p x : Int} {a : Nat → Int} : cg p (hor a x p 40 0) (pe a x) := by
  have h := hor_cg a x p 40 0
  rw [Int.zero_mul, Int.zero_add] at h
  exact h
theorem sl_pd {p x : Int} {a : Nat → Int} : cg p (hor (dh a p) x p 39 0) (pd a x) := by
  have h := hor_cg (dh a p) x p 39 0
  rw [Int.zero_mul, Int.zero_add] at h
  exact cg_trans h (pv_cg 39 (fun d _ => cg_l _ (cg_mod p _)))
theorem at_eq {p x V A : Int} {a : Nat → Int} (hp : 0 < p) (h : cg p (pe a x) V) (hA : cg p A V) (hr : 0 ≤ A ∧ A < p) : hor a x p 40 0 = A :=
  cg_eq (cg_trans at_pe (cg_trans h (cg_symm hA))) (hor_rng hp 40 0 ⟨by omega, hp⟩) hr
theorem sl_eq {p x V A : Int} {a : Nat → Int} (hp : 0 < p) (h : cg p (pd a x) V) (hA : cg p A V) (hr : 0 ≤ A ∧ A < p) : hor (dh a p) x p 39 0 = A :=
  cg_eq (cg_trans sl_pd (cg_trans h (cg_symm hA))) (hor_rng hp 39 0 ⟨by omega, hp⟩) hr
theorem inv_2 {p v : Int} : inv' p (v * v % p) = inv' p v * inv' p v % p := by
  unfold inv'
  refine cg_emod (cg_trans (cg_pow (cg_mod p (v * v)) _) ?_)
  rw [Int.mul_pow]
  exact cg_symm (cg_mul (cg_mod p _) (cg_mod p _))
def aR (p k1 F1 c1 e1 less k2 F2 c2 e2 : Int) : Nat → Int := addr p (neg9 k2 e2 less) (addr p (neg9 k1 e1 0) (fun _ => 0) (tB p k1 F1 c1 e1)) (tB p k2 F2 c2 e2)
def bR (p k3 F3 c3 e3 : Int) : Nat → Int := addr p (neg9 k3 e3 0) (up (up (fun _ => 0) 0 1) 0 0) (tB p k3 F3 c3 e3)
theorem row_one {p x k F c e : Int} {z : Nat → Int} (hz : pe z x = 0 ∧ pd z x = 0) (ht : okT k F c e) : cg p (pe (addr p (neg9 k e 0) z (tB p k F c e)) x) (vT x k F c e) ∧ cg p (pd (addr p (neg9 k e 0) z (tB p k F c e)) x) (sT x k F c e) := by
  have q := tB_cg (p := p) (x := x) (less := 0) ht (Or.inl rfl)
  have e1 : ∀ a : Int, sg9 0 * a = a := fun a => by
    unfold sg9
    rw [if_pos rfl, Int.one_mul]
  rw [e1, e1] at q
  have h1 := pe_addr (p := p) (s := neg9 k e 0) (x := x) (f := z) (g := tB p k F c e)
  have h2 := pd_addr (p := p) (s := neg9 k e 0) (x := x) (f := z) (g := tB p k F c e)
  rw [hz.1, Int.zero_add] at h1
  rw [hz.2, Int.zero_add] at h2
  exact ⟨cg_trans h1 q.1, cg_trans h2 q.2⟩
theorem z_row {x : Int} : pe (fun _ => 0) x = 0 ∧ pd (fun _ => 0) x = 0 := ⟨pv_0 40 (fun _ _ => rfl), pv_0 39 (fun d _ => by show (0 : Int) * _ = 0; rw [Int.zero_mul])⟩
theorem z_row2 {x : Int} : pe (up (up (fun _ => 0) 0 1) 0 0) x = 0 ∧ pd (up (up (fun _ => 0) 0 1) 0 0) x = 0 := by
  have e : (up (up (fun _ => 0) 0 1) 0 0 : Nat → Int) = fun _ => 0 := by
    funext j
    by_cases z : j = 0
    · rw [z, up_s]
    · rw [up_n z, up_n z]
  rw [e]
  exact z_row
theorem aR_cg {p x k1 F1 c1 e1 less k2 F2 c2 e2 : Int} (h1 : okT k1 F1 c1 e1) (h2 : okT k2 F2 c2 e2) (hl : less = 0 ∨ less = 1) :
    cg p (pe (aR p k1 F1 c1 e1 less k2 F2 c2 e2) x) (vT x k1 F1 c1 e1 + sg9 less * vT x k2 F2 c2 e2) ∧ cg p (pd (aR p k1 F1 c1 e1 less k2 F2 c2 e2) x) (sT x k1 F1 c1 e1 + sg9 less * sT x k2 F2 c2 e2) := by
  have q1 := row_one (p := p) (x := x) z_row h1
  have q2 := tB_cg (p := p) (x := x) h2 hl
  exact ⟨cg_trans pe_addr (cg_add q1.1 q2.1), cg_trans pd_addr (cg_add q1.2 q2.2)⟩
theorem tP_rng {p x k F c e : Int} (hp : 0 < p) : (0 ≤ (tP p x k F c e).1 ∧ (tP p x k F c e).1 < p) ∧ (0 ≤ (tP p x k F c e).2 ∧ (tP p x k F c e).2 < p) := by
  unfold tP
  rw [opv_42]
  exact ⟨emod_rng _ hp, emod_rng _ hp⟩
theorem sum_cg {p x k1 F1 c1 e1 less k2 F2 c2 e2 : Int} (h1 : okT k1 F1 c1 e1) (h2 : okT k2 F2 c2 e2) (hl : less = 0 ∨ less = 1) (hp : 0 < p) :
    (cg p (opv (sgn (less = 1)) p (tP p x k1 F1 c1 e1) (tP p x k2 F2 c2 e2)).1 (vT x k1 F1 c1 e1 + sg9 less * vT x k2 F2 c2 e2) ∧ cg p (opv (sgn (less = 1)) p (tP p x k1 F1 c1 e1) (tP p x k2 F2 c2 e2)).2 (sT x k1 F1 c1 e1 + sg9 less * sT x k2 F2 c2 e2)) ∧
    (0 ≤ (opv (sgn (less = 1)) p (tP p x k1 F1 c1 e1) (tP p x k2 F2 c2 e2)).1 ∧ (opv (sgn (less = 1)) p (tP p x k1 F1 c1 e1) (tP p x k2 F2 c2 e2)).1 < p) ∧ (0 ≤ (opv (sgn (less = 1)) p (tP p x k1 F1 c1 e1) (tP p x k2 F2 c2 e2)).2 ∧ (opv (sgn (less = 1)) p (tP p x k1 F1 c1 e1) (tP p x k2 F2 c2 e2)).2 < p) := by
  have q1 := tP_cg (p := p) (x := x) h1
  have q2 := tP_cg (p := p) (x := x) h2
  rcases hl with rfl | rfl
  · have es : sgn ((0 : Int) = 1) = 43 := if_neg (by decide)
    have e9 : ∀ a : Int, sg9 0 * a = a := fun a => by
      unfold sg9
      rw [if_pos rfl, Int.one_mul]
    rw [es, opv_43, e9, e9]
    exact ⟨⟨cg_mod2 (cg_add q1.1 q2.1), cg_mod2 (cg_add q1.2 q2.2)⟩, emod_rng _ hp, emod_rng _ hp⟩
  · have es : sgn ((1 : Int) = 1) = 45 := if_pos rfl
    have e9 : ∀ a b : Int, a + sg9 1 * b = a - b := fun a b => by
      unfold sg9
      rw [if_neg (by decide), Int.neg_mul, Int.one_mul]
      omega
    rw [es, opv_45, e9, e9]
    exact ⟨⟨cg_mod2 (cg_sub q1.1 q2.1), cg_mod2 (cg_sub q1.2 q2.2)⟩, emod_rng _ hp, emod_rng _ hp⟩
theorem AG1 {p x k1 F1 c1 e1 less k2 F2 c2 e2 : Int} (h1 : okT k1 F1 c1 e1) (h2 : okT k2 F2 c2 e2) (hl : less = 0 ∨ less = 1) (hp : 2 ≤ p) :
    lvV p (aR p k1 F1 c1 e1 less k2 F2 c2 e2) (r0 1) x = (opv (sgn (less = 1)) p (tP p x k1 F1 c1 e1) (tP p x k2 F2 c2 e2)).1 ∧ lsS p (aR p k1 F1 c1 e1 less k2 F2 c2 e2) (r0 1) x = (opv (sgn (less = 1)) p (tP p x k1 F1 c1 e1) (tP p x k2 F2 c2 e2)).2 := by
  have s := sum_cg (p := p) (x := x) h1 h2 hl (by omega)
  have r := aR_cg (p := p) (x := x) h1 h2 hl
  have ea := at_eq (by omega) r.1 s.1.1 s.2.1
  have es := sl_eq (by omega) r.2 s.1.2 s.2.2
  have eb : hor (r0 1) x p 40 0 = 1 := at_eq (V := 1) (by omega) (by rw [pe_r0]; exact cg_rfl p 1) (cg_rfl p 1) (by omega)
  have ed : hor (dh (r0 1) p) x p 39 0 = 0 := sl_eq (V := 0) (by omega) (by rw [pd_r0]; exact cg_rfl p 0) (cg_rfl p 0) (by omega)
  have ei : inv' p 1 = 1 := by
    unfold inv'
    rw [Int.one_pow]
    exact Int.emod_eq_of_lt (by omega) (by omega)
  generalize hA : (opv (sgn (less = 1)) p (tP p x k1 F1 c1 e1) (tP p x k2 F2 c2 e2)).1 = A at *
  generalize hS : (opv (sgn (less = 1)) p (tP p x k1 F1 c1 e1) (tP p x k2 F2 c2 e2)).2 = S at *
  unfold lvV lsS
  rw [ea, es, eb, ed, ei, if_neg (by decide), if_neg (by decide), Int.mul_one, Int.mul_one, Int.mul_zero, Int.sub_zero, Int.mul_one, Int.emod_eq_of_lt (a := (1 : Int)) (by omega) (by omega), Int.mul_one, Int.emod_emod, Int.emod_eq_of_lt s.2.1.1 s.2.1.2, Int.emod_eq_of_lt s.2.2.1 s.2.2.2]
  exact ⟨rfl, rfl⟩
theorem AG2 {p x k1 F1 c1 e1 less k2 F2 c2 e2 k3 F3 c3 e3 : Int} (h1 : okT k1 F1 c1 e1) (h2 : okT k2 F2 c2 e2) (h3 : okT k3 F3 c3 e3) (hl : less = 0 ∨ less = 1) (hp : 2 ≤ p) :
    lvV p (aR p k1 F1 c1 e1 less k2 F2 c2 e2) (bR p k3 F3 c3 e3) x = (dvp p (opv (sgn (less = 1)) p (tP p x k1 F1 c1 e1) (tP p x k2 F2 c2 e2)) (tP p x k3 F3 c3 e3)).1 ∧ lsS p (aR p k1 F1 c1 e1 less k2 F2 c2 e2) (bR p k3 F3 c3 e3) x = (dvp p (opv (sgn (less = 1)) p (tP p x k1 F1 c1 e1) (tP p x k2 F2 c2 e2)) (tP p x k3 F3 c3 e3)).2 := by
  have s := sum_cg (p := p) (x := x) h1 h2 hl (by omega)
  have r := aR_cg (p := p) (x := x) h1 h2 hl
  have ea := at_eq (by omega) r.1 s.1.1 s.2.1
  have es := sl_eq (by omega) r.2 s.1.2 s.2.2
  have q := row_one (p := p) (x := x) z_row2 h3
  have t := tP_cg (p := p) (x := x) h3
  have u := tP_rng (p := p) (x := x) (k := k3) (F := F3) (c := c3) (e := e3) (by omega)
  have eb : hor (bR p k3 F3 c3 e3) x p 40 0 = (tP p x k3 F3 c3 e3).1 := at_eq (by omega) q.1 t.1 u.1
  have ed : hor (dh (bR p k3 F3 c3 e3) p) x p 39 0 = (tP p x k3 F3 c3 e3).2 := sl_eq (by omega) q.2 t.2 u.2
  unfold lvV lsS dvp
  rw [ea, es, eb, ed]
  by_cases z : (tP p x k3 F3 c3 e3).1 = 0
  · rw [if_pos z, if_pos z, if_pos z]
    exact ⟨rfl, rfl⟩
  · rw [if_neg z, if_neg z, if_neg z, inv_2]
    exact ⟨rfl, rfl⟩
/-- the next place -/
theorem nx_eq {p x v s : Int} : (x - v * inv' p s % p) % p = (x - v * inv' p s) % p := cg_emod (cg_sub (cg_rfl p x) (cg_mod p _))
/-- the law's inverse -/
def itm (v p : Int) : Nat → Int → Int
  | 0, r => r
  | k + 1, r => itm v p k (r * v % p)
theorem itm_eq {v p : Int} (hp : 0 < p) : ∀ (k : Nat) (r : Int), 0 ≤ r ∧ r < p → itm v p k r = r * v ^ k % p
  | 0, r, h => by
    show r = r * v ^ 0 % p
    rw [Int.pow_zero, Int.mul_one, Int.emod_eq_of_lt h.1 h.2]
  | k + 1, r, h => by
    show itm v p k (r * v % p) = _
    rw [itm_eq hp k _ (emod_rng _ hp)]
    refine cg_emod (cg_trans (cg_0 (cg_mod p _) _) (cg_of_eq ?_))
    rw [Int.pow_succ, Int.mul_assoc, Int.mul_comm v]
theorem itm_inv {v p : Int} (hp : 2 ≤ p) : itm v p (p - 2).toNat 1 = inv' p v := by
  rw [itm_eq (by omega) _ 1 (by omega), Int.one_mul]
  rfl
