/-! a term of the law's, whatever its kind -/
theorem tB_0 {p F c e : Int} : tB p 0 F c e = up (up (fun _ => 0) 0 (F % p)) 0 (F * c % p) := by
  unfold tB
  rw [if_pos rfl]
theorem tB_1 {p F c e : Int} : tB p 1 F c e = tms 0 p e.toNat (r0 (F % p)) := by
  unfold tB
  rw [if_neg (by decide), if_neg (by decide)]
theorem tB_2 {p F c e : Int} : tB p 2 F c e = tms 0 p e.toNat (r0 (F % p)) := by
  unfold tB
  rw [if_neg (by decide), if_neg (by decide)]
theorem tB_3 {p F c e : Int} : tB p 3 F c e = tms (c % p) p e.toNat (r0 (F % p)) := by
  unfold tB
  rw [if_neg (by decide), if_pos rfl]
theorem c_L_term (l : Launch) (g : GG) (ob tx ps ho : Nat) (so : Option Nat) (rk : Nat) (tc : Nat) (tn : Int) (tf : Nat → Int) (gv less : Int) (aq : Nat) (a : Nat → Int) (pr : Int) (hpr : 2 ≤ pr ∧ pr ≤ 61) (hless : less = 0 ∨ less = 1) (htn : 0 ≤ tn ∧ tn ≤ 31) (ha : ∀ j, 0 ≤ a j ∧ a j < pr) : qMet l yL_term wsL_term ({ frames := 3, cells := 1, slots := 40, locals := 90 }) g [.ref ob, .int (iI gv), .int (iI less), .ref aq, .int (iI pr)] [(ob, .inr (10, [.ref tx, .ref ps, .ref ho, .ref rk, va_rf so])), (tx, .inr (9, [.ref tc, .int (iI tn)])), (tc, gC g 40 tf), (aq, gI g 40 a)] (fun _ => True) (fun _ => True) (S := Unit) (fun _ => some (.int (iI (tN (lo (shr9 gv 12) 4) + 1)))) (fun _ => [(ob, .inr (10, [.ref tx, .ref ps, .ref ho, .ref rk, va_rf so])), (tx, .inr (9, [.ref tc, .int (iI (tn + (((tT (lo (shr9 gv 12) 4) (lo gv 10) (lo (shr9 gv 4) 10) (lo (shr9 gv 8) 10)).length : Nat) : Int)))])), (tc, gC g 40 (wr (tT (lo (shr9 gv 12) 4) (lo gv 10) (lo (shr9 gv 4) 10) (lo (shr9 gv 8) 10)) tn tf)), (aq, gI g 40 (addr pr (neg9 (lo (shr9 gv 12) 4) (lo (shr9 gv 8) 10) less) a (tB pr (lo (shr9 gv 12) 4) (lo gv 10) (lo (shr9 gv 4) 10) (lo (shr9 gv 8) 10))))]) (fun _ => True) 1 40 := by
  have hkr := lo_r (v := shr9 gv 12) (n := 4) (by omega)
  have hk4 : lo (shr9 gv 12) 4 = 0 ∨ lo (shr9 gv 12) 4 = 1 ∨ lo (shr9 gv 12) 4 = 2 ∨ lo (shr9 gv 12) 4 = 3 := by omega
  rcases hk4 with hk | hk | hk | hk
  · have e1 : tn + (((tT 0 (lo gv 10) (lo (shr9 gv 4) 10) (lo (shr9 gv 8) 10)).length : Nat) : Int) = ((tn + 1) + 1) + 1 := by
      rw [tT_0]
      show tn + ((3 : Nat) : Int) = _
      omega
    have q := c_L_term_0 l g ob tx ps ho so rk tc tn tf gv less aq a pr (lo gv 10) (lo (shr9 gv 4) 10) (lo (shr9 gv 8) 10) hpr hless htn ha rfl rfl rfl hk
    rw [hk, e1, tT_0, tB_0, tN_0]
    exact q
  · have e1 : tn + (((tT 1 (lo gv 10) (lo (shr9 gv 4) 10) (lo (shr9 gv 8) 10)).length : Nat) : Int) = ((((tn + 1) + 1) + 1) + 1) + 1 := by
      rw [tT_1]
      show tn + ((5 : Nat) : Int) = _
      omega
    have q := c_L_term_1 l g ob tx ps ho so rk tc tn tf gv less aq a pr (lo gv 10) (lo (shr9 gv 4) 10) (lo (shr9 gv 8) 10) hpr hless htn ha rfl rfl rfl hk
    rw [hk, e1, tT_1, tB_1, tN_1]
    exact q
  · have e1 : tn + (((tT 2 (lo gv 10) (lo (shr9 gv 4) 10) (lo (shr9 gv 8) 10)).length : Nat) : Int) = (((((tn + 1) + 1) + 1) + 1) + 1) + 1 := by
      rw [tT_2]
      show tn + ((6 : Nat) : Int) = _
      omega
    have q := c_L_term_2 l g ob tx ps ho so rk tc tn tf gv less aq a pr (lo gv 10) (lo (shr9 gv 4) 10) (lo (shr9 gv 8) 10) hpr hless htn ha rfl rfl rfl hk
    rw [hk, e1, tT_2, tB_2, tN_2]
    exact q
  · have e1 : tn + (((tT 3 (lo gv 10) (lo (shr9 gv 4) 10) (lo (shr9 gv 8) 10)).length : Nat) : Int) = ((((((((tn + 1) + 1) + 1) + 1) + 1) + 1) + 1) + 1) + 1 := by
      rw [tT_3]
      show tn + ((9 : Nat) : Int) = _
      omega
    have q := c_L_term_3 l g ob tx ps ho so rk tc tn tf gv less aq a pr (lo gv 10) (lo (shr9 gv 4) 10) (lo (shr9 gv 8) 10) hpr hless htn ha rfl rfl rfl hk
    rw [hk, e1, tT_3, tB_3, tN_3]
    exact q
