/-- prime or not, as it is tried from d on -/
def prU (n : Int) : Nat → Int → Int
  | 0, _ => if 2 ≤ n then 1 else 0
  | k + 1, d => if d < n then (if n % d = 0 then 0 else prU n k (d + 1)) else (if 2 ≤ n then 1 else 0)
theorem prU_step {n d : Int} {k : Nat} (h : ¬ n ≤ d) (h2 : ¬ n % d = 0) : prU n (k + 1) d = prU n k (d + 1) := by
  show (if d < n then (if n % d = 0 then 0 else prU n k (d + 1)) else _) = _
  rw [if_pos (by omega), if_neg h2]
theorem prU_hit {n d : Int} {k : Nat} (h : ¬ n ≤ d) (h2 : n % d = 0) : prU n (k + 1) d = 0 := by
  show (if d < n then (if n % d = 0 then 0 else prU n k (d + 1)) else _) = _
  rw [if_pos (by omega), if_pos h2]
theorem prU_end1 {n d : Int} (h : 199 < d ∨ n ≤ d) (h2 : 2 ≤ n) : prU n (200 - d).toNat d = 1 := by
  rcases Nat.eq_zero_or_pos (200 - d).toNat with e | e
  · rw [e]; show (if 2 ≤ n then (1 : Int) else 0) = 1; rw [if_pos h2]
  · obtain ⟨k, hk⟩ := Nat.exists_eq_succ_of_ne_zero (Nat.pos_iff_ne_zero.mp e)
    rw [hk]
    show (if d < n then _ else (if 2 ≤ n then (1 : Int) else 0)) = 1
    rw [if_neg (by omega), if_pos h2]
theorem prU_end0 {n d : Int} (h : 199 < d ∨ n ≤ d) (h2 : ¬ 2 ≤ n) : prU n (200 - d).toNat d = 0 := by
  rcases Nat.eq_zero_or_pos (200 - d).toNat with e | e
  · rw [e]; show (if 2 ≤ n then (1 : Int) else 0) = 0; rw [if_neg h2]
  · obtain ⟨k, hk⟩ := Nat.exists_eq_succ_of_ne_zero (Nat.pos_iff_ne_zero.mp e)
    rw [hk]
    show (if d < n then _ else (if 2 ≤ n then (1 : Int) else 0)) = 0
    rw [if_neg (by omega), if_neg h2]
/-- chains -/
def cbp (F : FT) (w u x : Int) : Int := if vv (fP F) (fE F) u.toNat x = -1 then -1 else if hh (fP F) (fE F) w.toNat (vv (fP F) (fE F) u.toNat x) = -1 then -1 else hh (fP F) (fE F) w.toNat (vv (fP F) (fE F) u.toNat x) * hh (fP F) (fE F) u.toNat x % fP F
def cbf (F : FT) (w u x : Int) : Int := if vv (fP F) (fE F) u.toNat x = -1 then -1 else hf (fP F) (fE F) w.toNat (vv (fP F) (fE F) u.toNat x) (hh (fP F) (fE F) u.toNat x)

set_option maxHeartbeats 4000000 in
set_option maxRecDepth 100000 in
theorem c_X10_prime (l : Launch) (g : GG) (ob tx ps ho rk t0 t1 t2 t3 t4 t5 : Nat) (so : Option Nat) (F : FT) : qPure l yX10_prime wsX10_prime ({ frames := 1, cells := 0, slots := 0, locals := 20 }) g [.ref ob] [(ob, .inr (10, [.ref tx, .ref ps, .ref ho, .ref rk, va_rf so])), (rk, .inr (5, [.ref t0, .ref t1, .ref t2, .ref t3, .ref t4, .ref t5, .ref (fS F)]))] (FX g F) (some (.int (iI (fP F)))) := by
  refine q_ofP (cc := cX10_prime) (maxL := 1) (ret := (some .int)) (by decide) rfl (Nat.le_of_ble_eq_true rfl) ?_
  intro p e s m args below meth c ls S0 hr hlocks hK hP hX hl
  have hP : va_P g.1 vwCl [(ob, .inr (10, [.ref tx, .ref ps, .ref ho, .ref rk, va_rf so])), (rk, .inr (5, [.ref t0, .ref t1, .ref t2, .ref t3, .ref t4, .ref t5, .ref (fS F)]))] s.heap := hP
  have hl : lv_has ls 1 [(0, .ref ob)] := hl
  have hinX10 : ∀ w ∈ wsX100, w ∈ wsX10_prime := fun w h => List.mem_cons_of_mem _ (List.mem_append_left _ (List.mem_append_left _ (List.mem_append_left _ (List.mem_append_right _ h))))
  refine lv_aload_n S0.1 S0.2.1 dX10_prime_0 rfl (lv_at hl 0 rfl) ?_
  refine q_get (C := RX10) (T := TX10) (N := 5) S0 hK hP hinX10 0 rfl rfl 3 (by decide) (List.mem_of_getElem? (i := 1) rfl) rfl rfl dX10_prime_1 ?_
  refine q_pV (n := 0) (rest := []) S0 hK (c_X5_state l g rk t0 t1 t2 t3 t4 t5 (fS F)) (subP hP [1] rfl) (trivial) gX10_prime_X5_state rfl rfl rfl (by decide +kernel) ⟨Nat.le_of_ble_eq_true rfl, Nat.le_of_ble_eq_true rfl⟩ (q_recv hK hP (ci := 5) (q0 := 1) rfl rfl) rfl rfl hl.1 (Nat.le_of_ble_eq_true rfl) ⟨Nat.le_of_ble_eq_true rfl, Nat.le_of_ble_eq_true rfl⟩ dX10_prime_4 ?_
  refine W.eq (g2 := F0 m 7 ls [.ref (fS F)]) rfl ?_
  refine q_pV (n := 0) (rest := []) S0 hK (c_X7_numbers l g (fS F) (fR F) (fX F 0) (fX F 1) (fX F 2) (fX F 3)) (subP (hX).1 [0] rfl) (trivial) gX10_prime_X7_numbers rfl rfl rfl (by decide +kernel) ⟨Nat.le_of_ble_eq_true rfl, Nat.le_of_ble_eq_true rfl⟩ (q_recv hK (hX).1 (ci := 7) (q0 := 0) rfl rfl) rfl rfl hl.1 (Nat.le_of_ble_eq_true rfl) ⟨Nat.le_of_ble_eq_true rfl, Nat.le_of_ble_eq_true rfl⟩ dX10_prime_7 ?_
  refine W.eq (g2 := F0 m 10 ls [.ref (fR F)]) rfl ?_
  refine q_pV (n := 0) (rest := []) S0 hK (c_X6_prime l g (fR F) (fP F)) (subP (hX).1 [1] rfl) (trivial) gX10_prime_X6_prime rfl rfl rfl (by decide +kernel) ⟨Nat.le_of_ble_eq_true rfl, Nat.le_of_ble_eq_true rfl⟩ (q_recv hK (hX).1 (ci := 6) (q0 := 1) rfl rfl) rfl rfl hl.1 (Nat.le_of_ble_eq_true rfl) ⟨Nat.le_of_ble_eq_true rfl, Nat.le_of_ble_eq_true rfl⟩ dX10_prime_10 ?_
  refine W.eq (g2 := F0 m 13 ls [.int (iI (fP F))]) rfl ?_
  exact qp_iret S0 hr hlocks (rfl) dX10_prime_13
set_option maxHeartbeats 4000000 in
set_option maxRecDepth 100000 in
theorem c_X10_requireFunction (l : Launch) (g : GG) (ob tx ps ho rk : Nat) (so : Option Nat) (u : Int) (hu : 0 ≤ u ∧ u < 4) : qPure l yX10_requireFunction wsX10_requireFunction ({ frames := 0, cells := 0, slots := 0, locals := 0 }) g [.ref ob, .int (iI u)] [(ob, .inr (10, [.ref tx, .ref ps, .ref ho, .ref rk, va_rf so]))] (fun _ => True) (none) := by
  refine q_ofP (cc := cX10_requireFunction) (maxL := 2) (ret := none) (by decide) rfl (Nat.le_of_ble_eq_true rfl) ?_
  intro p e s m args below meth c ls S0 hr hlocks hK hP hX hl
  have hP : va_P g.1 vwCl [(ob, .inr (10, [.ref tx, .ref ps, .ref ho, .ref rk, va_rf so]))] s.heap := hP
  have hl : lv_has ls 2 [(0, .ref ob), (1, .int (iI u))] := hl
  refine lv_iload_n S0.1 S0.2.1 dX10_requireFunction_0 rfl (lv_at hl 1 rfl) ?_
  refine q_if_lt (tgt := 9) S0 (by omega) dX10_requireFunction_1 (by decide) (fun c1 => ?_) (fun c1 => ?_)
  · skip
    exact absurd c1 (by omega)
  · skip
    refine lv_iload_n S0.1 S0.2.1 dX10_requireFunction_4 rfl (lv_at hl 1 rfl) ?_
    refine q_iconst S0 dX10_requireFunction_5 ?_
    refine q_icmp_lt (tgt := 19) S0 (by omega) dX10_requireFunction_6 (by decide) (fun c6 => ?_) (fun c6 => ?_)
    · skip
      exact qp_vret S0 hr hlocks rfl dX10_requireFunction_19
    · skip
      exact absurd c6 (by omega)
set_option maxHeartbeats 4000000 in
set_option maxRecDepth 100000 in
theorem c_X10_requireNumber (l : Launch) (g : GG) (ob tx ps ho rk t0 t1 t2 t3 t4 t5 : Nat) (so : Option Nat) (F : FT) (x : Int) (hpr : 2 ≤ fP F ∧ fP F ≤ 199) (hx : 0 ≤ x ∧ x < fP F) : qPure l yX10_requireNumber wsX10_requireNumber ({ frames := 2, cells := 0, slots := 0, locals := 40 }) g [.ref ob, .int (iI x)] [(ob, .inr (10, [.ref tx, .ref ps, .ref ho, .ref rk, va_rf so])), (rk, .inr (5, [.ref t0, .ref t1, .ref t2, .ref t3, .ref t4, .ref t5, .ref (fS F)]))] (FX g F) (none) := by
  refine q_ofP (cc := cX10_requireNumber) (maxL := 2) (ret := none) (by decide) rfl (Nat.le_of_ble_eq_true rfl) ?_
  intro p e s m args below meth c ls S0 hr hlocks hK hP hX hl
  have hP : va_P g.1 vwCl [(ob, .inr (10, [.ref tx, .ref ps, .ref ho, .ref rk, va_rf so])), (rk, .inr (5, [.ref t0, .ref t1, .ref t2, .ref t3, .ref t4, .ref t5, .ref (fS F)]))] s.heap := hP
  have hl : lv_has ls 2 [(0, .ref ob), (1, .int (iI x))] := hl
  refine lv_iload_n S0.1 S0.2.1 dX10_requireNumber_0 rfl (lv_at hl 1 rfl) ?_
  refine q_if_lt (tgt := 12) S0 (by omega) dX10_requireNumber_1 (by decide) (fun c1 => ?_) (fun c1 => ?_)
  · skip
    exact absurd c1 (by omega)
  · skip
    refine lv_iload_n S0.1 S0.2.1 dX10_requireNumber_4 rfl (lv_at hl 1 rfl) ?_
    refine lv_aload_n S0.1 S0.2.1 dX10_requireNumber_5 rfl (lv_at hl 0 rfl) ?_
    refine q_pV (n := 0) (rest := [.int (iI x)]) S0 hK (c_X10_prime l g ob tx ps ho rk t0 t1 t2 t3 t4 t5 so F) (subP hP [0, 1] rfl) (hX) gX10_requireNumber_X10_prime rfl rfl rfl (by decide +kernel) ⟨Nat.le_of_ble_eq_true rfl, Nat.le_of_ble_eq_true rfl⟩ (q_recv hK hP (ci := 10) (q0 := 0) rfl rfl) rfl rfl hl.1 (Nat.le_of_ble_eq_true rfl) ⟨Nat.le_of_ble_eq_true rfl, Nat.le_of_ble_eq_true rfl⟩ dX10_requireNumber_6 ?_
    refine W.eq (g2 := F0 m 9 ls [.int (iI (fP F)), .int (iI x)]) rfl ?_
    refine q_icmp_lt (tgt := 22) S0 (by omega) dX10_requireNumber_9 (by decide) (fun c9 => ?_) (fun c9 => ?_)
    · skip
      exact qp_vret S0 hr hlocks rfl dX10_requireNumber_22
    · skip
      exact absurd c9 (by omega)
set_option maxHeartbeats 4000000 in
set_option maxRecDepth 100000 in
theorem c_X10_isPrime (l : Launch) (g : GG) (n : Int) (hn : -2147483648 ≤ n ∧ n ≤ 199) : qPure l yX10_isPrime wsX10_isPrime ({ frames := 0, cells := 0, slots := 0, locals := 0 }) g [.int (iI n)] [] (fun _ => True) (some (.int (iI (prU n 198 2)))) := by
  refine q_ofP (cc := cX10_isPrime) (maxL := 2) (ret := (some .boolean)) (by decide) rfl (Nat.le_of_ble_eq_true rfl) ?_
  intro p e s m args below meth c ls S0 hr hlocks hK hP hX hl
  have hP : va_P g.1 vwCl [] s.heap := hP
  have hl : lv_has ls 2 [(0, .int (iI n))] := hl
  refine q_iconst S0 dX10_isPrime_0 ?_
  refine lv_istore_n (lv' := [(1, .int (iI 2)), (0, .int (iI n))]) S0.1 S0.2.1 dX10_isPrime_1 rfl hl (by decide) rfl (fun ls hl => ?_)
  refine q_loopP (α := Int) (fun (d9 : Int) => (2 ≤ d9 ∧ d9 ≤ 200) ∧ prU n (200 - d9).toNat d9 = prU n 198 2) (fun (d9 : Int) => (200 - d9).toNat) (fun (d9 : Int) => [(1, .int (iI d9)), (0, .int (iI n))]) ?_ 2 (by exact ⟨by omega, rfl⟩) (lv_sub hl [0, 1] rfl)
  rintro d9 hinv IHl ls hl
  try dsimp only at hinv
  have hl : lv_has ls 2 [(1, .int (iI d9)), (0, .int (iI n))] := hl
  obtain ⟨hd, heq⟩ := hinv
  refine lv_iload_n S0.1 S0.2.1 dX10_isPrime_2 rfl (lv_at hl 0 rfl) ?_
  refine q_sipush S0 (by decide) dX10_isPrime_3 ?_
  refine q_icmp_gt (tgt := 28) S0 (by omega) dX10_isPrime_6 (by decide) (fun c6 => ?_) (fun c6 => ?_)
  · skip
    refine lv_iload_n S0.1 S0.2.1 dX10_isPrime_28 rfl (lv_at hl 1 rfl) ?_
    refine q_iconst S0 dX10_isPrime_29 ?_
    refine q_icmp_lt (tgt := 37) S0 (by omega) dX10_isPrime_30 (by decide) (fun c30 => ?_) (fun c30 => ?_)
    · skip
      refine q_iconst S0 dX10_isPrime_37 ?_
      exact qp_zret S0 hr hlocks (by first | exact Or.inl rfl | exact Or.inr rfl) (by refine congrArg (fun z => some (Value.int (iI z))) (?_ : _ = _); rw [← heq]; first | exact prU_end1 (by omega) (by omega) | exact prU_end0 (by omega) (by omega)) dX10_isPrime_38
    · skip
      refine q_iconst S0 dX10_isPrime_33 ?_
      refine lv_goto (tgt := 38) S0.1 S0.2.1 dX10_isPrime_34 (by decide) ?_
      exact qp_zret S0 hr hlocks (by first | exact Or.inl rfl | exact Or.inr rfl) (by refine congrArg (fun z => some (Value.int (iI z))) (?_ : _ = _); rw [← heq]; first | exact prU_end1 (by omega) (by omega) | exact prU_end0 (by omega) (by omega)) dX10_isPrime_38
  · skip
    refine lv_iload_n S0.1 S0.2.1 dX10_isPrime_9 rfl (lv_at hl 0 rfl) ?_
    refine lv_iload_n S0.1 S0.2.1 dX10_isPrime_10 rfl (lv_at hl 1 rfl) ?_
    refine q_icmp_ge (tgt := 28) S0 (by omega) dX10_isPrime_11 (by decide) (fun c11 => ?_) (fun c11 => ?_)
    · skip
      refine lv_iload_n S0.1 S0.2.1 dX10_isPrime_28 rfl (lv_at hl 1 rfl) ?_
      refine q_iconst S0 dX10_isPrime_29 ?_
      refine q_icmp_lt (tgt := 37) S0 (by omega) dX10_isPrime_30 (by decide) (fun c30 => ?_) (fun c30 => ?_)
      · skip
        refine q_iconst S0 dX10_isPrime_37 ?_
        exact qp_zret S0 hr hlocks (by first | exact Or.inl rfl | exact Or.inr rfl) (by refine congrArg (fun z => some (Value.int (iI z))) (?_ : _ = _); rw [← heq]; first | exact prU_end1 (by omega) (by omega) | exact prU_end0 (by omega) (by omega)) dX10_isPrime_38
      · skip
        refine q_iconst S0 dX10_isPrime_33 ?_
        refine lv_goto (tgt := 38) S0.1 S0.2.1 dX10_isPrime_34 (by decide) ?_
        exact qp_zret S0 hr hlocks (by first | exact Or.inl rfl | exact Or.inr rfl) (by refine congrArg (fun z => some (Value.int (iI z))) (?_ : _ = _); rw [← heq]; first | exact prU_end1 (by omega) (by omega) | exact prU_end0 (by omega) (by omega)) dX10_isPrime_38
    · skip
      refine lv_iload_n S0.1 S0.2.1 dX10_isPrime_14 rfl (lv_at hl 1 rfl) ?_
      refine lv_iload_n S0.1 S0.2.1 dX10_isPrime_15 rfl (lv_at hl 0 rfl) ?_
      refine q_irem S0 (by omega) (by omega) dX10_isPrime_16 ?_
      refine q_if_ne (tgt := 22) S0 (by have := tmod_rng (z := n) (p := d9) (by omega); omega) dX10_isPrime_17 (by decide) (fun c17 => ?_) (fun c17 => ?_)
      · skip
        refine q_iinc (lv' := [(1, .int (iI (d9 + 1))), (0, .int (iI n))]) S0 dX10_isPrime_22 hl (k := 0) rfl (by decide) rfl (fun ls hl => ?_)
        refine lv_goto (tgt := 2) S0.1 S0.2.1 dX10_isPrime_25 (by decide) ?_
        exact IHl (d9 + 1) ls (by refine ⟨by omega, ?_⟩; rw [← heq, show (200 - d9).toNat = (200 - (d9 + 1)).toNat + 1 by omega]; symm; exact prU_step c11 (by rw [← Int.tmod_eq_emod_of_nonneg (by omega)]; exact c17)) (by (try dsimp only); omega) (lv_sub hl [0, 1] rfl)
      · skip
        refine q_iconst S0 dX10_isPrime_20 ?_
        exact qp_zret S0 hr hlocks (by first | exact Or.inl rfl | exact Or.inr rfl) (by refine congrArg (fun z => some (Value.int (iI z))) (?_ : _ = _); rw [← heq, show (200 - d9).toNat = (200 - (d9 + 1)).toNat + 1 by omega]; exact prU_hit c11 (by rw [← Int.tmod_eq_emod_of_nonneg (by omega)]; exact c17)) dX10_isPrime_21
set_option maxHeartbeats 4000000 in
set_option maxRecDepth 100000 in
theorem c_X10_valueAt (l : Launch) (g : GG) (ob tx ps ho : Nat) (so : Option Nat) (F : FT) (rk t0 q0 t1 q1 t2 q2 t3 q3 t4 q4 t5 q5 : Nat) (r : RT) (u x : Int) (hG : GF F) (hI : RI F r) (hu : 0 ≤ u ∧ u < 4) (hx : 0 ≤ x ∧ x < fP F) : qMet l yX10_valueAt wsX10_valueAt ({ frames := 60, cells := 0, slots := 0, locals := 3000 }) g [.ref ob, .int (iI u), .int (iI x)] [(ob, .inr (10, [.ref tx, .ref ps, .ref ho, .ref rk, va_rf so])), (rk, .inr (5, [.ref t0, .ref t1, .ref t2, .ref t3, .ref t4, .ref t5, .ref (fS F)])), (t0, .inr (8, [.int (iI 199), .ref q0])), (q0, gI g 796 (rV r)), (t1, .inr (8, [.int (iI 199), .ref q1])), (q1, gI g 796 (rH r)), (t2, .inr (8, [.int (iI 199), .ref q2])), (q2, gI g 796 (rR r)), (t3, .inr (8, [.int (iI 40), .ref q3])), (q3, gI g 160 (nV r)), (t4, .inr (8, [.int (iI 40), .ref q4])), (q4, gI g 160 (nS r)), (t5, .inr (8, [.int (iI 40), .ref q5])), (q5, gI g 160 (nW r))] (fun q => ¬ fzA F q) (FX g F) (S := RT) (fun u_ => some (.int (iI (vv (fP F) (fE F) u.toNat x)))) (fun u_ => [(ob, .inr (10, [.ref tx, .ref ps, .ref ho, .ref rk, va_rf so])), (rk, .inr (5, [.ref t0, .ref t1, .ref t2, .ref t3, .ref t4, .ref t5, .ref (fS F)])), (t0, .inr (8, [.int (iI 199), .ref q0])), (q0, gI g 796 (rV u_)), (t1, .inr (8, [.int (iI 199), .ref q1])), (q1, gI g 796 (rH u_)), (t2, .inr (8, [.int (iI 199), .ref q2])), (q2, gI g 796 (rR u_)), (t3, .inr (8, [.int (iI 40), .ref q3])), (q3, gI g 160 (nV u_)), (t4, .inr (8, [.int (iI 40), .ref q4])), (q4, gI g 160 (nS u_)), (t5, .inr (8, [.int (iI 40), .ref q5])), (q5, gI g 160 (nW u_))]) (fun u_ => RI F u_) 0 0 := by
  refine q_ofW (cc := cX10_valueAt) (maxL := 3) (ret := (some .int)) (fun sz h => h.self) (by decide) rfl (Nat.le_of_ble_eq_true rfl) ?_
  intro p e s m args below meth c A ls S0 hr hlocks hnme hK hA hAe hW hD0 hX hl
  have hW : gW g A s.heap s.heap [] [(ob, .inr (10, [.ref tx, .ref ps, .ref ho, .ref rk, va_rf so])), (rk, .inr (5, [.ref t0, .ref t1, .ref t2, .ref t3, .ref t4, .ref t5, .ref (fS F)])), (t0, .inr (8, [.int (iI 199), .ref q0])), (q0, gI g 796 (rV r)), (t1, .inr (8, [.int (iI 199), .ref q1])), (q1, gI g 796 (rH r)), (t2, .inr (8, [.int (iI 199), .ref q2])), (q2, gI g 796 (rR r)), (t3, .inr (8, [.int (iI 40), .ref q3])), (q3, gI g 160 (nV r)), (t4, .inr (8, [.int (iI 40), .ref q4])), (q4, gI g 160 (nS r)), (t5, .inr (8, [.int (iI 40), .ref q5])), (q5, gI g 160 (nW r))] := hW
  have hl : lv_has ls 3 [(0, .ref ob), (1, .int (iI u)), (2, .int (iI x))] := hl
  have hinX10 : ∀ w ∈ wsX100, w ∈ wsX10_valueAt := fun w h => List.mem_cons_of_mem _ (List.mem_append_left _ (List.mem_append_left _ (List.mem_append_left _ (List.mem_append_left _ (List.mem_append_left _ (List.mem_append_left _ (List.mem_append_left _ (List.mem_append_right _ h))))))))
  have hpr := GF_p hG
  have hO := fz_out hX hD0 hAe
  have hfz : ∀ (H : Heap) (locs : List Loc) (ws : va_W), gW g A s.heap H locs ws → FX g F H := fun H locs ws h => fz_stay hX hO h
  refine lv_aload_n S0.1 S0.2.1 dX10_valueAt_0 rfl (lv_at hl 0 rfl) ?_
  refine lv_iload_n S0.1 S0.2.1 dX10_valueAt_1 rfl (lv_at hl 1 rfl) ?_
  refine q_pV (n := 1) (rest := []) S0 hK (c_X10_requireFunction l g ob tx ps ho rk so u (by omega)) (subP hW.1 [0] rfl) (trivial) gX10_valueAt_X10_requireFunction rfl rfl rfl (by decide +kernel) ⟨by dsimp only; omega, by dsimp only; omega⟩ (q_recv hK hW.1 (ci := 10) (q0 := 0) rfl rfl) rfl rfl hl.1 (Nat.le_of_ble_eq_true rfl) ⟨Nat.le_of_ble_eq_true rfl, Nat.le_of_ble_eq_true rfl⟩ dX10_valueAt_2 ?_
  refine W.eq (g2 := F0 m 5 ls []) rfl ?_
  refine lv_aload_n S0.1 S0.2.1 dX10_valueAt_5 rfl (lv_at hl 0 rfl) ?_
  refine lv_iload_n S0.1 S0.2.1 dX10_valueAt_6 rfl (lv_at hl 2 rfl) ?_
  refine q_pV (n := 1) (rest := []) S0 hK (c_X10_requireNumber l g ob tx ps ho rk t0 t1 t2 t3 t4 t5 so F x (by omega) (by omega)) (subP hW.1 [0, 1] rfl) (hfz _ _ _ hW) gX10_valueAt_X10_requireNumber rfl rfl rfl (by decide +kernel) ⟨by dsimp only; omega, by dsimp only; omega⟩ (q_recv hK hW.1 (ci := 10) (q0 := 0) rfl rfl) rfl rfl hl.1 (Nat.le_of_ble_eq_true rfl) ⟨Nat.le_of_ble_eq_true rfl, Nat.le_of_ble_eq_true rfl⟩ dX10_valueAt_7 ?_
  refine W.eq (g2 := F0 m 10 ls []) rfl ?_
  refine lv_aload_n S0.1 S0.2.1 dX10_valueAt_10 rfl (lv_at hl 0 rfl) ?_
  refine q_get (C := RX10) (T := TX10) (N := 5) S0 hK hW.1 hinX10 0 rfl rfl 3 (by decide) (List.mem_of_getElem? (i := 1) rfl) rfl rfl dX10_valueAt_11 ?_
  refine lv_iload_n S0.1 S0.2.1 dX10_valueAt_14 rfl (lv_at hl 1 rfl) ?_
  refine lv_iload_n S0.1 S0.2.1 dX10_valueAt_15 rfl (lv_at hl 2 rfl) ?_
  refine q_cVN (n := 2) (rest := []) (wr := [(ob, .inr (10, [.ref tx, .ref ps, .ref ho, .ref rk, va_rf so]))]) S0 hK hA hW (VAL_all l g F hG 4 rk t0 q0 t1 q1 t2 q2 t3 q3 t4 q4 t5 q5 r u x (by omega) (by omega) (by omega) (hx) (hI)) gX10_valueAt_X5_value_n143 rfl rfl rfl 14 rfl (List.mem_of_getElem? (i := 22) rfl) (List.mem_of_getElem? (i := 37) rfl) (List.mem_of_getElem? (i := 38) rfl) (by decide +kernel) ⟨by dsimp only; omega, by dsimp only; omega⟩ [1, 2, 3, 4, 5, 6, 7, 8, 9, 10, 11, 12, 13] [0] rfl rfl rfl rfl (by decide) (q_recv hK hW.1 (ci := 5) (q0 := 1) rfl rfl) (hO) (hfz _ _ _ hW) rfl rfl hl.1 (Nat.le_of_ble_eq_true rfl) ⟨Nat.le_of_ble_eq_true rfl, Nat.le_of_ble_eq_true rfl⟩ dX10_valueAt_16 ?_
  rintro r2 H locs hp hW
  try dsimp only at hp
  have hW : gW g A s.heap H _ [(ob, .inr (10, [.ref tx, .ref ps, .ref ho, .ref rk, va_rf so])), (rk, .inr (5, [.ref t0, .ref t1, .ref t2, .ref t3, .ref t4, .ref t5, .ref (fS F)])), (t0, .inr (8, [.int (iI 199), .ref q0])), (q0, gI g 796 (rV r2)), (t1, .inr (8, [.int (iI 199), .ref q1])), (q1, gI g 796 (rH r2)), (t2, .inr (8, [.int (iI 199), .ref q2])), (q2, gI g 796 (rR r2)), (t3, .inr (8, [.int (iI 40), .ref q3])), (q3, gI g 160 (nV r2)), (t4, .inr (8, [.int (iI 40), .ref q4])), (q4, gI g 160 (nS r2)), (t5, .inr (8, [.int (iI 40), .ref q5])), (q5, gI g 160 (nW r2))] := hW
  refine W.eq (g2 := F0 m 19 ls [.int (iI (vv (fP F) (fE F) u.toNat x))]) rfl ?_
  exact q_iret S0 hr hlocks r2 (hp.1) (rfl) (hW.sub [0, 1, 2, 3, 4, 5, 6, 7, 8, 9, 10, 11, 12, 13] rfl (rfl)) (Nat.le_of_ble_eq_true rfl) (Nat.le_of_ble_eq_true rfl) dX10_valueAt_19
set_option maxHeartbeats 4000000 in
set_option maxRecDepth 100000 in
theorem c_X10_slopeByHinges (l : Launch) (g : GG) (ob tx ps ho : Nat) (so : Option Nat) (F : FT) (rk t0 q0 t1 q1 t2 q2 t3 q3 t4 q4 t5 q5 : Nat) (r : RT) (u x : Int) (hG : GF F) (hI : RI F r) (hu : 0 ≤ u ∧ u < 4) (hx : 0 ≤ x ∧ x < fP F) : qMet l yX10_slopeByHinges wsX10_slopeByHinges ({ frames := 60, cells := 0, slots := 0, locals := 3000 }) g [.ref ob, .int (iI u), .int (iI x)] [(ob, .inr (10, [.ref tx, .ref ps, .ref ho, .ref rk, va_rf so])), (rk, .inr (5, [.ref t0, .ref t1, .ref t2, .ref t3, .ref t4, .ref t5, .ref (fS F)])), (t0, .inr (8, [.int (iI 199), .ref q0])), (q0, gI g 796 (rV r)), (t1, .inr (8, [.int (iI 199), .ref q1])), (q1, gI g 796 (rH r)), (t2, .inr (8, [.int (iI 199), .ref q2])), (q2, gI g 796 (rR r)), (t3, .inr (8, [.int (iI 40), .ref q3])), (q3, gI g 160 (nV r)), (t4, .inr (8, [.int (iI 40), .ref q4])), (q4, gI g 160 (nS r)), (t5, .inr (8, [.int (iI 40), .ref q5])), (q5, gI g 160 (nW r))] (fun q => ¬ fzA F q) (FX g F) (S := RT) (fun u_ => some (.int (iI (hh (fP F) (fE F) u.toNat x)))) (fun u_ => [(ob, .inr (10, [.ref tx, .ref ps, .ref ho, .ref rk, va_rf so])), (rk, .inr (5, [.ref t0, .ref t1, .ref t2, .ref t3, .ref t4, .ref t5, .ref (fS F)])), (t0, .inr (8, [.int (iI 199), .ref q0])), (q0, gI g 796 (rV u_)), (t1, .inr (8, [.int (iI 199), .ref q1])), (q1, gI g 796 (rH u_)), (t2, .inr (8, [.int (iI 199), .ref q2])), (q2, gI g 796 (rR u_)), (t3, .inr (8, [.int (iI 40), .ref q3])), (q3, gI g 160 (nV u_)), (t4, .inr (8, [.int (iI 40), .ref q4])), (q4, gI g 160 (nS u_)), (t5, .inr (8, [.int (iI 40), .ref q5])), (q5, gI g 160 (nW u_))]) (fun u_ => RI F u_) 0 0 := by
  refine q_ofW (cc := cX10_slopeByHinges) (maxL := 3) (ret := (some .int)) (fun sz h => h.self) (by decide) rfl (Nat.le_of_ble_eq_true rfl) ?_
  intro p e s m args below meth c A ls S0 hr hlocks hnme hK hA hAe hW hD0 hX hl
  have hW : gW g A s.heap s.heap [] [(ob, .inr (10, [.ref tx, .ref ps, .ref ho, .ref rk, va_rf so])), (rk, .inr (5, [.ref t0, .ref t1, .ref t2, .ref t3, .ref t4, .ref t5, .ref (fS F)])), (t0, .inr (8, [.int (iI 199), .ref q0])), (q0, gI g 796 (rV r)), (t1, .inr (8, [.int (iI 199), .ref q1])), (q1, gI g 796 (rH r)), (t2, .inr (8, [.int (iI 199), .ref q2])), (q2, gI g 796 (rR r)), (t3, .inr (8, [.int (iI 40), .ref q3])), (q3, gI g 160 (nV r)), (t4, .inr (8, [.int (iI 40), .ref q4])), (q4, gI g 160 (nS r)), (t5, .inr (8, [.int (iI 40), .ref q5])), (q5, gI g 160 (nW r))] := hW
  have hl : lv_has ls 3 [(0, .ref ob), (1, .int (iI u)), (2, .int (iI x))] := hl
  have hinX10 : ∀ w ∈ wsX100, w ∈ wsX10_slopeByHinges := fun w h => List.mem_cons_of_mem _ (List.mem_append_left _ (List.mem_append_left _ (List.mem_append_left _ (List.mem_append_left _ (List.mem_append_left _ (List.mem_append_left _ (List.mem_append_left _ (List.mem_append_right _ h))))))))
  have hpr := GF_p hG
  have hO := fz_out hX hD0 hAe
  have hfz : ∀ (H : Heap) (locs : List Loc) (ws : va_W), gW g A s.heap H locs ws → FX g F H := fun H locs ws h => fz_stay hX hO h
  refine lv_aload_n S0.1 S0.2.1 dX10_slopeByHinges_0 rfl (lv_at hl 0 rfl) ?_
  refine lv_iload_n S0.1 S0.2.1 dX10_slopeByHinges_1 rfl (lv_at hl 1 rfl) ?_
  refine q_pV (n := 1) (rest := []) S0 hK (c_X10_requireFunction l g ob tx ps ho rk so u (by omega)) (subP hW.1 [0] rfl) (trivial) gX10_slopeByHinges_X10_requireFunction rfl rfl rfl (by decide +kernel) ⟨by dsimp only; omega, by dsimp only; omega⟩ (q_recv hK hW.1 (ci := 10) (q0 := 0) rfl rfl) rfl rfl hl.1 (Nat.le_of_ble_eq_true rfl) ⟨Nat.le_of_ble_eq_true rfl, Nat.le_of_ble_eq_true rfl⟩ dX10_slopeByHinges_2 ?_
  refine W.eq (g2 := F0 m 5 ls []) rfl ?_
  refine lv_aload_n S0.1 S0.2.1 dX10_slopeByHinges_5 rfl (lv_at hl 0 rfl) ?_
  refine lv_iload_n S0.1 S0.2.1 dX10_slopeByHinges_6 rfl (lv_at hl 2 rfl) ?_
  refine q_pV (n := 1) (rest := []) S0 hK (c_X10_requireNumber l g ob tx ps ho rk t0 t1 t2 t3 t4 t5 so F x (by omega) (by omega)) (subP hW.1 [0, 1] rfl) (hfz _ _ _ hW) gX10_slopeByHinges_X10_requireNumber rfl rfl rfl (by decide +kernel) ⟨by dsimp only; omega, by dsimp only; omega⟩ (q_recv hK hW.1 (ci := 10) (q0 := 0) rfl rfl) rfl rfl hl.1 (Nat.le_of_ble_eq_true rfl) ⟨Nat.le_of_ble_eq_true rfl, Nat.le_of_ble_eq_true rfl⟩ dX10_slopeByHinges_7 ?_
  refine W.eq (g2 := F0 m 10 ls []) rfl ?_
  refine lv_aload_n S0.1 S0.2.1 dX10_slopeByHinges_10 rfl (lv_at hl 0 rfl) ?_
  refine q_get (C := RX10) (T := TX10) (N := 5) S0 hK hW.1 hinX10 0 rfl rfl 3 (by decide) (List.mem_of_getElem? (i := 1) rfl) rfl rfl dX10_slopeByHinges_11 ?_
  refine lv_iload_n S0.1 S0.2.1 dX10_slopeByHinges_14 rfl (lv_at hl 1 rfl) ?_
  refine lv_iload_n S0.1 S0.2.1 dX10_slopeByHinges_15 rfl (lv_at hl 2 rfl) ?_
  refine q_cVN (n := 2) (rest := []) (wr := [(ob, .inr (10, [.ref tx, .ref ps, .ref ho, .ref rk, va_rf so]))]) S0 hK hA hW (HSL_all l g F hG 4 rk t0 q0 t1 q1 t2 q2 t3 q3 t4 q4 t5 q5 r u x (by omega) (by omega) (by omega) (hx) (hI)) gX10_slopeByHinges_X5_hingeSlope_n147 rfl rfl rfl 13 rfl (List.mem_of_getElem? (i := 22) rfl) (List.mem_of_getElem? (i := 37) rfl) (List.mem_of_getElem? (i := 38) rfl) (by decide +kernel) ⟨by dsimp only; omega, by dsimp only; omega⟩ [1, 2, 3, 4, 5, 6, 7, 8, 9, 10, 11, 12, 13] [0] rfl rfl rfl rfl (by decide) (q_recv hK hW.1 (ci := 5) (q0 := 1) rfl rfl) (hO) (hfz _ _ _ hW) rfl rfl hl.1 (Nat.le_of_ble_eq_true rfl) ⟨Nat.le_of_ble_eq_true rfl, Nat.le_of_ble_eq_true rfl⟩ dX10_slopeByHinges_16 ?_
  rintro r2 H locs hp hW
  try dsimp only at hp
  have hW : gW g A s.heap H _ [(ob, .inr (10, [.ref tx, .ref ps, .ref ho, .ref rk, va_rf so])), (rk, .inr (5, [.ref t0, .ref t1, .ref t2, .ref t3, .ref t4, .ref t5, .ref (fS F)])), (t0, .inr (8, [.int (iI 199), .ref q0])), (q0, gI g 796 (rV r2)), (t1, .inr (8, [.int (iI 199), .ref q1])), (q1, gI g 796 (rH r2)), (t2, .inr (8, [.int (iI 199), .ref q2])), (q2, gI g 796 (rR r2)), (t3, .inr (8, [.int (iI 40), .ref q3])), (q3, gI g 160 (nV r2)), (t4, .inr (8, [.int (iI 40), .ref q4])), (q4, gI g 160 (nS r2)), (t5, .inr (8, [.int (iI 40), .ref q5])), (q5, gI g 160 (nW r2))] := hW
  refine W.eq (g2 := F0 m 19 ls [.int (iI (hh (fP F) (fE F) u.toNat x))]) rfl ?_
  exact q_iret S0 hr hlocks r2 (hp.1) (rfl) (hW.sub [0, 1, 2, 3, 4, 5, 6, 7, 8, 9, 10, 11, 12, 13] rfl (rfl)) (Nat.le_of_ble_eq_true rfl) (Nat.le_of_ble_eq_true rfl) dX10_slopeByHinges_19
set_option maxHeartbeats 4000000 in
set_option maxRecDepth 100000 in
theorem c_X10_slopeByRules (l : Launch) (g : GG) (ob tx ps ho : Nat) (so : Option Nat) (F : FT) (rk t0 q0 t1 q1 t2 q2 t3 q3 t4 q4 t5 q5 : Nat) (r : RT) (u x : Int) (hG : GF F) (hI : RI F r) (hu : 0 ≤ u ∧ u < 4) (hx : 0 ≤ x ∧ x < fP F) : qMet l yX10_slopeByRules wsX10_slopeByRules ({ frames := 60, cells := 0, slots := 0, locals := 3000 }) g [.ref ob, .int (iI u), .int (iI x)] [(ob, .inr (10, [.ref tx, .ref ps, .ref ho, .ref rk, va_rf so])), (rk, .inr (5, [.ref t0, .ref t1, .ref t2, .ref t3, .ref t4, .ref t5, .ref (fS F)])), (t0, .inr (8, [.int (iI 199), .ref q0])), (q0, gI g 796 (rV r)), (t1, .inr (8, [.int (iI 199), .ref q1])), (q1, gI g 796 (rH r)), (t2, .inr (8, [.int (iI 199), .ref q2])), (q2, gI g 796 (rR r)), (t3, .inr (8, [.int (iI 40), .ref q3])), (q3, gI g 160 (nV r)), (t4, .inr (8, [.int (iI 40), .ref q4])), (q4, gI g 160 (nS r)), (t5, .inr (8, [.int (iI 40), .ref q5])), (q5, gI g 160 (nW r))] (fun q => ¬ fzA F q) (FX g F) (S := RT) (fun u_ => some (.int (iI (hh (fP F) (fE F) u.toNat x)))) (fun u_ => [(ob, .inr (10, [.ref tx, .ref ps, .ref ho, .ref rk, va_rf so])), (rk, .inr (5, [.ref t0, .ref t1, .ref t2, .ref t3, .ref t4, .ref t5, .ref (fS F)])), (t0, .inr (8, [.int (iI 199), .ref q0])), (q0, gI g 796 (rV u_)), (t1, .inr (8, [.int (iI 199), .ref q1])), (q1, gI g 796 (rH u_)), (t2, .inr (8, [.int (iI 199), .ref q2])), (q2, gI g 796 (rR u_)), (t3, .inr (8, [.int (iI 40), .ref q3])), (q3, gI g 160 (nV u_)), (t4, .inr (8, [.int (iI 40), .ref q4])), (q4, gI g 160 (nS u_)), (t5, .inr (8, [.int (iI 40), .ref q5])), (q5, gI g 160 (nW u_))]) (fun u_ => RI F u_) 0 0 := by
  refine q_ofW (cc := cX10_slopeByRules) (maxL := 3) (ret := (some .int)) (fun sz h => h.self) (by decide) rfl (Nat.le_of_ble_eq_true rfl) ?_
  intro p e s m args below meth c A ls S0 hr hlocks hnme hK hA hAe hW hD0 hX hl
  have hW : gW g A s.heap s.heap [] [(ob, .inr (10, [.ref tx, .ref ps, .ref ho, .ref rk, va_rf so])), (rk, .inr (5, [.ref t0, .ref t1, .ref t2, .ref t3, .ref t4, .ref t5, .ref (fS F)])), (t0, .inr (8, [.int (iI 199), .ref q0])), (q0, gI g 796 (rV r)), (t1, .inr (8, [.int (iI 199), .ref q1])), (q1, gI g 796 (rH r)), (t2, .inr (8, [.int (iI 199), .ref q2])), (q2, gI g 796 (rR r)), (t3, .inr (8, [.int (iI 40), .ref q3])), (q3, gI g 160 (nV r)), (t4, .inr (8, [.int (iI 40), .ref q4])), (q4, gI g 160 (nS r)), (t5, .inr (8, [.int (iI 40), .ref q5])), (q5, gI g 160 (nW r))] := hW
  have hl : lv_has ls 3 [(0, .ref ob), (1, .int (iI u)), (2, .int (iI x))] := hl
  have hinX10 : ∀ w ∈ wsX100, w ∈ wsX10_slopeByRules := fun w h => List.mem_cons_of_mem _ (List.mem_append_left _ (List.mem_append_left _ (List.mem_append_left _ (List.mem_append_left _ (List.mem_append_left _ (List.mem_append_left _ (List.mem_append_left _ (List.mem_append_right _ h))))))))
  have hpr := GF_p hG
  have hO := fz_out hX hD0 hAe
  have hfz : ∀ (H : Heap) (locs : List Loc) (ws : va_W), gW g A s.heap H locs ws → FX g F H := fun H locs ws h => fz_stay hX hO h
  refine lv_aload_n S0.1 S0.2.1 dX10_slopeByRules_0 rfl (lv_at hl 0 rfl) ?_
  refine lv_iload_n S0.1 S0.2.1 dX10_slopeByRules_1 rfl (lv_at hl 1 rfl) ?_
  refine q_pV (n := 1) (rest := []) S0 hK (c_X10_requireFunction l g ob tx ps ho rk so u (by omega)) (subP hW.1 [0] rfl) (trivial) gX10_slopeByRules_X10_requireFunction rfl rfl rfl (by decide +kernel) ⟨by dsimp only; omega, by dsimp only; omega⟩ (q_recv hK hW.1 (ci := 10) (q0 := 0) rfl rfl) rfl rfl hl.1 (Nat.le_of_ble_eq_true rfl) ⟨Nat.le_of_ble_eq_true rfl, Nat.le_of_ble_eq_true rfl⟩ dX10_slopeByRules_2 ?_
  refine W.eq (g2 := F0 m 5 ls []) rfl ?_
  refine lv_aload_n S0.1 S0.2.1 dX10_slopeByRules_5 rfl (lv_at hl 0 rfl) ?_
  refine lv_iload_n S0.1 S0.2.1 dX10_slopeByRules_6 rfl (lv_at hl 2 rfl) ?_
  refine q_pV (n := 1) (rest := []) S0 hK (c_X10_requireNumber l g ob tx ps ho rk t0 t1 t2 t3 t4 t5 so F x (by omega) (by omega)) (subP hW.1 [0, 1] rfl) (hfz _ _ _ hW) gX10_slopeByRules_X10_requireNumber rfl rfl rfl (by decide +kernel) ⟨by dsimp only; omega, by dsimp only; omega⟩ (q_recv hK hW.1 (ci := 10) (q0 := 0) rfl rfl) rfl rfl hl.1 (Nat.le_of_ble_eq_true rfl) ⟨Nat.le_of_ble_eq_true rfl, Nat.le_of_ble_eq_true rfl⟩ dX10_slopeByRules_7 ?_
  refine W.eq (g2 := F0 m 10 ls []) rfl ?_
  refine lv_aload_n S0.1 S0.2.1 dX10_slopeByRules_10 rfl (lv_at hl 0 rfl) ?_
  refine q_get (C := RX10) (T := TX10) (N := 5) S0 hK hW.1 hinX10 0 rfl rfl 3 (by decide) (List.mem_of_getElem? (i := 1) rfl) rfl rfl dX10_slopeByRules_11 ?_
  refine lv_iload_n S0.1 S0.2.1 dX10_slopeByRules_14 rfl (lv_at hl 1 rfl) ?_
  refine lv_iload_n S0.1 S0.2.1 dX10_slopeByRules_15 rfl (lv_at hl 2 rfl) ?_
  refine q_cVN (n := 2) (rest := []) (wr := [(ob, .inr (10, [.ref tx, .ref ps, .ref ho, .ref rk, va_rf so]))]) S0 hK hA hW (RSL_all l g F hG 4 (by omega) rk t0 q0 t1 q1 t2 q2 t3 q3 t4 q4 t5 q5 r u x (by omega) (by omega) (by omega) (hx) (hI)) gX10_slopeByRules_X5_ruleSlope_n150 rfl rfl rfl 12 rfl (List.mem_of_getElem? (i := 22) rfl) (List.mem_of_getElem? (i := 37) rfl) (List.mem_of_getElem? (i := 38) rfl) (by decide +kernel) ⟨by dsimp only; omega, by dsimp only; omega⟩ [1, 2, 3, 4, 5, 6, 7, 8, 9, 10, 11, 12, 13] [0] rfl rfl rfl rfl (by decide) (q_recv hK hW.1 (ci := 5) (q0 := 1) rfl rfl) (hO) (hfz _ _ _ hW) rfl rfl hl.1 (Nat.le_of_ble_eq_true rfl) ⟨Nat.le_of_ble_eq_true rfl, Nat.le_of_ble_eq_true rfl⟩ dX10_slopeByRules_16 ?_
  rintro r2 H locs hp hW
  try dsimp only at hp
  have hW : gW g A s.heap H _ [(ob, .inr (10, [.ref tx, .ref ps, .ref ho, .ref rk, va_rf so])), (rk, .inr (5, [.ref t0, .ref t1, .ref t2, .ref t3, .ref t4, .ref t5, .ref (fS F)])), (t0, .inr (8, [.int (iI 199), .ref q0])), (q0, gI g 796 (rV r2)), (t1, .inr (8, [.int (iI 199), .ref q1])), (q1, gI g 796 (rH r2)), (t2, .inr (8, [.int (iI 199), .ref q2])), (q2, gI g 796 (rR r2)), (t3, .inr (8, [.int (iI 40), .ref q3])), (q3, gI g 160 (nV r2)), (t4, .inr (8, [.int (iI 40), .ref q4])), (q4, gI g 160 (nS r2)), (t5, .inr (8, [.int (iI 40), .ref q5])), (q5, gI g 160 (nW r2))] := hW
  refine W.eq (g2 := F0 m 19 ls [.int (iI (hh (fP F) (fE F) u.toNat x))]) rfl ?_
  exact q_iret S0 hr hlocks r2 (hp.1) (rfl) (hW.sub [0, 1, 2, 3, 4, 5, 6, 7, 8, 9, 10, 11, 12, 13] rfl (rfl)) (Nat.le_of_ble_eq_true rfl) (Nat.le_of_ble_eq_true rfl) dX10_slopeByRules_19
