/-- how often f is v, from i on, k times -/
def cnu (f : Int → Int) (v : Int) : Nat → Int → Int → Int
  | 0, _, c => c
  | k + 1, i, c => cnu f v k (i + 1) (if f i = v then c + 1 else c)
theorem cnu_hit {f : Int → Int} {v i c : Int} {k : Nat} (h : f i = v) : cnu f v (k + 1) i c = cnu f v k (i + 1) (c + 1) := by
  show cnu f v k (i + 1) (if f i = v then c + 1 else c) = _
  rw [if_pos h]
theorem cnu_miss {f : Int → Int} {v i c : Int} {k : Nat} (h : ¬ f i = v) : cnu f v (k + 1) i c = cnu f v k (i + 1) c := by
  show cnu f v k (i + 1) (if f i = v then c + 1 else c) = _
  rw [if_neg h]
/-- the first place from i on where f is 0 -/
def ffu (f : Int → Int) : Nat → Int → Int
  | 0, _ => -1
  | k + 1, i => if f i = 0 then i else ffu f k (i + 1)
theorem ffu_hit {f : Int → Int} {i : Int} {k : Nat} (h : f i = 0) : ffu f (k + 1) i = i := if_pos h
theorem ffu_miss {f : Int → Int} {i : Int} {k : Nat} (h : ¬ f i = 0) : ffu f (k + 1) i = ffu f k (i + 1) := if_neg h
/-- whether f and h are the same from i on -/
def equ (f h : Int → Int) : Nat → Int → Int
  | 0, _ => 1
  | k + 1, i => if f i = h i then equ f h k (i + 1) else 0
theorem equ_step {f h : Int → Int} {i : Int} {k : Nat} (e : f i = h i) : equ f h (k + 1) i = equ f h k (i + 1) := if_pos e
theorem equ_no {f h : Int → Int} {i : Int} {k : Nat} (e : ¬ f i = h i) : equ f h (k + 1) i = 0 := if_neg e
/-- the next place on the way to a root; the steps to it -/
def nxF (F : FT) (u x : Int) : Int := if vv (fP F) (fE F) u.toNat x = -1 ∨ hh (fP F) (fE F) u.toNat x = 0 then -1 else (x - vv (fP F) (fE F) u.toNat x * inv' (fP F) (hh (fP F) (fE F) u.toNat x) % fP F) % fP F
theorem nxF_rng {F : FT} (h : GF F) {u x : Int} : nxF F u x = -1 ∨ (0 ≤ nxF F u x ∧ nxF F u x < fP F) := by
  have hp := GF_p h
  unfold nxF
  split
  · exact Or.inl rfl
  · exact Or.inr (emod_rng _ (by omega))
def sru (V N : Int → Int) : Nat → Int → Int → Int
  | 0, _, _ => -1
  | k + 1, i, a => if a = -1 then -1 else if V a = 0 then i else sru V N k (i + 1) (N a)
theorem sru_hit {V N : Int → Int} {i a : Int} {k : Nat} (h : ¬ a = -1) (h2 : V a = 0) : sru V N (k + 1) i a = i := by
  show (if a = -1 then _ else if V a = 0 then i else _) = _
  rw [if_neg h, if_pos h2]
theorem sru_go {V N : Int → Int} {i a : Int} {k : Nat} (h : ¬ a = -1) (h2 : ¬ V a = 0) : sru V N (k + 1) i a = sru V N k (i + 1) (N a) := by
  show (if a = -1 then _ else if V a = 0 then i else _) = _
  rw [if_neg h, if_neg h2]
theorem sru_none {V N : Int → Int} {i a : Int} {k : Nat} (h : a = -1) : sru V N k i a = -1 := by
  cases k with
  | zero => rfl
  | succ k => show (if a = -1 then _ else _) = _; rw [if_pos h]

set_option maxHeartbeats 4000000 in
set_option maxRecDepth 100000 in
theorem c_X10_countValues (l : Launch) (g : GG) (ob tx ps ho : Nat) (so : Option Nat) (F : FT) (rk t0 q0 t1 q1 t2 q2 t3 q3 t4 q4 t5 q5 : Nat) (r : RT) (u v : Int) (hG : GF F) (hI : RI F r) (hu : 0 ≤ u ∧ u < 4) (hv : -1 ≤ v ∧ v ≤ 0) : qMet l yX10_countValues wsX10_countValues ({ frames := 50, cells := 0, slots := 0, locals := 2000 }) g [.ref ob, .int (iI u), .int (iI v)] [(ob, .inr (10, [.ref tx, .ref ps, .ref ho, .ref rk, va_rf so])), (rk, .inr (5, [.ref t0, .ref t1, .ref t2, .ref t3, .ref t4, .ref t5, .ref (fS F)])), (t0, .inr (8, [.int (iI 199), .ref q0])), (q0, gI g 796 (rV r)), (t1, .inr (8, [.int (iI 199), .ref q1])), (q1, gI g 796 (rH r)), (t2, .inr (8, [.int (iI 199), .ref q2])), (q2, gI g 796 (rR r)), (t3, .inr (8, [.int (iI 40), .ref q3])), (q3, gI g 160 (nV r)), (t4, .inr (8, [.int (iI 40), .ref q4])), (q4, gI g 160 (nS r)), (t5, .inr (8, [.int (iI 40), .ref q5])), (q5, gI g 160 (nW r))] (fun q => ¬ fzA F q) (FX g F) (S := RT) (fun u_ => some (.int (iI (cnu (vv (fP F) (fE F) u.toNat) v (fP F).toNat 0 0)))) (fun u_ => [(ob, .inr (10, [.ref tx, .ref ps, .ref ho, .ref rk, va_rf so])), (rk, .inr (5, [.ref t0, .ref t1, .ref t2, .ref t3, .ref t4, .ref t5, .ref (fS F)])), (t0, .inr (8, [.int (iI 199), .ref q0])), (q0, gI g 796 (rV u_)), (t1, .inr (8, [.int (iI 199), .ref q1])), (q1, gI g 796 (rH u_)), (t2, .inr (8, [.int (iI 199), .ref q2])), (q2, gI g 796 (rR u_)), (t3, .inr (8, [.int (iI 40), .ref q3])), (q3, gI g 160 (nV u_)), (t4, .inr (8, [.int (iI 40), .ref q4])), (q4, gI g 160 (nS u_)), (t5, .inr (8, [.int (iI 40), .ref q5])), (q5, gI g 160 (nW u_))]) (fun u_ => RI F u_) 0 0 := by
  refine q_ofW (cc := cX10_countValues) (maxL := 5) (ret := (some .int)) (fun sz h => h.self) (by decide) rfl (Nat.le_of_ble_eq_true rfl) ?_
  intro p e s m args below meth c A ls S0 hr hlocks hnme hK hA hAe hW hD0 hX hl
  have hW : gW g A s.heap s.heap [] [(ob, .inr (10, [.ref tx, .ref ps, .ref ho, .ref rk, va_rf so])), (rk, .inr (5, [.ref t0, .ref t1, .ref t2, .ref t3, .ref t4, .ref t5, .ref (fS F)])), (t0, .inr (8, [.int (iI 199), .ref q0])), (q0, gI g 796 (rV r)), (t1, .inr (8, [.int (iI 199), .ref q1])), (q1, gI g 796 (rH r)), (t2, .inr (8, [.int (iI 199), .ref q2])), (q2, gI g 796 (rR r)), (t3, .inr (8, [.int (iI 40), .ref q3])), (q3, gI g 160 (nV r)), (t4, .inr (8, [.int (iI 40), .ref q4])), (q4, gI g 160 (nS r)), (t5, .inr (8, [.int (iI 40), .ref q5])), (q5, gI g 160 (nW r))] := hW
  have hl : lv_has ls 5 [(0, .ref ob), (1, .int (iI u)), (2, .int (iI v))] := hl
  have hinX10 : ∀ w ∈ wsX100, w ∈ wsX10_countValues := fun w h => List.mem_cons_of_mem _ (List.mem_append_left _ (List.mem_append_left _ (List.mem_append_left _ (List.mem_append_left _ (List.mem_append_left _ (List.mem_append_right _ h))))))
  have hpr := GF_p hG
  have hO := fz_out hX hD0 hAe
  have hfz : ∀ (H : Heap) (locs : List Loc) (ws : va_W), gW g A s.heap H locs ws → FX g F H := fun H locs ws h => fz_stay hX hO h
  have hpr9 := GF_p hG
  refine q_iconst S0 dX10_countValues_0 ?_
  refine lv_istore_n (lv' := [(3, .int (iI 0)), (0, .ref ob), (1, .int (iI u)), (2, .int (iI v))]) S0.1 S0.2.1 dX10_countValues_1 rfl hl (by decide) rfl (fun ls hl => ?_)
  refine q_iconst S0 dX10_countValues_2 ?_
  refine lv_istore (lv' := [(4, .int (iI 0)), (3, .int (iI 0)), (0, .ref ob), (1, .int (iI u)), (2, .int (iI v))]) S0.1 S0.2.1 dX10_countValues_3 hl (by decide) rfl (fun ls hl => ?_)
  refine q_loop (α := Int × Int × RT) (fun (z_ : Int × Int × RT) => match z_ with | (i, cn, r1) => RI F r1 ∧ (0 ≤ i ∧ i ≤ fP F) ∧ (0 ≤ cn ∧ cn ≤ i) ∧ cnu (vv (fP F) (fE F) u.toNat) v (fP F - i).toNat i cn = cnu (vv (fP F) (fE F) u.toNat) v (fP F).toNat 0 0) (fun (z_ : Int × Int × RT) => match z_ with | (i, cn, r1) => (fP F - i).toNat) (fun (z_ : Int × Int × RT) => match z_ with | (i, cn, r1) => [(ob, .inr (10, [.ref tx, .ref ps, .ref ho, .ref rk, va_rf so])), (rk, .inr (5, [.ref t0, .ref t1, .ref t2, .ref t3, .ref t4, .ref t5, .ref (fS F)])), (t0, .inr (8, [.int (iI 199), .ref q0])), (q0, gI g 796 (rV r1)), (t1, .inr (8, [.int (iI 199), .ref q1])), (q1, gI g 796 (rH r1)), (t2, .inr (8, [.int (iI 199), .ref q2])), (q2, gI g 796 (rR r1)), (t3, .inr (8, [.int (iI 40), .ref q3])), (q3, gI g 160 (nV r1)), (t4, .inr (8, [.int (iI 40), .ref q4])), (q4, gI g 160 (nS r1)), (t5, .inr (8, [.int (iI 40), .ref q5])), (q5, gI g 160 (nW r1))]) (fun (z_ : Int × Int × RT) => match z_ with | (i, cn, r1) => [(4, .int (iI i)), (3, .int (iI cn)), (0, .ref ob), (1, .int (iI u)), (2, .int (iI v))]) ?_ (0, 0, r) (by exact ⟨hI, by omega, by omega, by rw [show fP F - 0 = fP F by omega]⟩) hW (lv_sub hl [0, 1, 2, 3, 4] rfl)
  rintro ⟨i, cn, r1⟩ hinv IHl H locs ls hW hl
  try dsimp only at hinv
  have hW : gW g A s.heap H _ [(ob, .inr (10, [.ref tx, .ref ps, .ref ho, .ref rk, va_rf so])), (rk, .inr (5, [.ref t0, .ref t1, .ref t2, .ref t3, .ref t4, .ref t5, .ref (fS F)])), (t0, .inr (8, [.int (iI 199), .ref q0])), (q0, gI g 796 (rV r1)), (t1, .inr (8, [.int (iI 199), .ref q1])), (q1, gI g 796 (rH r1)), (t2, .inr (8, [.int (iI 199), .ref q2])), (q2, gI g 796 (rR r1)), (t3, .inr (8, [.int (iI 40), .ref q3])), (q3, gI g 160 (nV r1)), (t4, .inr (8, [.int (iI 40), .ref q4])), (q4, gI g 160 (nS r1)), (t5, .inr (8, [.int (iI 40), .ref q5])), (q5, gI g 160 (nW r1))] := hW
  have hl : lv_has ls 5 [(4, .int (iI i)), (3, .int (iI cn)), (0, .ref ob), (1, .int (iI u)), (2, .int (iI v))] := hl
  obtain ⟨hI1, hi, hcn, heq⟩ := hinv
  refine lv_iload S0.1 S0.2.1 dX10_countValues_5 (lv_at hl 0 rfl) ?_
  refine lv_aload_n S0.1 S0.2.1 dX10_countValues_7 rfl (lv_at hl 2 rfl) ?_
  refine q_pV (n := 0) (rest := [.int (iI i)]) S0 hK (c_X10_prime l g ob tx ps ho rk t0 t1 t2 t3 t4 t5 so F) (subP hW.1 [0, 1] rfl) (hfz _ _ _ hW) gX10_countValues_X10_prime rfl rfl rfl (by decide +kernel) ⟨by dsimp only; omega, by dsimp only; omega⟩ (q_recv hK hW.1 (ci := 10) (q0 := 0) rfl rfl) rfl rfl hl.1 (Nat.le_of_ble_eq_true rfl) ⟨Nat.le_of_ble_eq_true rfl, Nat.le_of_ble_eq_true rfl⟩ dX10_countValues_8 ?_
  refine W.eq (g2 := F0 m 11 ls [.int (iI (fP F)), .int (iI i)]) rfl ?_
  refine q_icmp_ge (tgt := 37) S0 (by omega) dX10_countValues_11 (by decide) (fun c11 => ?_) (fun c11 => ?_)
  · skip
    refine lv_iload_n S0.1 S0.2.1 dX10_countValues_37 rfl (lv_at hl 1 rfl) ?_
    exact q_iret S0 hr hlocks r1 (hI1) (by rw [← heq, show (fP F - i).toNat = 0 by omega]; rfl) (hW.sub [0, 1, 2, 3, 4, 5, 6, 7, 8, 9, 10, 11, 12, 13] rfl (rfl)) (Nat.le_of_ble_eq_true rfl) (Nat.le_of_ble_eq_true rfl) dX10_countValues_38
  · skip
    refine lv_aload_n S0.1 S0.2.1 dX10_countValues_14 rfl (lv_at hl 2 rfl) ?_
    refine q_get (C := RX10) (T := TX10) (N := 5) S0 hK hW.1 hinX10 0 rfl rfl 3 (by decide) (List.mem_of_getElem? (i := 1) rfl) rfl rfl dX10_countValues_15 ?_
    refine lv_iload_n S0.1 S0.2.1 dX10_countValues_18 rfl (lv_at hl 3 rfl) ?_
    refine lv_iload S0.1 S0.2.1 dX10_countValues_19 (lv_at hl 0 rfl) ?_
    refine q_cVN (n := 2) (rest := []) (wr := [(ob, .inr (10, [.ref tx, .ref ps, .ref ho, .ref rk, va_rf so]))]) S0 hK hA hW (VAL_all l g F hG 4 rk t0 q0 t1 q1 t2 q2 t3 q3 t4 q4 t5 q5 r1 u i (by omega) (by omega) (by omega) (by omega) (hI1)) gX10_countValues_X5_value_n143 rfl rfl rfl 14 rfl (List.mem_of_getElem? (i := 10) rfl) (List.mem_of_getElem? (i := 25) rfl) (List.mem_of_getElem? (i := 26) rfl) (by decide +kernel) ⟨by dsimp only; omega, by dsimp only; omega⟩ [1, 2, 3, 4, 5, 6, 7, 8, 9, 10, 11, 12, 13] [0] rfl rfl rfl rfl (by decide) (q_recv hK hW.1 (ci := 5) (q0 := 1) rfl rfl) (hO) (hfz _ _ _ hW) rfl rfl hl.1 (Nat.le_of_ble_eq_true rfl) ⟨Nat.le_of_ble_eq_true rfl, Nat.le_of_ble_eq_true rfl⟩ dX10_countValues_21 ?_
    rintro r2 H locs hp hW
    try dsimp only at hp
    have hW : gW g A s.heap H _ [(ob, .inr (10, [.ref tx, .ref ps, .ref ho, .ref rk, va_rf so])), (rk, .inr (5, [.ref t0, .ref t1, .ref t2, .ref t3, .ref t4, .ref t5, .ref (fS F)])), (t0, .inr (8, [.int (iI 199), .ref q0])), (q0, gI g 796 (rV r2)), (t1, .inr (8, [.int (iI 199), .ref q1])), (q1, gI g 796 (rH r2)), (t2, .inr (8, [.int (iI 199), .ref q2])), (q2, gI g 796 (rR r2)), (t3, .inr (8, [.int (iI 40), .ref q3])), (q3, gI g 160 (nV r2)), (t4, .inr (8, [.int (iI 40), .ref q4])), (q4, gI g 160 (nS r2)), (t5, .inr (8, [.int (iI 40), .ref q5])), (q5, gI g 160 (nW r2))] := hW
    refine W.eq (g2 := F0 m 24 ls [.int (iI (vv (fP F) (fE F) u.toNat i))]) rfl ?_
    refine q_nm (fun w9 hw9 => ?_)
    have hI2 := hp.1
    have hvr := GF_vv hG hu (x := i) (by omega)
    rw [← hw9] at hvr
    refine lv_iload_n S0.1 S0.2.1 dX10_countValues_24 rfl (lv_at hl 4 rfl) ?_
    refine q_icmp_ne (tgt := 31) S0 (by omega) dX10_countValues_25 (by decide) (fun c25 => ?_) (fun c25 => ?_)
    · skip
      refine q_iinc (lv' := [(4, .int (iI (i + 1))), (3, .int (iI cn)), (0, .ref ob), (1, .int (iI u)), (2, .int (iI v))]) S0 dX10_countValues_31 hl (k := 0) rfl (by decide) rfl (fun ls hl => ?_)
      refine lv_goto (tgt := 5) S0.1 S0.2.1 dX10_countValues_34 (by decide) ?_
      exact IHl (i + 1, cn, r2) H locs ls (by refine ⟨hI2, by omega, by omega, ?_⟩; rw [← heq, show (fP F - i).toNat = (fP F - (i + 1)).toNat + 1 by omega]; symm; first | exact cnu_hit (by omega) | exact cnu_miss (by omega)) (by (try dsimp only); omega) hW (lv_sub hl [0, 1, 2, 3, 4] rfl)
    · skip
      refine q_iinc (lv' := [(3, .int (iI (cn + 1))), (4, .int (iI i)), (0, .ref ob), (1, .int (iI u)), (2, .int (iI v))]) S0 dX10_countValues_28 hl (k := 1) rfl (by decide) rfl (fun ls hl => ?_)
      refine q_iinc (lv' := [(4, .int (iI (i + 1))), (3, .int (iI (cn + 1))), (0, .ref ob), (1, .int (iI u)), (2, .int (iI v))]) S0 dX10_countValues_31 hl (k := 1) rfl (by decide) rfl (fun ls hl => ?_)
      refine lv_goto (tgt := 5) S0.1 S0.2.1 dX10_countValues_34 (by decide) ?_
      exact IHl (i + 1, cn + 1, r2) H locs ls (by refine ⟨hI2, by omega, by omega, ?_⟩; rw [← heq, show (fP F - i).toNat = (fP F - (i + 1)).toNat + 1 by omega]; symm; first | exact cnu_hit (by omega) | exact cnu_miss (by omega)) (by (try dsimp only); omega) hW (lv_sub hl [0, 1, 2, 3, 4] rfl)
set_option maxHeartbeats 4000000 in
set_option maxRecDepth 100000 in
theorem c_X10_bansOf (l : Launch) (g : GG) (ob tx ps ho : Nat) (so : Option Nat) (F : FT) (rk t0 q0 t1 q1 t2 q2 t3 q3 t4 q4 t5 q5 : Nat) (r : RT) (u : Int) (hG : GF F) (hI : RI F r) (hu : 0 ≤ u ∧ u < 4) : qMet l yX10_bansOf wsX10_bansOf ({ frames := 60, cells := 0, slots := 0, locals := 3000 }) g [.ref ob, .int (iI u)] [(ob, .inr (10, [.ref tx, .ref ps, .ref ho, .ref rk, va_rf so])), (rk, .inr (5, [.ref t0, .ref t1, .ref t2, .ref t3, .ref t4, .ref t5, .ref (fS F)])), (t0, .inr (8, [.int (iI 199), .ref q0])), (q0, gI g 796 (rV r)), (t1, .inr (8, [.int (iI 199), .ref q1])), (q1, gI g 796 (rH r)), (t2, .inr (8, [.int (iI 199), .ref q2])), (q2, gI g 796 (rR r)), (t3, .inr (8, [.int (iI 40), .ref q3])), (q3, gI g 160 (nV r)), (t4, .inr (8, [.int (iI 40), .ref q4])), (q4, gI g 160 (nS r)), (t5, .inr (8, [.int (iI 40), .ref q5])), (q5, gI g 160 (nW r))] (fun q => ¬ fzA F q) (FX g F) (S := RT) (fun u_ => some (.int (iI (cnu (vv (fP F) (fE F) u.toNat) (-1) (fP F).toNat 0 0)))) (fun u_ => [(ob, .inr (10, [.ref tx, .ref ps, .ref ho, .ref rk, va_rf so])), (rk, .inr (5, [.ref t0, .ref t1, .ref t2, .ref t3, .ref t4, .ref t5, .ref (fS F)])), (t0, .inr (8, [.int (iI 199), .ref q0])), (q0, gI g 796 (rV u_)), (t1, .inr (8, [.int (iI 199), .ref q1])), (q1, gI g 796 (rH u_)), (t2, .inr (8, [.int (iI 199), .ref q2])), (q2, gI g 796 (rR u_)), (t3, .inr (8, [.int (iI 40), .ref q3])), (q3, gI g 160 (nV u_)), (t4, .inr (8, [.int (iI 40), .ref q4])), (q4, gI g 160 (nS u_)), (t5, .inr (8, [.int (iI 40), .ref q5])), (q5, gI g 160 (nW u_))]) (fun u_ => RI F u_) 0 0 := by
  refine q_ofW (cc := cX10_bansOf) (maxL := 2) (ret := (some .int)) (fun sz h => h.self) (by decide) rfl (Nat.le_of_ble_eq_true rfl) ?_
  intro p e s m args below meth c A ls S0 hr hlocks hnme hK hA hAe hW hD0 hX hl
  have hW : gW g A s.heap s.heap [] [(ob, .inr (10, [.ref tx, .ref ps, .ref ho, .ref rk, va_rf so])), (rk, .inr (5, [.ref t0, .ref t1, .ref t2, .ref t3, .ref t4, .ref t5, .ref (fS F)])), (t0, .inr (8, [.int (iI 199), .ref q0])), (q0, gI g 796 (rV r)), (t1, .inr (8, [.int (iI 199), .ref q1])), (q1, gI g 796 (rH r)), (t2, .inr (8, [.int (iI 199), .ref q2])), (q2, gI g 796 (rR r)), (t3, .inr (8, [.int (iI 40), .ref q3])), (q3, gI g 160 (nV r)), (t4, .inr (8, [.int (iI 40), .ref q4])), (q4, gI g 160 (nS r)), (t5, .inr (8, [.int (iI 40), .ref q5])), (q5, gI g 160 (nW r))] := hW
  have hl : lv_has ls 2 [(0, .ref ob), (1, .int (iI u))] := hl
  have hpr := GF_p hG
  have hO := fz_out hX hD0 hAe
  have hfz : ∀ (H : Heap) (locs : List Loc) (ws : va_W), gW g A s.heap H locs ws → FX g F H := fun H locs ws h => fz_stay hX hO h
  refine lv_aload_n S0.1 S0.2.1 dX10_bansOf_0 rfl (lv_at hl 0 rfl) ?_
  refine lv_iload_n S0.1 S0.2.1 dX10_bansOf_1 rfl (lv_at hl 1 rfl) ?_
  refine q_pV (n := 1) (rest := []) S0 hK (c_X10_requireFunction l g ob tx ps ho rk so u (by omega)) (subP hW.1 [0] rfl) (trivial) gX10_bansOf_X10_requireFunction rfl rfl rfl (by decide +kernel) ⟨by dsimp only; omega, by dsimp only; omega⟩ (q_recv hK hW.1 (ci := 10) (q0 := 0) rfl rfl) rfl rfl hl.1 (Nat.le_of_ble_eq_true rfl) ⟨Nat.le_of_ble_eq_true rfl, Nat.le_of_ble_eq_true rfl⟩ dX10_bansOf_2 ?_
  refine W.eq (g2 := F0 m 5 ls []) rfl ?_
  refine lv_aload_n S0.1 S0.2.1 dX10_bansOf_5 rfl (lv_at hl 0 rfl) ?_
  refine lv_iload_n S0.1 S0.2.1 dX10_bansOf_6 rfl (lv_at hl 1 rfl) ?_
  refine q_iconst S0 dX10_bansOf_7 ?_
  refine q_cV (n := 2) (rest := []) (wr := []) S0 hK hA hW (c_X10_countValues l g ob tx ps ho so F rk t0 q0 t1 q1 t2 q2 t3 q3 t4 q4 t5 q5 r u ((-1)) (hG) (hI) (by omega) (by omega)) gX10_bansOf_X10_countValues rfl rfl rfl (by decide +kernel) ⟨by dsimp only; omega, by dsimp only; omega⟩ [0, 1, 2, 3, 4, 5, 6, 7, 8, 9, 10, 11, 12, 13] [] rfl rfl rfl rfl (by decide) (q_recv hK hW.1 (ci := 10) (q0 := 0) rfl rfl) (hO) (hfz _ _ _ hW) rfl rfl hl.1 (Nat.le_of_ble_eq_true rfl) ⟨Nat.le_of_ble_eq_true rfl, Nat.le_of_ble_eq_true rfl⟩ dX10_bansOf_8 ?_
  rintro r2 H locs hp hW
  try dsimp only at hp
  have hW : gW g A s.heap H _ [(ob, .inr (10, [.ref tx, .ref ps, .ref ho, .ref rk, va_rf so])), (rk, .inr (5, [.ref t0, .ref t1, .ref t2, .ref t3, .ref t4, .ref t5, .ref (fS F)])), (t0, .inr (8, [.int (iI 199), .ref q0])), (q0, gI g 796 (rV r2)), (t1, .inr (8, [.int (iI 199), .ref q1])), (q1, gI g 796 (rH r2)), (t2, .inr (8, [.int (iI 199), .ref q2])), (q2, gI g 796 (rR r2)), (t3, .inr (8, [.int (iI 40), .ref q3])), (q3, gI g 160 (nV r2)), (t4, .inr (8, [.int (iI 40), .ref q4])), (q4, gI g 160 (nS r2)), (t5, .inr (8, [.int (iI 40), .ref q5])), (q5, gI g 160 (nW r2))] := hW
  refine W.eq (g2 := F0 m 11 ls [.int (iI (cnu (vv (fP F) (fE F) u.toNat) ((-1)) (fP F).toNat 0 0))]) rfl ?_
  exact q_iret S0 hr hlocks r2 (hp) (rfl) (hW.sub [0, 1, 2, 3, 4, 5, 6, 7, 8, 9, 10, 11, 12, 13] rfl (rfl)) (Nat.le_of_ble_eq_true rfl) (Nat.le_of_ble_eq_true rfl) dX10_bansOf_11
set_option maxHeartbeats 4000000 in
set_option maxRecDepth 100000 in
theorem c_X10_rootsOf (l : Launch) (g : GG) (ob tx ps ho : Nat) (so : Option Nat) (F : FT) (rk t0 q0 t1 q1 t2 q2 t3 q3 t4 q4 t5 q5 : Nat) (r : RT) (u : Int) (hG : GF F) (hI : RI F r) (hu : 0 ≤ u ∧ u < 4) : qMet l yX10_rootsOf wsX10_rootsOf ({ frames := 60, cells := 0, slots := 0, locals := 3000 }) g [.ref ob, .int (iI u)] [(ob, .inr (10, [.ref tx, .ref ps, .ref ho, .ref rk, va_rf so])), (rk, .inr (5, [.ref t0, .ref t1, .ref t2, .ref t3, .ref t4, .ref t5, .ref (fS F)])), (t0, .inr (8, [.int (iI 199), .ref q0])), (q0, gI g 796 (rV r)), (t1, .inr (8, [.int (iI 199), .ref q1])), (q1, gI g 796 (rH r)), (t2, .inr (8, [.int (iI 199), .ref q2])), (q2, gI g 796 (rR r)), (t3, .inr (8, [.int (iI 40), .ref q3])), (q3, gI g 160 (nV r)), (t4, .inr (8, [.int (iI 40), .ref q4])), (q4, gI g 160 (nS r)), (t5, .inr (8, [.int (iI 40), .ref q5])), (q5, gI g 160 (nW r))] (fun q => ¬ fzA F q) (FX g F) (S := RT) (fun u_ => some (.int (iI (cnu (vv (fP F) (fE F) u.toNat) 0 (fP F).toNat 0 0)))) (fun u_ => [(ob, .inr (10, [.ref tx, .ref ps, .ref ho, .ref rk, va_rf so])), (rk, .inr (5, [.ref t0, .ref t1, .ref t2, .ref t3, .ref t4, .ref t5, .ref (fS F)])), (t0, .inr (8, [.int (iI 199), .ref q0])), (q0, gI g 796 (rV u_)), (t1, .inr (8, [.int (iI 199), .ref q1])), (q1, gI g 796 (rH u_)), (t2, .inr (8, [.int (iI 199), .ref q2])), (q2, gI g 796 (rR u_)), (t3, .inr (8, [.int (iI 40), .ref q3])), (q3, gI g 160 (nV u_)), (t4, .inr (8, [.int (iI 40), .ref q4])), (q4, gI g 160 (nS u_)), (t5, .inr (8, [.int (iI 40), .ref q5])), (q5, gI g 160 (nW u_))]) (fun u_ => RI F u_) 0 0 := by
  refine q_ofW (cc := cX10_rootsOf) (maxL := 2) (ret := (some .int)) (fun sz h => h.self) (by decide) rfl (Nat.le_of_ble_eq_true rfl) ?_
  intro p e s m args below meth c A ls S0 hr hlocks hnme hK hA hAe hW hD0 hX hl
  have hW : gW g A s.heap s.heap [] [(ob, .inr (10, [.ref tx, .ref ps, .ref ho, .ref rk, va_rf so])), (rk, .inr (5, [.ref t0, .ref t1, .ref t2, .ref t3, .ref t4, .ref t5, .ref (fS F)])), (t0, .inr (8, [.int (iI 199), .ref q0])), (q0, gI g 796 (rV r)), (t1, .inr (8, [.int (iI 199), .ref q1])), (q1, gI g 796 (rH r)), (t2, .inr (8, [.int (iI 199), .ref q2])), (q2, gI g 796 (rR r)), (t3, .inr (8, [.int (iI 40), .ref q3])), (q3, gI g 160 (nV r)), (t4, .inr (8, [.int (iI 40), .ref q4])), (q4, gI g 160 (nS r)), (t5, .inr (8, [.int (iI 40), .ref q5])), (q5, gI g 160 (nW r))] := hW
  have hl : lv_has ls 2 [(0, .ref ob), (1, .int (iI u))] := hl
  have hpr := GF_p hG
  have hO := fz_out hX hD0 hAe
  have hfz : ∀ (H : Heap) (locs : List Loc) (ws : va_W), gW g A s.heap H locs ws → FX g F H := fun H locs ws h => fz_stay hX hO h
  refine lv_aload_n S0.1 S0.2.1 dX10_rootsOf_0 rfl (lv_at hl 0 rfl) ?_
  refine lv_iload_n S0.1 S0.2.1 dX10_rootsOf_1 rfl (lv_at hl 1 rfl) ?_
  refine q_pV (n := 1) (rest := []) S0 hK (c_X10_requireFunction l g ob tx ps ho rk so u (by omega)) (subP hW.1 [0] rfl) (trivial) gX10_rootsOf_X10_requireFunction rfl rfl rfl (by decide +kernel) ⟨by dsimp only; omega, by dsimp only; omega⟩ (q_recv hK hW.1 (ci := 10) (q0 := 0) rfl rfl) rfl rfl hl.1 (Nat.le_of_ble_eq_true rfl) ⟨Nat.le_of_ble_eq_true rfl, Nat.le_of_ble_eq_true rfl⟩ dX10_rootsOf_2 ?_
  refine W.eq (g2 := F0 m 5 ls []) rfl ?_
  refine lv_aload_n S0.1 S0.2.1 dX10_rootsOf_5 rfl (lv_at hl 0 rfl) ?_
  refine lv_iload_n S0.1 S0.2.1 dX10_rootsOf_6 rfl (lv_at hl 1 rfl) ?_
  refine q_iconst S0 dX10_rootsOf_7 ?_
  refine q_cV (n := 2) (rest := []) (wr := []) S0 hK hA hW (c_X10_countValues l g ob tx ps ho so F rk t0 q0 t1 q1 t2 q2 t3 q3 t4 q4 t5 q5 r u 0 (hG) (hI) (by omega) (by omega)) gX10_rootsOf_X10_countValues rfl rfl rfl (by decide +kernel) ⟨by dsimp only; omega, by dsimp only; omega⟩ [0, 1, 2, 3, 4, 5, 6, 7, 8, 9, 10, 11, 12, 13] [] rfl rfl rfl rfl (by decide) (q_recv hK hW.1 (ci := 10) (q0 := 0) rfl rfl) (hO) (hfz _ _ _ hW) rfl rfl hl.1 (Nat.le_of_ble_eq_true rfl) ⟨Nat.le_of_ble_eq_true rfl, Nat.le_of_ble_eq_true rfl⟩ dX10_rootsOf_8 ?_
  rintro r2 H locs hp hW
  try dsimp only at hp
  have hW : gW g A s.heap H _ [(ob, .inr (10, [.ref tx, .ref ps, .ref ho, .ref rk, va_rf so])), (rk, .inr (5, [.ref t0, .ref t1, .ref t2, .ref t3, .ref t4, .ref t5, .ref (fS F)])), (t0, .inr (8, [.int (iI 199), .ref q0])), (q0, gI g 796 (rV r2)), (t1, .inr (8, [.int (iI 199), .ref q1])), (q1, gI g 796 (rH r2)), (t2, .inr (8, [.int (iI 199), .ref q2])), (q2, gI g 796 (rR r2)), (t3, .inr (8, [.int (iI 40), .ref q3])), (q3, gI g 160 (nV r2)), (t4, .inr (8, [.int (iI 40), .ref q4])), (q4, gI g 160 (nS r2)), (t5, .inr (8, [.int (iI 40), .ref q5])), (q5, gI g 160 (nW r2))] := hW
  refine W.eq (g2 := F0 m 11 ls [.int (iI (cnu (vv (fP F) (fE F) u.toNat) 0 (fP F).toNat 0 0))]) rfl ?_
  exact q_iret S0 hr hlocks r2 (hp) (rfl) (hW.sub [0, 1, 2, 3, 4, 5, 6, 7, 8, 9, 10, 11, 12, 13] rfl (rfl)) (Nat.le_of_ble_eq_true rfl) (Nat.le_of_ble_eq_true rfl) dX10_rootsOf_11
set_option maxHeartbeats 4000000 in
set_option maxRecDepth 100000 in
theorem c_X10_flatsOf (l : Launch) (g : GG) (ob tx ps ho : Nat) (so : Option Nat) (F : FT) (rk t0 q0 t1 q1 t2 q2 t3 q3 t4 q4 t5 q5 : Nat) (r : RT) (u : Int) (hG : GF F) (hI : RI F r) (hu : 0 ≤ u ∧ u < 4) : qMet l yX10_flatsOf wsX10_flatsOf ({ frames := 60, cells := 0, slots := 0, locals := 3000 }) g [.ref ob, .int (iI u)] [(ob, .inr (10, [.ref tx, .ref ps, .ref ho, .ref rk, va_rf so])), (rk, .inr (5, [.ref t0, .ref t1, .ref t2, .ref t3, .ref t4, .ref t5, .ref (fS F)])), (t0, .inr (8, [.int (iI 199), .ref q0])), (q0, gI g 796 (rV r)), (t1, .inr (8, [.int (iI 199), .ref q1])), (q1, gI g 796 (rH r)), (t2, .inr (8, [.int (iI 199), .ref q2])), (q2, gI g 796 (rR r)), (t3, .inr (8, [.int (iI 40), .ref q3])), (q3, gI g 160 (nV r)), (t4, .inr (8, [.int (iI 40), .ref q4])), (q4, gI g 160 (nS r)), (t5, .inr (8, [.int (iI 40), .ref q5])), (q5, gI g 160 (nW r))] (fun q => ¬ fzA F q) (FX g F) (S := RT) (fun u_ => some (.int (iI (cnu (hh (fP F) (fE F) u.toNat) 0 (fP F).toNat 0 0)))) (fun u_ => [(ob, .inr (10, [.ref tx, .ref ps, .ref ho, .ref rk, va_rf so])), (rk, .inr (5, [.ref t0, .ref t1, .ref t2, .ref t3, .ref t4, .ref t5, .ref (fS F)])), (t0, .inr (8, [.int (iI 199), .ref q0])), (q0, gI g 796 (rV u_)), (t1, .inr (8, [.int (iI 199), .ref q1])), (q1, gI g 796 (rH u_)), (t2, .inr (8, [.int (iI 199), .ref q2])), (q2, gI g 796 (rR u_)), (t3, .inr (8, [.int (iI 40), .ref q3])), (q3, gI g 160 (nV u_)), (t4, .inr (8, [.int (iI 40), .ref q4])), (q4, gI g 160 (nS u_)), (t5, .inr (8, [.int (iI 40), .ref q5])), (q5, gI g 160 (nW u_))]) (fun u_ => RI F u_) 0 0 := by
  refine q_ofW (cc := cX10_flatsOf) (maxL := 4) (ret := (some .int)) (fun sz h => h.self) (by decide) rfl (Nat.le_of_ble_eq_true rfl) ?_
  intro p e s m args below meth c A ls S0 hr hlocks hnme hK hA hAe hW hD0 hX hl
  have hW : gW g A s.heap s.heap [] [(ob, .inr (10, [.ref tx, .ref ps, .ref ho, .ref rk, va_rf so])), (rk, .inr (5, [.ref t0, .ref t1, .ref t2, .ref t3, .ref t4, .ref t5, .ref (fS F)])), (t0, .inr (8, [.int (iI 199), .ref q0])), (q0, gI g 796 (rV r)), (t1, .inr (8, [.int (iI 199), .ref q1])), (q1, gI g 796 (rH r)), (t2, .inr (8, [.int (iI 199), .ref q2])), (q2, gI g 796 (rR r)), (t3, .inr (8, [.int (iI 40), .ref q3])), (q3, gI g 160 (nV r)), (t4, .inr (8, [.int (iI 40), .ref q4])), (q4, gI g 160 (nS r)), (t5, .inr (8, [.int (iI 40), .ref q5])), (q5, gI g 160 (nW r))] := hW
  have hl : lv_has ls 4 [(0, .ref ob), (1, .int (iI u))] := hl
  have hinX10 : ∀ w ∈ wsX100, w ∈ wsX10_flatsOf := fun w h => List.mem_cons_of_mem _ (List.mem_append_left _ (List.mem_append_left _ (List.mem_append_left _ (List.mem_append_left _ (List.mem_append_left _ (List.mem_append_left _ (List.mem_append_right _ h)))))))
  have hpr := GF_p hG
  have hO := fz_out hX hD0 hAe
  have hfz : ∀ (H : Heap) (locs : List Loc) (ws : va_W), gW g A s.heap H locs ws → FX g F H := fun H locs ws h => fz_stay hX hO h
  refine lv_aload_n S0.1 S0.2.1 dX10_flatsOf_0 rfl (lv_at hl 0 rfl) ?_
  refine lv_iload_n S0.1 S0.2.1 dX10_flatsOf_1 rfl (lv_at hl 1 rfl) ?_
  refine q_pV (n := 1) (rest := []) S0 hK (c_X10_requireFunction l g ob tx ps ho rk so u (by omega)) (subP hW.1 [0] rfl) (trivial) gX10_flatsOf_X10_requireFunction rfl rfl rfl (by decide +kernel) ⟨by dsimp only; omega, by dsimp only; omega⟩ (q_recv hK hW.1 (ci := 10) (q0 := 0) rfl rfl) rfl rfl hl.1 (Nat.le_of_ble_eq_true rfl) ⟨Nat.le_of_ble_eq_true rfl, Nat.le_of_ble_eq_true rfl⟩ dX10_flatsOf_2 ?_
  refine W.eq (g2 := F0 m 5 ls []) rfl ?_
  refine q_iconst S0 dX10_flatsOf_5 ?_
  refine lv_istore_n (lv' := [(2, .int (iI 0)), (0, .ref ob), (1, .int (iI u))]) S0.1 S0.2.1 dX10_flatsOf_6 rfl hl (by decide) rfl (fun ls hl => ?_)
  refine q_iconst S0 dX10_flatsOf_7 ?_
  refine lv_istore_n (lv' := [(3, .int (iI 0)), (2, .int (iI 0)), (0, .ref ob), (1, .int (iI u))]) S0.1 S0.2.1 dX10_flatsOf_8 rfl hl (by decide) rfl (fun ls hl => ?_)
  refine q_loop (α := Int × Int × RT) (fun (z_ : Int × Int × RT) => match z_ with | (i, cn, r1) => RI F r1 ∧ (0 ≤ i ∧ i ≤ fP F) ∧ (0 ≤ cn ∧ cn ≤ i) ∧ cnu (hh (fP F) (fE F) u.toNat) 0 (fP F - i).toNat i cn = cnu (hh (fP F) (fE F) u.toNat) 0 (fP F).toNat 0 0) (fun (z_ : Int × Int × RT) => match z_ with | (i, cn, r1) => (fP F - i).toNat) (fun (z_ : Int × Int × RT) => match z_ with | (i, cn, r1) => [(ob, .inr (10, [.ref tx, .ref ps, .ref ho, .ref rk, va_rf so])), (rk, .inr (5, [.ref t0, .ref t1, .ref t2, .ref t3, .ref t4, .ref t5, .ref (fS F)])), (t0, .inr (8, [.int (iI 199), .ref q0])), (q0, gI g 796 (rV r1)), (t1, .inr (8, [.int (iI 199), .ref q1])), (q1, gI g 796 (rH r1)), (t2, .inr (8, [.int (iI 199), .ref q2])), (q2, gI g 796 (rR r1)), (t3, .inr (8, [.int (iI 40), .ref q3])), (q3, gI g 160 (nV r1)), (t4, .inr (8, [.int (iI 40), .ref q4])), (q4, gI g 160 (nS r1)), (t5, .inr (8, [.int (iI 40), .ref q5])), (q5, gI g 160 (nW r1))]) (fun (z_ : Int × Int × RT) => match z_ with | (i, cn, r1) => [(3, .int (iI i)), (2, .int (iI cn)), (0, .ref ob), (1, .int (iI u))]) ?_ (0, 0, r) (by exact ⟨hI, by omega, by omega, by rw [show fP F - 0 = fP F by omega]⟩) hW (lv_sub hl [0, 1, 2, 3] rfl)
  rintro ⟨i, cn, r1⟩ hinv IHl H locs ls hW hl
  try dsimp only at hinv
  have hW : gW g A s.heap H _ [(ob, .inr (10, [.ref tx, .ref ps, .ref ho, .ref rk, va_rf so])), (rk, .inr (5, [.ref t0, .ref t1, .ref t2, .ref t3, .ref t4, .ref t5, .ref (fS F)])), (t0, .inr (8, [.int (iI 199), .ref q0])), (q0, gI g 796 (rV r1)), (t1, .inr (8, [.int (iI 199), .ref q1])), (q1, gI g 796 (rH r1)), (t2, .inr (8, [.int (iI 199), .ref q2])), (q2, gI g 796 (rR r1)), (t3, .inr (8, [.int (iI 40), .ref q3])), (q3, gI g 160 (nV r1)), (t4, .inr (8, [.int (iI 40), .ref q4])), (q4, gI g 160 (nS r1)), (t5, .inr (8, [.int (iI 40), .ref q5])), (q5, gI g 160 (nW r1))] := hW
  have hl : lv_has ls 4 [(3, .int (iI i)), (2, .int (iI cn)), (0, .ref ob), (1, .int (iI u))] := hl
  obtain ⟨hI1, hi, hcn, heq⟩ := hinv
  refine lv_iload_n S0.1 S0.2.1 dX10_flatsOf_9 rfl (lv_at hl 0 rfl) ?_
  refine lv_aload_n S0.1 S0.2.1 dX10_flatsOf_10 rfl (lv_at hl 2 rfl) ?_
  refine q_pV (n := 0) (rest := [.int (iI i)]) S0 hK (c_X10_prime l g ob tx ps ho rk t0 t1 t2 t3 t4 t5 so F) (subP hW.1 [0, 1] rfl) (hfz _ _ _ hW) gX10_flatsOf_X10_prime rfl rfl rfl (by decide +kernel) ⟨by dsimp only; omega, by dsimp only; omega⟩ (q_recv hK hW.1 (ci := 10) (q0 := 0) rfl rfl) rfl rfl hl.1 (Nat.le_of_ble_eq_true rfl) ⟨Nat.le_of_ble_eq_true rfl, Nat.le_of_ble_eq_true rfl⟩ dX10_flatsOf_11 ?_
  refine W.eq (g2 := F0 m 14 ls [.int (iI (fP F)), .int (iI i)]) rfl ?_
  refine q_icmp_ge (tgt := 38) S0 (by omega) dX10_flatsOf_14 (by decide) (fun c14 => ?_) (fun c14 => ?_)
  · skip
    refine lv_iload_n S0.1 S0.2.1 dX10_flatsOf_38 rfl (lv_at hl 1 rfl) ?_
    exact q_iret S0 hr hlocks r1 (hI1) (by rw [← heq, show (fP F - i).toNat = 0 by omega]; rfl) (hW.sub [0, 1, 2, 3, 4, 5, 6, 7, 8, 9, 10, 11, 12, 13] rfl (rfl)) (Nat.le_of_ble_eq_true rfl) (Nat.le_of_ble_eq_true rfl) dX10_flatsOf_39
  · skip
    refine lv_aload_n S0.1 S0.2.1 dX10_flatsOf_17 rfl (lv_at hl 2 rfl) ?_
    refine q_get (C := RX10) (T := TX10) (N := 5) S0 hK hW.1 hinX10 0 rfl rfl 3 (by decide) (List.mem_of_getElem? (i := 1) rfl) rfl rfl dX10_flatsOf_18 ?_
    refine lv_iload_n S0.1 S0.2.1 dX10_flatsOf_21 rfl (lv_at hl 3 rfl) ?_
    refine lv_iload_n S0.1 S0.2.1 dX10_flatsOf_22 rfl (lv_at hl 0 rfl) ?_
    refine q_cVN (n := 2) (rest := []) (wr := [(ob, .inr (10, [.ref tx, .ref ps, .ref ho, .ref rk, va_rf so]))]) S0 hK hA hW (HSL_all l g F hG 4 rk t0 q0 t1 q1 t2 q2 t3 q3 t4 q4 t5 q5 r1 u i (by omega) (by omega) (by omega) (by omega) (hI1)) gX10_flatsOf_X5_hingeSlope_n147 rfl rfl rfl 13 rfl (List.mem_of_getElem? (i := 16) rfl) (List.mem_of_getElem? (i := 31) rfl) (List.mem_of_getElem? (i := 32) rfl) (by decide +kernel) ⟨by dsimp only; omega, by dsimp only; omega⟩ [1, 2, 3, 4, 5, 6, 7, 8, 9, 10, 11, 12, 13] [0] rfl rfl rfl rfl (by decide) (q_recv hK hW.1 (ci := 5) (q0 := 1) rfl rfl) (hO) (hfz _ _ _ hW) rfl rfl hl.1 (Nat.le_of_ble_eq_true rfl) ⟨Nat.le_of_ble_eq_true rfl, Nat.le_of_ble_eq_true rfl⟩ dX10_flatsOf_23 ?_
    rintro r2 H locs hp hW
    try dsimp only at hp
    have hW : gW g A s.heap H _ [(ob, .inr (10, [.ref tx, .ref ps, .ref ho, .ref rk, va_rf so])), (rk, .inr (5, [.ref t0, .ref t1, .ref t2, .ref t3, .ref t4, .ref t5, .ref (fS F)])), (t0, .inr (8, [.int (iI 199), .ref q0])), (q0, gI g 796 (rV r2)), (t1, .inr (8, [.int (iI 199), .ref q1])), (q1, gI g 796 (rH r2)), (t2, .inr (8, [.int (iI 199), .ref q2])), (q2, gI g 796 (rR r2)), (t3, .inr (8, [.int (iI 40), .ref q3])), (q3, gI g 160 (nV r2)), (t4, .inr (8, [.int (iI 40), .ref q4])), (q4, gI g 160 (nS r2)), (t5, .inr (8, [.int (iI 40), .ref q5])), (q5, gI g 160 (nW r2))] := hW
    refine W.eq (g2 := F0 m 26 ls [.int (iI (hh (fP F) (fE F) u.toNat i))]) rfl ?_
    refine q_nm (fun w9 hw9 => ?_)
    have hI2 := hp.1
    have hvr := GF_hh hG (f := u.toNat) (x := i) (by omega)
    rw [← hw9] at hvr
    refine q_if_ne (tgt := 32) S0 (by omega) dX10_flatsOf_26 (by decide) (fun c26 => ?_) (fun c26 => ?_)
    · skip
      refine q_iinc (lv' := [(3, .int (iI (i + 1))), (2, .int (iI cn)), (0, .ref ob), (1, .int (iI u))]) S0 dX10_flatsOf_32 hl (k := 0) rfl (by decide) rfl (fun ls hl => ?_)
      refine lv_goto (tgt := 9) S0.1 S0.2.1 dX10_flatsOf_35 (by decide) ?_
      exact IHl (i + 1, cn, r2) H locs ls (by refine ⟨hI2, by omega, by omega, ?_⟩; rw [← heq, show (fP F - i).toNat = (fP F - (i + 1)).toNat + 1 by omega]; symm; first | exact cnu_hit (by omega) | exact cnu_miss (by omega)) (by (try dsimp only); omega) hW (lv_sub hl [0, 1, 2, 3] rfl)
    · skip
      refine q_iinc (lv' := [(2, .int (iI (cn + 1))), (3, .int (iI i)), (0, .ref ob), (1, .int (iI u))]) S0 dX10_flatsOf_29 hl (k := 1) rfl (by decide) rfl (fun ls hl => ?_)
      refine q_iinc (lv' := [(3, .int (iI (i + 1))), (2, .int (iI (cn + 1))), (0, .ref ob), (1, .int (iI u))]) S0 dX10_flatsOf_32 hl (k := 1) rfl (by decide) rfl (fun ls hl => ?_)
      refine lv_goto (tgt := 9) S0.1 S0.2.1 dX10_flatsOf_35 (by decide) ?_
      exact IHl (i + 1, cn + 1, r2) H locs ls (by refine ⟨hI2, by omega, by omega, ?_⟩; rw [← heq, show (fP F - i).toNat = (fP F - (i + 1)).toNat + 1 by omega]; symm; first | exact cnu_hit (by omega) | exact cnu_miss (by omega)) (by (try dsimp only); omega) hW (lv_sub hl [0, 1, 2, 3] rfl)
set_option maxHeartbeats 4000000 in
set_option maxRecDepth 100000 in
theorem c_X10_firstFlat (l : Launch) (g : GG) (ob tx ps ho : Nat) (so : Option Nat) (F : FT) (rk t0 q0 t1 q1 t2 q2 t3 q3 t4 q4 t5 q5 : Nat) (r : RT) (u : Int) (hG : GF F) (hI : RI F r) (hu : 0 ≤ u ∧ u < 4) : qMet l yX10_firstFlat wsX10_firstFlat ({ frames := 60, cells := 0, slots := 0, locals := 3000 }) g [.ref ob, .int (iI u)] [(ob, .inr (10, [.ref tx, .ref ps, .ref ho, .ref rk, va_rf so])), (rk, .inr (5, [.ref t0, .ref t1, .ref t2, .ref t3, .ref t4, .ref t5, .ref (fS F)])), (t0, .inr (8, [.int (iI 199), .ref q0])), (q0, gI g 796 (rV r)), (t1, .inr (8, [.int (iI 199), .ref q1])), (q1, gI g 796 (rH r)), (t2, .inr (8, [.int (iI 199), .ref q2])), (q2, gI g 796 (rR r)), (t3, .inr (8, [.int (iI 40), .ref q3])), (q3, gI g 160 (nV r)), (t4, .inr (8, [.int (iI 40), .ref q4])), (q4, gI g 160 (nS r)), (t5, .inr (8, [.int (iI 40), .ref q5])), (q5, gI g 160 (nW r))] (fun q => ¬ fzA F q) (FX g F) (S := RT) (fun u_ => some (.int (iI (ffu (hh (fP F) (fE F) u.toNat) (fP F).toNat 0)))) (fun u_ => [(ob, .inr (10, [.ref tx, .ref ps, .ref ho, .ref rk, va_rf so])), (rk, .inr (5, [.ref t0, .ref t1, .ref t2, .ref t3, .ref t4, .ref t5, .ref (fS F)])), (t0, .inr (8, [.int (iI 199), .ref q0])), (q0, gI g 796 (rV u_)), (t1, .inr (8, [.int (iI 199), .ref q1])), (q1, gI g 796 (rH u_)), (t2, .inr (8, [.int (iI 199), .ref q2])), (q2, gI g 796 (rR u_)), (t3, .inr (8, [.int (iI 40), .ref q3])), (q3, gI g 160 (nV u_)), (t4, .inr (8, [.int (iI 40), .ref q4])), (q4, gI g 160 (nS u_)), (t5, .inr (8, [.int (iI 40), .ref q5])), (q5, gI g 160 (nW u_))]) (fun u_ => RI F u_) 0 0 := by
  refine q_ofW (cc := cX10_firstFlat) (maxL := 3) (ret := (some .int)) (fun sz h => h.self) (by decide) rfl (Nat.le_of_ble_eq_true rfl) ?_
  intro p e s m args below meth c A ls S0 hr hlocks hnme hK hA hAe hW hD0 hX hl
  have hW : gW g A s.heap s.heap [] [(ob, .inr (10, [.ref tx, .ref ps, .ref ho, .ref rk, va_rf so])), (rk, .inr (5, [.ref t0, .ref t1, .ref t2, .ref t3, .ref t4, .ref t5, .ref (fS F)])), (t0, .inr (8, [.int (iI 199), .ref q0])), (q0, gI g 796 (rV r)), (t1, .inr (8, [.int (iI 199), .ref q1])), (q1, gI g 796 (rH r)), (t2, .inr (8, [.int (iI 199), .ref q2])), (q2, gI g 796 (rR r)), (t3, .inr (8, [.int (iI 40), .ref q3])), (q3, gI g 160 (nV r)), (t4, .inr (8, [.int (iI 40), .ref q4])), (q4, gI g 160 (nS r)), (t5, .inr (8, [.int (iI 40), .ref q5])), (q5, gI g 160 (nW r))] := hW
  have hl : lv_has ls 3 [(0, .ref ob), (1, .int (iI u))] := hl
  have hinX10 : ∀ w ∈ wsX100, w ∈ wsX10_firstFlat := fun w h => List.mem_cons_of_mem _ (List.mem_append_left _ (List.mem_append_left _ (List.mem_append_left _ (List.mem_append_left _ (List.mem_append_left _ (List.mem_append_left _ (List.mem_append_right _ h)))))))
  have hpr := GF_p hG
  have hO := fz_out hX hD0 hAe
  have hfz : ∀ (H : Heap) (locs : List Loc) (ws : va_W), gW g A s.heap H locs ws → FX g F H := fun H locs ws h => fz_stay hX hO h
  have hpr9 := GF_p hG
  refine lv_aload_n S0.1 S0.2.1 dX10_firstFlat_0 rfl (lv_at hl 0 rfl) ?_
  refine lv_iload_n S0.1 S0.2.1 dX10_firstFlat_1 rfl (lv_at hl 1 rfl) ?_
  refine q_pV (n := 1) (rest := []) S0 hK (c_X10_requireFunction l g ob tx ps ho rk so u (by omega)) (subP hW.1 [0] rfl) (trivial) gX10_firstFlat_X10_requireFunction rfl rfl rfl (by decide +kernel) ⟨by dsimp only; omega, by dsimp only; omega⟩ (q_recv hK hW.1 (ci := 10) (q0 := 0) rfl rfl) rfl rfl hl.1 (Nat.le_of_ble_eq_true rfl) ⟨Nat.le_of_ble_eq_true rfl, Nat.le_of_ble_eq_true rfl⟩ dX10_firstFlat_2 ?_
  refine W.eq (g2 := F0 m 5 ls []) rfl ?_
  refine q_iconst S0 dX10_firstFlat_5 ?_
  refine lv_istore_n (lv' := [(2, .int (iI 0)), (0, .ref ob), (1, .int (iI u))]) S0.1 S0.2.1 dX10_firstFlat_6 rfl hl (by decide) rfl (fun ls hl => ?_)
  refine q_loop (α := Int × RT) (fun (z_ : Int × RT) => match z_ with | (i, r1) => RI F r1 ∧ (0 ≤ i ∧ i ≤ fP F) ∧ ffu (hh (fP F) (fE F) u.toNat) (fP F - i).toNat i = ffu (hh (fP F) (fE F) u.toNat) (fP F).toNat 0) (fun (z_ : Int × RT) => match z_ with | (i, r1) => (fP F - i).toNat) (fun (z_ : Int × RT) => match z_ with | (i, r1) => [(ob, .inr (10, [.ref tx, .ref ps, .ref ho, .ref rk, va_rf so])), (rk, .inr (5, [.ref t0, .ref t1, .ref t2, .ref t3, .ref t4, .ref t5, .ref (fS F)])), (t0, .inr (8, [.int (iI 199), .ref q0])), (q0, gI g 796 (rV r1)), (t1, .inr (8, [.int (iI 199), .ref q1])), (q1, gI g 796 (rH r1)), (t2, .inr (8, [.int (iI 199), .ref q2])), (q2, gI g 796 (rR r1)), (t3, .inr (8, [.int (iI 40), .ref q3])), (q3, gI g 160 (nV r1)), (t4, .inr (8, [.int (iI 40), .ref q4])), (q4, gI g 160 (nS r1)), (t5, .inr (8, [.int (iI 40), .ref q5])), (q5, gI g 160 (nW r1))]) (fun (z_ : Int × RT) => match z_ with | (i, r1) => [(2, .int (iI i)), (0, .ref ob), (1, .int (iI u))]) ?_ (0, r) (by exact ⟨hI, by omega, by rw [show fP F - 0 = fP F by omega]⟩) hW (lv_sub hl [0, 1, 2] rfl)
  rintro ⟨i, r1⟩ hinv IHl H locs ls hW hl
  try dsimp only at hinv
  have hW : gW g A s.heap H _ [(ob, .inr (10, [.ref tx, .ref ps, .ref ho, .ref rk, va_rf so])), (rk, .inr (5, [.ref t0, .ref t1, .ref t2, .ref t3, .ref t4, .ref t5, .ref (fS F)])), (t0, .inr (8, [.int (iI 199), .ref q0])), (q0, gI g 796 (rV r1)), (t1, .inr (8, [.int (iI 199), .ref q1])), (q1, gI g 796 (rH r1)), (t2, .inr (8, [.int (iI 199), .ref q2])), (q2, gI g 796 (rR r1)), (t3, .inr (8, [.int (iI 40), .ref q3])), (q3, gI g 160 (nV r1)), (t4, .inr (8, [.int (iI 40), .ref q4])), (q4, gI g 160 (nS r1)), (t5, .inr (8, [.int (iI 40), .ref q5])), (q5, gI g 160 (nW r1))] := hW
  have hl : lv_has ls 3 [(2, .int (iI i)), (0, .ref ob), (1, .int (iI u))] := hl
  obtain ⟨hI1, hi, heq⟩ := hinv
  refine lv_iload_n S0.1 S0.2.1 dX10_firstFlat_7 rfl (lv_at hl 0 rfl) ?_
  refine lv_aload_n S0.1 S0.2.1 dX10_firstFlat_8 rfl (lv_at hl 1 rfl) ?_
  refine q_pV (n := 0) (rest := [.int (iI i)]) S0 hK (c_X10_prime l g ob tx ps ho rk t0 t1 t2 t3 t4 t5 so F) (subP hW.1 [0, 1] rfl) (hfz _ _ _ hW) gX10_firstFlat_X10_prime rfl rfl rfl (by decide +kernel) ⟨by dsimp only; omega, by dsimp only; omega⟩ (q_recv hK hW.1 (ci := 10) (q0 := 0) rfl rfl) rfl rfl hl.1 (Nat.le_of_ble_eq_true rfl) ⟨Nat.le_of_ble_eq_true rfl, Nat.le_of_ble_eq_true rfl⟩ dX10_firstFlat_9 ?_
  refine W.eq (g2 := F0 m 12 ls [.int (iI (fP F)), .int (iI i)]) rfl ?_
  refine q_icmp_ge (tgt := 35) S0 (by omega) dX10_firstFlat_12 (by decide) (fun c12 => ?_) (fun c12 => ?_)
  · skip
    refine q_iconst S0 dX10_firstFlat_35 ?_
    exact q_iret S0 hr hlocks r1 (hI1) (by rw [← heq, show (fP F - i).toNat = 0 by omega]; rfl) (hW.sub [0, 1, 2, 3, 4, 5, 6, 7, 8, 9, 10, 11, 12, 13] rfl (rfl)) (Nat.le_of_ble_eq_true rfl) (Nat.le_of_ble_eq_true rfl) dX10_firstFlat_36
  · skip
    refine lv_aload_n S0.1 S0.2.1 dX10_firstFlat_15 rfl (lv_at hl 1 rfl) ?_
    refine q_get (C := RX10) (T := TX10) (N := 5) S0 hK hW.1 hinX10 0 rfl rfl 3 (by decide) (List.mem_of_getElem? (i := 1) rfl) rfl rfl dX10_firstFlat_16 ?_
    refine lv_iload_n S0.1 S0.2.1 dX10_firstFlat_19 rfl (lv_at hl 2 rfl) ?_
    refine lv_iload_n S0.1 S0.2.1 dX10_firstFlat_20 rfl (lv_at hl 0 rfl) ?_
    refine q_cVN (n := 2) (rest := []) (wr := [(ob, .inr (10, [.ref tx, .ref ps, .ref ho, .ref rk, va_rf so]))]) S0 hK hA hW (HSL_all l g F hG 4 rk t0 q0 t1 q1 t2 q2 t3 q3 t4 q4 t5 q5 r1 u i (by omega) (by omega) (by omega) (by omega) (hI1)) gX10_firstFlat_X5_hingeSlope_n147 rfl rfl rfl 13 rfl (List.mem_of_getElem? (i := 16) rfl) (List.mem_of_getElem? (i := 31) rfl) (List.mem_of_getElem? (i := 32) rfl) (by decide +kernel) ⟨by dsimp only; omega, by dsimp only; omega⟩ [1, 2, 3, 4, 5, 6, 7, 8, 9, 10, 11, 12, 13] [0] rfl rfl rfl rfl (by decide) (q_recv hK hW.1 (ci := 5) (q0 := 1) rfl rfl) (hO) (hfz _ _ _ hW) rfl rfl hl.1 (Nat.le_of_ble_eq_true rfl) ⟨Nat.le_of_ble_eq_true rfl, Nat.le_of_ble_eq_true rfl⟩ dX10_firstFlat_21 ?_
    rintro r2 H locs hp hW
    try dsimp only at hp
    have hW : gW g A s.heap H _ [(ob, .inr (10, [.ref tx, .ref ps, .ref ho, .ref rk, va_rf so])), (rk, .inr (5, [.ref t0, .ref t1, .ref t2, .ref t3, .ref t4, .ref t5, .ref (fS F)])), (t0, .inr (8, [.int (iI 199), .ref q0])), (q0, gI g 796 (rV r2)), (t1, .inr (8, [.int (iI 199), .ref q1])), (q1, gI g 796 (rH r2)), (t2, .inr (8, [.int (iI 199), .ref q2])), (q2, gI g 796 (rR r2)), (t3, .inr (8, [.int (iI 40), .ref q3])), (q3, gI g 160 (nV r2)), (t4, .inr (8, [.int (iI 40), .ref q4])), (q4, gI g 160 (nS r2)), (t5, .inr (8, [.int (iI 40), .ref q5])), (q5, gI g 160 (nW r2))] := hW
    refine W.eq (g2 := F0 m 24 ls [.int (iI (hh (fP F) (fE F) u.toNat i))]) rfl ?_
    refine q_nm (fun w9 hw9 => ?_)
    have hI2 := hp.1
    have hvr := GF_hh hG (f := u.toNat) (x := i) (by omega)
    rw [← hw9] at hvr
    refine q_if_ne (tgt := 29) S0 (by omega) dX10_firstFlat_24 (by decide) (fun c24 => ?_) (fun c24 => ?_)
    · skip
      refine q_iinc (lv' := [(2, .int (iI (i + 1))), (0, .ref ob), (1, .int (iI u))]) S0 dX10_firstFlat_29 hl (k := 0) rfl (by decide) rfl (fun ls hl => ?_)
      refine lv_goto (tgt := 7) S0.1 S0.2.1 dX10_firstFlat_32 (by decide) ?_
      exact IHl (i + 1, r2) H locs ls (by refine ⟨hI2, by omega, ?_⟩; rw [← heq, show (fP F - i).toNat = (fP F - (i + 1)).toNat + 1 by omega]; symm; exact ffu_miss (by omega)) (by (try dsimp only); omega) hW (lv_sub hl [0, 1, 2] rfl)
    · skip
      refine lv_iload_n S0.1 S0.2.1 dX10_firstFlat_27 rfl (lv_at hl 0 rfl) ?_
      exact q_iret S0 hr hlocks r2 (hI2) (by refine congrArg (fun z => some (Value.int (iI z))) (?_ : _ = _); rw [← heq, show (fP F - i).toNat = (fP F - (i + 1)).toNat + 1 by omega]; exact ffu_hit (by omega)) (hW.sub [0, 1, 2, 3, 4, 5, 6, 7, 8, 9, 10, 11, 12, 13] rfl (rfl)) (Nat.le_of_ble_eq_true rfl) (Nat.le_of_ble_eq_true rfl) dX10_firstFlat_28
set_option maxHeartbeats 4000000 in
set_option maxRecDepth 100000 in
theorem c_X10_nextOf (l : Launch) (g : GG) (ob tx ps ho : Nat) (so : Option Nat) (F : FT) (rk t0 q0 t1 q1 t2 q2 t3 q3 t4 q4 t5 q5 : Nat) (r : RT) (u x : Int) (hG : GF F) (hI : RI F r) (hu : 0 ≤ u ∧ u < 4) (hx : 0 ≤ x ∧ x < fP F) : qMet l yX10_nextOf wsX10_nextOf ({ frames := 50, cells := 0, slots := 0, locals := 2000 }) g [.ref ob, .int (iI u), .int (iI x)] [(ob, .inr (10, [.ref tx, .ref ps, .ref ho, .ref rk, va_rf so])), (rk, .inr (5, [.ref t0, .ref t1, .ref t2, .ref t3, .ref t4, .ref t5, .ref (fS F)])), (t0, .inr (8, [.int (iI 199), .ref q0])), (q0, gI g 796 (rV r)), (t1, .inr (8, [.int (iI 199), .ref q1])), (q1, gI g 796 (rH r)), (t2, .inr (8, [.int (iI 199), .ref q2])), (q2, gI g 796 (rR r)), (t3, .inr (8, [.int (iI 40), .ref q3])), (q3, gI g 160 (nV r)), (t4, .inr (8, [.int (iI 40), .ref q4])), (q4, gI g 160 (nS r)), (t5, .inr (8, [.int (iI 40), .ref q5])), (q5, gI g 160 (nW r))] (fun q => ¬ fzA F q) (FX g F) (S := RT) (fun u_ => some (.int (iI (nxF F u x)))) (fun u_ => [(ob, .inr (10, [.ref tx, .ref ps, .ref ho, .ref rk, va_rf so])), (rk, .inr (5, [.ref t0, .ref t1, .ref t2, .ref t3, .ref t4, .ref t5, .ref (fS F)])), (t0, .inr (8, [.int (iI 199), .ref q0])), (q0, gI g 796 (rV u_)), (t1, .inr (8, [.int (iI 199), .ref q1])), (q1, gI g 796 (rH u_)), (t2, .inr (8, [.int (iI 199), .ref q2])), (q2, gI g 796 (rR u_)), (t3, .inr (8, [.int (iI 40), .ref q3])), (q3, gI g 160 (nV u_)), (t4, .inr (8, [.int (iI 40), .ref q4])), (q4, gI g 160 (nS u_)), (t5, .inr (8, [.int (iI 40), .ref q5])), (q5, gI g 160 (nW u_))]) (fun u_ => RI F u_) 0 0 := by
  refine q_ofW (cc := cX10_nextOf) (maxL := 6) (ret := (some .int)) (fun sz h => h.self) (by decide) rfl (Nat.le_of_ble_eq_true rfl) ?_
  intro p e s m args below meth c A ls S0 hr hlocks hnme hK hA hAe hW hD0 hX hl
  have hW : gW g A s.heap s.heap [] [(ob, .inr (10, [.ref tx, .ref ps, .ref ho, .ref rk, va_rf so])), (rk, .inr (5, [.ref t0, .ref t1, .ref t2, .ref t3, .ref t4, .ref t5, .ref (fS F)])), (t0, .inr (8, [.int (iI 199), .ref q0])), (q0, gI g 796 (rV r)), (t1, .inr (8, [.int (iI 199), .ref q1])), (q1, gI g 796 (rH r)), (t2, .inr (8, [.int (iI 199), .ref q2])), (q2, gI g 796 (rR r)), (t3, .inr (8, [.int (iI 40), .ref q3])), (q3, gI g 160 (nV r)), (t4, .inr (8, [.int (iI 40), .ref q4])), (q4, gI g 160 (nS r)), (t5, .inr (8, [.int (iI 40), .ref q5])), (q5, gI g 160 (nW r))] := hW
  have hl : lv_has ls 6 [(0, .ref ob), (1, .int (iI u)), (2, .int (iI x))] := hl
  have hinX10 : ∀ w ∈ wsX100, w ∈ wsX10_nextOf := fun w h => List.mem_cons_of_mem _ (List.mem_append_left _ (List.mem_append_left _ (List.mem_append_left _ (List.mem_append_left _ (List.mem_append_left _ (List.mem_append_right _ h))))))
  have hpr := GF_p hG
  have hO := fz_out hX hD0 hAe
  have hfz : ∀ (H : Heap) (locs : List Loc) (ws : va_W), gW g A s.heap H locs ws → FX g F H := fun H locs ws h => fz_stay hX hO h
  have hvr := GF_vv hG hu hx
  have hb9 := hh_bad_iff hG (f := u.toNat) (by omega) hx
  have hhr := GF_hh hG (f := u.toNat) (x := x) (by omega)
  refine lv_aload_n S0.1 S0.2.1 dX10_nextOf_0 rfl (lv_at hl 0 rfl) ?_
  refine q_get (C := RX10) (T := TX10) (N := 5) S0 hK hW.1 hinX10 0 rfl rfl 3 (by decide) (List.mem_of_getElem? (i := 1) rfl) rfl rfl dX10_nextOf_1 ?_
  refine lv_iload_n S0.1 S0.2.1 dX10_nextOf_4 rfl (lv_at hl 1 rfl) ?_
  refine lv_iload_n S0.1 S0.2.1 dX10_nextOf_5 rfl (lv_at hl 2 rfl) ?_
  refine q_cVN (n := 2) (rest := []) (wr := [(ob, .inr (10, [.ref tx, .ref ps, .ref ho, .ref rk, va_rf so]))]) S0 hK hA hW (VAL_all l g F hG 4 rk t0 q0 t1 q1 t2 q2 t3 q3 t4 q4 t5 q5 r u x (by omega) (by omega) (by omega) (hx) (hI)) gX10_nextOf_X5_value_n143 rfl rfl rfl 14 rfl (List.mem_of_getElem? (i := 3) rfl) (List.mem_of_getElem? (i := 2) rfl) (List.mem_of_getElem? (i := 4) rfl) (by decide +kernel) ⟨by dsimp only; omega, by dsimp only; omega⟩ [1, 2, 3, 4, 5, 6, 7, 8, 9, 10, 11, 12, 13] [0] rfl rfl rfl rfl (by decide) (q_recv hK hW.1 (ci := 5) (q0 := 1) rfl rfl) (hO) (hfz _ _ _ hW) rfl rfl hl.1 (Nat.le_of_ble_eq_true rfl) ⟨Nat.le_of_ble_eq_true rfl, Nat.le_of_ble_eq_true rfl⟩ dX10_nextOf_6 ?_
  rintro r2 H locs hp hW
  try dsimp only at hp
  have hW : gW g A s.heap H _ [(ob, .inr (10, [.ref tx, .ref ps, .ref ho, .ref rk, va_rf so])), (rk, .inr (5, [.ref t0, .ref t1, .ref t2, .ref t3, .ref t4, .ref t5, .ref (fS F)])), (t0, .inr (8, [.int (iI 199), .ref q0])), (q0, gI g 796 (rV r2)), (t1, .inr (8, [.int (iI 199), .ref q1])), (q1, gI g 796 (rH r2)), (t2, .inr (8, [.int (iI 199), .ref q2])), (q2, gI g 796 (rR r2)), (t3, .inr (8, [.int (iI 40), .ref q3])), (q3, gI g 160 (nV r2)), (t4, .inr (8, [.int (iI 40), .ref q4])), (q4, gI g 160 (nS r2)), (t5, .inr (8, [.int (iI 40), .ref q5])), (q5, gI g 160 (nW r2))] := hW
  refine W.eq (g2 := F0 m 9 ls [.int (iI (vv (fP F) (fE F) u.toNat x))]) rfl ?_
  refine q_nm (fun m9 hm9 => ?_)
  have hI2 := hp.1
  rw [← hm9] at hvr
  refine lv_istore_n (lv' := [(3, .int (iI m9)), (0, .ref ob), (1, .int (iI u)), (2, .int (iI x))]) S0.1 S0.2.1 dX10_nextOf_9 rfl hl (by decide) rfl (fun ls hl => ?_)
  refine lv_aload_n S0.1 S0.2.1 dX10_nextOf_10 rfl (lv_at hl 1 rfl) ?_
  refine q_get (C := RX10) (T := TX10) (N := 5) S0 hK hW.1 hinX10 0 rfl rfl 3 (by decide) (List.mem_of_getElem? (i := 1) rfl) rfl rfl dX10_nextOf_11 ?_
  refine lv_iload_n S0.1 S0.2.1 dX10_nextOf_14 rfl (lv_at hl 2 rfl) ?_
  refine lv_iload_n S0.1 S0.2.1 dX10_nextOf_15 rfl (lv_at hl 3 rfl) ?_
  refine q_cVN (n := 2) (rest := []) (wr := [(ob, .inr (10, [.ref tx, .ref ps, .ref ho, .ref rk, va_rf so]))]) S0 hK hA hW (HSL_all l g F hG 4 rk t0 q0 t1 q1 t2 q2 t3 q3 t4 q4 t5 q5 r2 u x (by omega) (by omega) (by omega) (hx) (hI2)) gX10_nextOf_X5_hingeSlope_n147 rfl rfl rfl 13 rfl (List.mem_of_getElem? (i := 3) rfl) (List.mem_of_getElem? (i := 108) rfl) (List.mem_of_getElem? (i := 109) rfl) (by decide +kernel) ⟨by dsimp only; omega, by dsimp only; omega⟩ [1, 2, 3, 4, 5, 6, 7, 8, 9, 10, 11, 12, 13] [0] rfl rfl rfl rfl (by decide) (q_recv hK hW.1 (ci := 5) (q0 := 1) rfl rfl) (hO) (hfz _ _ _ hW) rfl rfl hl.1 (Nat.le_of_ble_eq_true rfl) ⟨Nat.le_of_ble_eq_true rfl, Nat.le_of_ble_eq_true rfl⟩ dX10_nextOf_16 ?_
  rintro r3 H locs hp hW
  try dsimp only at hp
  have hW : gW g A s.heap H _ [(ob, .inr (10, [.ref tx, .ref ps, .ref ho, .ref rk, va_rf so])), (rk, .inr (5, [.ref t0, .ref t1, .ref t2, .ref t3, .ref t4, .ref t5, .ref (fS F)])), (t0, .inr (8, [.int (iI 199), .ref q0])), (q0, gI g 796 (rV r3)), (t1, .inr (8, [.int (iI 199), .ref q1])), (q1, gI g 796 (rH r3)), (t2, .inr (8, [.int (iI 199), .ref q2])), (q2, gI g 796 (rR r3)), (t3, .inr (8, [.int (iI 40), .ref q3])), (q3, gI g 160 (nV r3)), (t4, .inr (8, [.int (iI 40), .ref q4])), (q4, gI g 160 (nS r3)), (t5, .inr (8, [.int (iI 40), .ref q5])), (q5, gI g 160 (nW r3))] := hW
  refine W.eq (g2 := F0 m 19 ls [.int (iI (hh (fP F) (fE F) u.toNat x))]) rfl ?_
  refine q_nm (fun s9 hs9 => ?_)
  have hI3 := hp.1
  rw [← hs9] at hb9 hhr
  rw [← hm9] at hb9
  refine lv_istore (lv' := [(4, .int (iI s9)), (3, .int (iI m9)), (0, .ref ob), (1, .int (iI u)), (2, .int (iI x))]) S0.1 S0.2.1 dX10_nextOf_19 hl (by decide) rfl (fun ls hl => ?_)
  refine lv_iload_n S0.1 S0.2.1 dX10_nextOf_21 rfl (lv_at hl 1 rfl) ?_
  refine q_iconst S0 dX10_nextOf_22 ?_
  refine q_icmp_eq (tgt := 31) S0 (by omega) dX10_nextOf_23 (by decide) (fun c23 => ?_) (fun c23 => ?_)
  · skip
    refine q_iconst S0 dX10_nextOf_31 ?_
    exact q_iret S0 hr hlocks r3 (hI3) (by unfold nxF; rw [← hm9, ← hs9, if_pos (by omega)]) (hW.sub [0, 1, 2, 3, 4, 5, 6, 7, 8, 9, 10, 11, 12, 13] rfl (rfl)) (Nat.le_of_ble_eq_true rfl) (Nat.le_of_ble_eq_true rfl) dX10_nextOf_32
  · skip
    refine lv_iload S0.1 S0.2.1 dX10_nextOf_26 (lv_at hl 0 rfl) ?_
    refine q_if_ne (tgt := 33) S0 (by omega) dX10_nextOf_28 (by decide) (fun c28 => ?_) (fun c28 => ?_)
    · skip
      refine lv_aload_n S0.1 S0.2.1 dX10_nextOf_33 rfl (lv_at hl 2 rfl) ?_
      refine q_get (C := RX10) (T := TX10) (N := 5) S0 hK hW.1 hinX10 0 rfl rfl 3 (by decide) (List.mem_of_getElem? (i := 1) rfl) rfl rfl dX10_nextOf_34 ?_
      refine q_pV (n := 0) (rest := []) S0 hK (c_X5_state l g rk t0 t1 t2 t3 t4 t5 (fS F)) (subP hW.1 [1] rfl) (trivial) gX10_nextOf_X5_state rfl rfl rfl (by decide +kernel) ⟨by dsimp only; omega, by dsimp only; omega⟩ (q_recv hK hW.1 (ci := 5) (q0 := 1) rfl rfl) rfl rfl hl.1 (Nat.le_of_ble_eq_true rfl) ⟨Nat.le_of_ble_eq_true rfl, Nat.le_of_ble_eq_true rfl⟩ dX10_nextOf_37 ?_
      refine W.eq (g2 := F0 m 40 ls [.ref (fS F)]) rfl ?_
      refine q_pV (n := 0) (rest := []) S0 hK (c_X7_numbers l g (fS F) (fR F) (fX F 0) (fX F 1) (fX F 2) (fX F 3)) (subP ((hfz _ _ _ hW)).1 [0] rfl) (trivial) gX10_nextOf_X7_numbers rfl rfl rfl (by decide +kernel) ⟨by dsimp only; omega, by dsimp only; omega⟩ (q_recv hK ((hfz _ _ _ hW)).1 (ci := 7) (q0 := 0) rfl rfl) rfl rfl hl.1 (Nat.le_of_ble_eq_true rfl) ⟨Nat.le_of_ble_eq_true rfl, Nat.le_of_ble_eq_true rfl⟩ dX10_nextOf_40 ?_
      refine W.eq (g2 := F0 m 43 ls [.ref (fR F)]) rfl ?_
      refine lv_astore (lv' := [(5, .ref (fR F)), (4, .int (iI s9)), (3, .int (iI m9)), (0, .ref ob), (1, .int (iI u)), (2, .int (iI x))]) S0.1 S0.2.1 dX10_nextOf_43 hl (by decide) rfl (fun ls hl => ?_)
      refine lv_aload S0.1 S0.2.1 dX10_nextOf_45 (lv_at hl 0 rfl) ?_
      refine lv_iload_n S0.1 S0.2.1 dX10_nextOf_47 rfl (lv_at hl 5 rfl) ?_
      refine lv_aload S0.1 S0.2.1 dX10_nextOf_48 (lv_at hl 0 rfl) ?_
      refine lv_iload_n S0.1 S0.2.1 dX10_nextOf_50 rfl (lv_at hl 2 rfl) ?_
      refine lv_iload S0.1 S0.2.1 dX10_nextOf_51 (lv_at hl 1 rfl) ?_
      refine q_pV (n := 2) (rest := [.int (iI x), .ref (fR F)]) S0 hK (c_X6_divide l g (fR F) (fP F) m9 s9 (by omega) (by omega) (by omega)) (subP ((hfz _ _ _ hW)).1 [1] rfl) (trivial) gX10_nextOf_X6_divide rfl rfl rfl (by decide +kernel) ⟨by dsimp only; omega, by dsimp only; omega⟩ (q_recv hK ((hfz _ _ _ hW)).1 (ci := 6) (q0 := 1) rfl rfl) rfl rfl hl.1 (Nat.le_of_ble_eq_true rfl) ⟨Nat.le_of_ble_eq_true rfl, Nat.le_of_ble_eq_true rfl⟩ dX10_nextOf_53 ?_
      refine W.eq (g2 := F0 m 56 ls [.int (iI (m9 * (s9 ^ ((fP F) - 2).toNat % (fP F)) % (fP F))), .int (iI x), .ref (fR F)]) rfl ?_
      have he9 := emod_rng (m9 * (s9 ^ (fP F - 2).toNat % fP F)) (p := fP F) (by omega)
      refine q_pV (n := 2) (rest := []) S0 hK (c_X6_subtract l g (fR F) (fP F) x (m9 * (s9 ^ ((fP F) - 2).toNat % (fP F)) % (fP F)) (by omega) (by omega)) (subP ((hfz _ _ _ hW)).1 [1] rfl) (trivial) gX10_nextOf_X6_subtract rfl rfl rfl (by decide +kernel) ⟨by dsimp only; omega, by dsimp only; omega⟩ (q_recv hK ((hfz _ _ _ hW)).1 (ci := 6) (q0 := 1) rfl rfl) rfl rfl hl.1 (Nat.le_of_ble_eq_true rfl) ⟨Nat.le_of_ble_eq_true rfl, Nat.le_of_ble_eq_true rfl⟩ dX10_nextOf_56 ?_
      refine W.eq (g2 := F0 m 59 ls [.int (iI ((x - (m9 * (s9 ^ ((fP F) - 2).toNat % (fP F)) % (fP F))) % (fP F)))]) rfl ?_
      exact q_iret S0 hr hlocks r3 (hI3) (by unfold nxF; rw [← hm9, ← hs9, if_neg (by omega)]; rfl) (hW.sub [0, 1, 2, 3, 4, 5, 6, 7, 8, 9, 10, 11, 12, 13] rfl (rfl)) (Nat.le_of_ble_eq_true rfl) (Nat.le_of_ble_eq_true rfl) dX10_nextOf_59
    · skip
      refine q_iconst S0 dX10_nextOf_31 ?_
      exact q_iret S0 hr hlocks r3 (hI3) (by unfold nxF; rw [← hm9, ← hs9, if_pos (by omega)]) (hW.sub [0, 1, 2, 3, 4, 5, 6, 7, 8, 9, 10, 11, 12, 13] rfl (rfl)) (Nat.le_of_ble_eq_true rfl) (Nat.le_of_ble_eq_true rfl) dX10_nextOf_32
set_option maxHeartbeats 4000000 in
set_option maxRecDepth 100000 in
theorem c_X10_step (l : Launch) (g : GG) (ob tx ps ho : Nat) (so : Option Nat) (F : FT) (rk t0 q0 t1 q1 t2 q2 t3 q3 t4 q4 t5 q5 : Nat) (r : RT) (u x : Int) (hG : GF F) (hI : RI F r) (hu : 0 ≤ u ∧ u < 4) (hx : 0 ≤ x ∧ x < fP F) : qMet l yX10_step wsX10_step ({ frames := 60, cells := 0, slots := 0, locals := 3000 }) g [.ref ob, .int (iI u), .int (iI x)] [(ob, .inr (10, [.ref tx, .ref ps, .ref ho, .ref rk, va_rf so])), (rk, .inr (5, [.ref t0, .ref t1, .ref t2, .ref t3, .ref t4, .ref t5, .ref (fS F)])), (t0, .inr (8, [.int (iI 199), .ref q0])), (q0, gI g 796 (rV r)), (t1, .inr (8, [.int (iI 199), .ref q1])), (q1, gI g 796 (rH r)), (t2, .inr (8, [.int (iI 199), .ref q2])), (q2, gI g 796 (rR r)), (t3, .inr (8, [.int (iI 40), .ref q3])), (q3, gI g 160 (nV r)), (t4, .inr (8, [.int (iI 40), .ref q4])), (q4, gI g 160 (nS r)), (t5, .inr (8, [.int (iI 40), .ref q5])), (q5, gI g 160 (nW r))] (fun q => ¬ fzA F q) (FX g F) (S := RT) (fun u_ => some (.int (iI (nxF F u x)))) (fun u_ => [(ob, .inr (10, [.ref tx, .ref ps, .ref ho, .ref rk, va_rf so])), (rk, .inr (5, [.ref t0, .ref t1, .ref t2, .ref t3, .ref t4, .ref t5, .ref (fS F)])), (t0, .inr (8, [.int (iI 199), .ref q0])), (q0, gI g 796 (rV u_)), (t1, .inr (8, [.int (iI 199), .ref q1])), (q1, gI g 796 (rH u_)), (t2, .inr (8, [.int (iI 199), .ref q2])), (q2, gI g 796 (rR u_)), (t3, .inr (8, [.int (iI 40), .ref q3])), (q3, gI g 160 (nV u_)), (t4, .inr (8, [.int (iI 40), .ref q4])), (q4, gI g 160 (nS u_)), (t5, .inr (8, [.int (iI 40), .ref q5])), (q5, gI g 160 (nW u_))]) (fun u_ => RI F u_) 0 0 := by
  refine q_ofW (cc := cX10_step) (maxL := 3) (ret := (some .int)) (fun sz h => h.self) (by decide) rfl (Nat.le_of_ble_eq_true rfl) ?_
  intro p e s m args below meth c A ls S0 hr hlocks hnme hK hA hAe hW hD0 hX hl
  have hW : gW g A s.heap s.heap [] [(ob, .inr (10, [.ref tx, .ref ps, .ref ho, .ref rk, va_rf so])), (rk, .inr (5, [.ref t0, .ref t1, .ref t2, .ref t3, .ref t4, .ref t5, .ref (fS F)])), (t0, .inr (8, [.int (iI 199), .ref q0])), (q0, gI g 796 (rV r)), (t1, .inr (8, [.int (iI 199), .ref q1])), (q1, gI g 796 (rH r)), (t2, .inr (8, [.int (iI 199), .ref q2])), (q2, gI g 796 (rR r)), (t3, .inr (8, [.int (iI 40), .ref q3])), (q3, gI g 160 (nV r)), (t4, .inr (8, [.int (iI 40), .ref q4])), (q4, gI g 160 (nS r)), (t5, .inr (8, [.int (iI 40), .ref q5])), (q5, gI g 160 (nW r))] := hW
  have hl : lv_has ls 3 [(0, .ref ob), (1, .int (iI u)), (2, .int (iI x))] := hl
  have hpr := GF_p hG
  have hO := fz_out hX hD0 hAe
  have hfz : ∀ (H : Heap) (locs : List Loc) (ws : va_W), gW g A s.heap H locs ws → FX g F H := fun H locs ws h => fz_stay hX hO h
  refine lv_aload_n S0.1 S0.2.1 dX10_step_0 rfl (lv_at hl 0 rfl) ?_
  refine lv_iload_n S0.1 S0.2.1 dX10_step_1 rfl (lv_at hl 1 rfl) ?_
  refine q_pV (n := 1) (rest := []) S0 hK (c_X10_requireFunction l g ob tx ps ho rk so u (by omega)) (subP hW.1 [0] rfl) (trivial) gX10_step_X10_requireFunction rfl rfl rfl (by decide +kernel) ⟨by dsimp only; omega, by dsimp only; omega⟩ (q_recv hK hW.1 (ci := 10) (q0 := 0) rfl rfl) rfl rfl hl.1 (Nat.le_of_ble_eq_true rfl) ⟨Nat.le_of_ble_eq_true rfl, Nat.le_of_ble_eq_true rfl⟩ dX10_step_2 ?_
  refine W.eq (g2 := F0 m 5 ls []) rfl ?_
  refine lv_aload_n S0.1 S0.2.1 dX10_step_5 rfl (lv_at hl 0 rfl) ?_
  refine lv_iload_n S0.1 S0.2.1 dX10_step_6 rfl (lv_at hl 2 rfl) ?_
  refine q_pV (n := 1) (rest := []) S0 hK (c_X10_requireNumber l g ob tx ps ho rk t0 t1 t2 t3 t4 t5 so F x (by omega) (by omega)) (subP hW.1 [0, 1] rfl) (hfz _ _ _ hW) gX10_step_X10_requireNumber rfl rfl rfl (by decide +kernel) ⟨by dsimp only; omega, by dsimp only; omega⟩ (q_recv hK hW.1 (ci := 10) (q0 := 0) rfl rfl) rfl rfl hl.1 (Nat.le_of_ble_eq_true rfl) ⟨Nat.le_of_ble_eq_true rfl, Nat.le_of_ble_eq_true rfl⟩ dX10_step_7 ?_
  refine W.eq (g2 := F0 m 10 ls []) rfl ?_
  refine lv_aload_n S0.1 S0.2.1 dX10_step_10 rfl (lv_at hl 0 rfl) ?_
  refine lv_iload_n S0.1 S0.2.1 dX10_step_11 rfl (lv_at hl 1 rfl) ?_
  refine lv_iload_n S0.1 S0.2.1 dX10_step_12 rfl (lv_at hl 2 rfl) ?_
  refine q_cV (n := 2) (rest := []) (wr := []) S0 hK hA hW (c_X10_nextOf l g ob tx ps ho so F rk t0 q0 t1 q1 t2 q2 t3 q3 t4 q4 t5 q5 r u x (hG) (hI) (by omega) (hx)) gX10_step_X10_nextOf rfl rfl rfl (by decide +kernel) ⟨by dsimp only; omega, by dsimp only; omega⟩ [0, 1, 2, 3, 4, 5, 6, 7, 8, 9, 10, 11, 12, 13] [] rfl rfl rfl rfl (by decide) (q_recv hK hW.1 (ci := 10) (q0 := 0) rfl rfl) (hO) (hfz _ _ _ hW) rfl rfl hl.1 (Nat.le_of_ble_eq_true rfl) ⟨Nat.le_of_ble_eq_true rfl, Nat.le_of_ble_eq_true rfl⟩ dX10_step_13 ?_
  rintro r2 H locs hp hW
  try dsimp only at hp
  have hW : gW g A s.heap H _ [(ob, .inr (10, [.ref tx, .ref ps, .ref ho, .ref rk, va_rf so])), (rk, .inr (5, [.ref t0, .ref t1, .ref t2, .ref t3, .ref t4, .ref t5, .ref (fS F)])), (t0, .inr (8, [.int (iI 199), .ref q0])), (q0, gI g 796 (rV r2)), (t1, .inr (8, [.int (iI 199), .ref q1])), (q1, gI g 796 (rH r2)), (t2, .inr (8, [.int (iI 199), .ref q2])), (q2, gI g 796 (rR r2)), (t3, .inr (8, [.int (iI 40), .ref q3])), (q3, gI g 160 (nV r2)), (t4, .inr (8, [.int (iI 40), .ref q4])), (q4, gI g 160 (nS r2)), (t5, .inr (8, [.int (iI 40), .ref q5])), (q5, gI g 160 (nW r2))] := hW
  refine W.eq (g2 := F0 m 16 ls [.int (iI (nxF F u x))]) rfl ?_
  exact q_iret S0 hr hlocks r2 (hp) (rfl) (hW.sub [0, 1, 2, 3, 4, 5, 6, 7, 8, 9, 10, 11, 12, 13] rfl (rfl)) (Nat.le_of_ble_eq_true rfl) (Nat.le_of_ble_eq_true rfl) dX10_step_16
set_option maxHeartbeats 4000000 in
set_option maxRecDepth 100000 in
theorem c_X10_stepsToRoot (l : Launch) (g : GG) (ob tx ps ho : Nat) (so : Option Nat) (F : FT) (rk t0 q0 t1 q1 t2 q2 t3 q3 t4 q4 t5 q5 : Nat) (r : RT) (u x : Int) (hG : GF F) (hI : RI F r) (hu : 0 ≤ u ∧ u < 4) (hx : 0 ≤ x ∧ x < fP F) : qMet l yX10_stepsToRoot wsX10_stepsToRoot ({ frames := 60, cells := 0, slots := 0, locals := 3000 }) g [.ref ob, .int (iI u), .int (iI x)] [(ob, .inr (10, [.ref tx, .ref ps, .ref ho, .ref rk, va_rf so])), (rk, .inr (5, [.ref t0, .ref t1, .ref t2, .ref t3, .ref t4, .ref t5, .ref (fS F)])), (t0, .inr (8, [.int (iI 199), .ref q0])), (q0, gI g 796 (rV r)), (t1, .inr (8, [.int (iI 199), .ref q1])), (q1, gI g 796 (rH r)), (t2, .inr (8, [.int (iI 199), .ref q2])), (q2, gI g 796 (rR r)), (t3, .inr (8, [.int (iI 40), .ref q3])), (q3, gI g 160 (nV r)), (t4, .inr (8, [.int (iI 40), .ref q4])), (q4, gI g 160 (nS r)), (t5, .inr (8, [.int (iI 40), .ref q5])), (q5, gI g 160 (nW r))] (fun q => ¬ fzA F q) (FX g F) (S := RT) (fun u_ => some (.int (iI (sru (vv (fP F) (fE F) u.toNat) (nxF F u) (fP F).toNat 0 x)))) (fun u_ => [(ob, .inr (10, [.ref tx, .ref ps, .ref ho, .ref rk, va_rf so])), (rk, .inr (5, [.ref t0, .ref t1, .ref t2, .ref t3, .ref t4, .ref t5, .ref (fS F)])), (t0, .inr (8, [.int (iI 199), .ref q0])), (q0, gI g 796 (rV u_)), (t1, .inr (8, [.int (iI 199), .ref q1])), (q1, gI g 796 (rH u_)), (t2, .inr (8, [.int (iI 199), .ref q2])), (q2, gI g 796 (rR u_)), (t3, .inr (8, [.int (iI 40), .ref q3])), (q3, gI g 160 (nV u_)), (t4, .inr (8, [.int (iI 40), .ref q4])), (q4, gI g 160 (nS u_)), (t5, .inr (8, [.int (iI 40), .ref q5])), (q5, gI g 160 (nW u_))]) (fun u_ => RI F u_) 0 0 := by
  refine q_ofW (cc := cX10_stepsToRoot) (maxL := 5) (ret := (some .int)) (fun sz h => h.self) (by decide) rfl (Nat.le_of_ble_eq_true rfl) ?_
  intro p e s m args below meth c A ls S0 hr hlocks hnme hK hA hAe hW hD0 hX hl
  have hW : gW g A s.heap s.heap [] [(ob, .inr (10, [.ref tx, .ref ps, .ref ho, .ref rk, va_rf so])), (rk, .inr (5, [.ref t0, .ref t1, .ref t2, .ref t3, .ref t4, .ref t5, .ref (fS F)])), (t0, .inr (8, [.int (iI 199), .ref q0])), (q0, gI g 796 (rV r)), (t1, .inr (8, [.int (iI 199), .ref q1])), (q1, gI g 796 (rH r)), (t2, .inr (8, [.int (iI 199), .ref q2])), (q2, gI g 796 (rR r)), (t3, .inr (8, [.int (iI 40), .ref q3])), (q3, gI g 160 (nV r)), (t4, .inr (8, [.int (iI 40), .ref q4])), (q4, gI g 160 (nS r)), (t5, .inr (8, [.int (iI 40), .ref q5])), (q5, gI g 160 (nW r))] := hW
  have hl : lv_has ls 5 [(0, .ref ob), (1, .int (iI u)), (2, .int (iI x))] := hl
  have hinX10 : ∀ w ∈ wsX100, w ∈ wsX10_stepsToRoot := fun w h => List.mem_cons_of_mem _ (List.mem_append_left _ (List.mem_append_left _ (List.mem_append_left _ (List.mem_append_left _ (List.mem_append_left _ (List.mem_append_left _ (List.mem_append_left _ (List.mem_append_right _ h))))))))
  have hpr := GF_p hG
  have hO := fz_out hX hD0 hAe
  have hfz : ∀ (H : Heap) (locs : List Loc) (ws : va_W), gW g A s.heap H locs ws → FX g F H := fun H locs ws h => fz_stay hX hO h
  have hpr9 := GF_p hG
  refine lv_aload_n S0.1 S0.2.1 dX10_stepsToRoot_0 rfl (lv_at hl 0 rfl) ?_
  refine lv_iload_n S0.1 S0.2.1 dX10_stepsToRoot_1 rfl (lv_at hl 1 rfl) ?_
  refine q_pV (n := 1) (rest := []) S0 hK (c_X10_requireFunction l g ob tx ps ho rk so u (by omega)) (subP hW.1 [0] rfl) (trivial) gX10_stepsToRoot_X10_requireFunction rfl rfl rfl (by decide +kernel) ⟨by dsimp only; omega, by dsimp only; omega⟩ (q_recv hK hW.1 (ci := 10) (q0 := 0) rfl rfl) rfl rfl hl.1 (Nat.le_of_ble_eq_true rfl) ⟨Nat.le_of_ble_eq_true rfl, Nat.le_of_ble_eq_true rfl⟩ dX10_stepsToRoot_2 ?_
  refine W.eq (g2 := F0 m 5 ls []) rfl ?_
  refine lv_aload_n S0.1 S0.2.1 dX10_stepsToRoot_5 rfl (lv_at hl 0 rfl) ?_
  refine lv_iload_n S0.1 S0.2.1 dX10_stepsToRoot_6 rfl (lv_at hl 2 rfl) ?_
  refine q_pV (n := 1) (rest := []) S0 hK (c_X10_requireNumber l g ob tx ps ho rk t0 t1 t2 t3 t4 t5 so F x (by omega) (by omega)) (subP hW.1 [0, 1] rfl) (hfz _ _ _ hW) gX10_stepsToRoot_X10_requireNumber rfl rfl rfl (by decide +kernel) ⟨by dsimp only; omega, by dsimp only; omega⟩ (q_recv hK hW.1 (ci := 10) (q0 := 0) rfl rfl) rfl rfl hl.1 (Nat.le_of_ble_eq_true rfl) ⟨Nat.le_of_ble_eq_true rfl, Nat.le_of_ble_eq_true rfl⟩ dX10_stepsToRoot_7 ?_
  refine W.eq (g2 := F0 m 10 ls []) rfl ?_
  refine lv_iload_n S0.1 S0.2.1 dX10_stepsToRoot_10 rfl (lv_at hl 2 rfl) ?_
  refine lv_istore_n (lv' := [(3, .int (iI x)), (0, .ref ob), (1, .int (iI u)), (2, .int (iI x))]) S0.1 S0.2.1 dX10_stepsToRoot_11 rfl hl (by decide) rfl (fun ls hl => ?_)
  refine q_iconst S0 dX10_stepsToRoot_12 ?_
  refine lv_istore (lv' := [(4, .int (iI 0)), (3, .int (iI x)), (0, .ref ob), (1, .int (iI u)), (2, .int (iI x))]) S0.1 S0.2.1 dX10_stepsToRoot_13 hl (by decide) rfl (fun ls hl => ?_)
  refine q_loop (α := Int × Int × RT) (fun (z_ : Int × Int × RT) => match z_ with | (i, a9, r1) => RI F r1 ∧ (0 ≤ i ∧ i ≤ fP F) ∧ (a9 = -1 ∨ (0 ≤ a9 ∧ a9 < fP F)) ∧ sru (vv (fP F) (fE F) u.toNat) (nxF F u) (fP F - i).toNat i a9 = sru (vv (fP F) (fE F) u.toNat) (nxF F u) (fP F).toNat 0 x) (fun (z_ : Int × Int × RT) => match z_ with | (i, a9, r1) => (fP F - i).toNat) (fun (z_ : Int × Int × RT) => match z_ with | (i, a9, r1) => [(ob, .inr (10, [.ref tx, .ref ps, .ref ho, .ref rk, va_rf so])), (rk, .inr (5, [.ref t0, .ref t1, .ref t2, .ref t3, .ref t4, .ref t5, .ref (fS F)])), (t0, .inr (8, [.int (iI 199), .ref q0])), (q0, gI g 796 (rV r1)), (t1, .inr (8, [.int (iI 199), .ref q1])), (q1, gI g 796 (rH r1)), (t2, .inr (8, [.int (iI 199), .ref q2])), (q2, gI g 796 (rR r1)), (t3, .inr (8, [.int (iI 40), .ref q3])), (q3, gI g 160 (nV r1)), (t4, .inr (8, [.int (iI 40), .ref q4])), (q4, gI g 160 (nS r1)), (t5, .inr (8, [.int (iI 40), .ref q5])), (q5, gI g 160 (nW r1))]) (fun (z_ : Int × Int × RT) => match z_ with | (i, a9, r1) => [(4, .int (iI i)), (3, .int (iI a9)), (0, .ref ob), (1, .int (iI u)), (2, .int (iI x))]) ?_ (0, x, r) (by exact ⟨hI, by omega, by omega, by rw [show fP F - 0 = fP F by omega]⟩) hW (lv_sub hl [0, 1, 2, 3, 4] rfl)
  rintro ⟨i, a9, r1⟩ hinv IHl H locs ls hW hl
  try dsimp only at hinv
  have hW : gW g A s.heap H _ [(ob, .inr (10, [.ref tx, .ref ps, .ref ho, .ref rk, va_rf so])), (rk, .inr (5, [.ref t0, .ref t1, .ref t2, .ref t3, .ref t4, .ref t5, .ref (fS F)])), (t0, .inr (8, [.int (iI 199), .ref q0])), (q0, gI g 796 (rV r1)), (t1, .inr (8, [.int (iI 199), .ref q1])), (q1, gI g 796 (rH r1)), (t2, .inr (8, [.int (iI 199), .ref q2])), (q2, gI g 796 (rR r1)), (t3, .inr (8, [.int (iI 40), .ref q3])), (q3, gI g 160 (nV r1)), (t4, .inr (8, [.int (iI 40), .ref q4])), (q4, gI g 160 (nS r1)), (t5, .inr (8, [.int (iI 40), .ref q5])), (q5, gI g 160 (nW r1))] := hW
  have hl : lv_has ls 5 [(4, .int (iI i)), (3, .int (iI a9)), (0, .ref ob), (1, .int (iI u)), (2, .int (iI x))] := hl
  obtain ⟨hI1, hi, ha, heq⟩ := hinv
  refine lv_iload S0.1 S0.2.1 dX10_stepsToRoot_15 (lv_at hl 0 rfl) ?_
  refine lv_aload_n S0.1 S0.2.1 dX10_stepsToRoot_17 rfl (lv_at hl 2 rfl) ?_
  refine q_pV (n := 0) (rest := [.int (iI i)]) S0 hK (c_X10_prime l g ob tx ps ho rk t0 t1 t2 t3 t4 t5 so F) (subP hW.1 [0, 1] rfl) (hfz _ _ _ hW) gX10_stepsToRoot_X10_prime rfl rfl rfl (by decide +kernel) ⟨by dsimp only; omega, by dsimp only; omega⟩ (q_recv hK hW.1 (ci := 10) (q0 := 0) rfl rfl) rfl rfl hl.1 (Nat.le_of_ble_eq_true rfl) ⟨Nat.le_of_ble_eq_true rfl, Nat.le_of_ble_eq_true rfl⟩ dX10_stepsToRoot_18 ?_
  refine W.eq (g2 := F0 m 21 ls [.int (iI (fP F)), .int (iI i)]) rfl ?_
  refine q_icmp_ge (tgt := 57) S0 (by omega) dX10_stepsToRoot_21 (by decide) (fun c21 => ?_) (fun c21 => ?_)
  · skip
    refine q_iconst S0 dX10_stepsToRoot_57 ?_
    exact q_iret S0 hr hlocks r1 (hI1) (by first | (rw [← heq, show (fP F - i).toNat = 0 by omega]; rfl) | (refine congrArg (fun z => some (Value.int (iI z))) (?_ : _ = _); rw [← heq]; exact sru_none (by omega))) (hW.sub [0, 1, 2, 3, 4, 5, 6, 7, 8, 9, 10, 11, 12, 13] rfl (rfl)) (Nat.le_of_ble_eq_true rfl) (Nat.le_of_ble_eq_true rfl) dX10_stepsToRoot_58
  · skip
    refine lv_iload_n S0.1 S0.2.1 dX10_stepsToRoot_24 rfl (lv_at hl 1 rfl) ?_
    refine q_iconst S0 dX10_stepsToRoot_25 ?_
    refine q_icmp_eq (tgt := 57) S0 (by omega) dX10_stepsToRoot_26 (by decide) (fun c26 => ?_) (fun c26 => ?_)
    · skip
      refine q_iconst S0 dX10_stepsToRoot_57 ?_
      exact q_iret S0 hr hlocks r1 (hI1) (by first | (rw [← heq, show (fP F - i).toNat = 0 by omega]; rfl) | (refine congrArg (fun z => some (Value.int (iI z))) (?_ : _ = _); rw [← heq]; exact sru_none (by omega))) (hW.sub [0, 1, 2, 3, 4, 5, 6, 7, 8, 9, 10, 11, 12, 13] rfl (rfl)) (Nat.le_of_ble_eq_true rfl) (Nat.le_of_ble_eq_true rfl) dX10_stepsToRoot_58
    · skip
      refine lv_aload_n S0.1 S0.2.1 dX10_stepsToRoot_29 rfl (lv_at hl 2 rfl) ?_
      refine q_get (C := RX10) (T := TX10) (N := 5) S0 hK hW.1 hinX10 0 rfl rfl 3 (by decide) (List.mem_of_getElem? (i := 1) rfl) rfl rfl dX10_stepsToRoot_30 ?_
      refine lv_iload_n S0.1 S0.2.1 dX10_stepsToRoot_33 rfl (lv_at hl 3 rfl) ?_
      refine lv_iload_n S0.1 S0.2.1 dX10_stepsToRoot_34 rfl (lv_at hl 1 rfl) ?_
      refine q_cVN (n := 2) (rest := []) (wr := [(ob, .inr (10, [.ref tx, .ref ps, .ref ho, .ref rk, va_rf so]))]) S0 hK hA hW (VAL_all l g F hG 4 rk t0 q0 t1 q1 t2 q2 t3 q3 t4 q4 t5 q5 r1 u a9 (by omega) (by omega) (by omega) (by omega) (hI1)) gX10_stepsToRoot_X5_value_n143 rfl rfl rfl 14 rfl (List.mem_of_getElem? (i := 22) rfl) (List.mem_of_getElem? (i := 37) rfl) (List.mem_of_getElem? (i := 38) rfl) (by decide +kernel) ⟨by dsimp only; omega, by dsimp only; omega⟩ [1, 2, 3, 4, 5, 6, 7, 8, 9, 10, 11, 12, 13] [0] rfl rfl rfl rfl (by decide) (q_recv hK hW.1 (ci := 5) (q0 := 1) rfl rfl) (hO) (hfz _ _ _ hW) rfl rfl hl.1 (Nat.le_of_ble_eq_true rfl) ⟨Nat.le_of_ble_eq_true rfl, Nat.le_of_ble_eq_true rfl⟩ dX10_stepsToRoot_35 ?_
      rintro r2 H locs hp hW
      try dsimp only at hp
      have hW : gW g A s.heap H _ [(ob, .inr (10, [.ref tx, .ref ps, .ref ho, .ref rk, va_rf so])), (rk, .inr (5, [.ref t0, .ref t1, .ref t2, .ref t3, .ref t4, .ref t5, .ref (fS F)])), (t0, .inr (8, [.int (iI 199), .ref q0])), (q0, gI g 796 (rV r2)), (t1, .inr (8, [.int (iI 199), .ref q1])), (q1, gI g 796 (rH r2)), (t2, .inr (8, [.int (iI 199), .ref q2])), (q2, gI g 796 (rR r2)), (t3, .inr (8, [.int (iI 40), .ref q3])), (q3, gI g 160 (nV r2)), (t4, .inr (8, [.int (iI 40), .ref q4])), (q4, gI g 160 (nS r2)), (t5, .inr (8, [.int (iI 40), .ref q5])), (q5, gI g 160 (nW r2))] := hW
      refine W.eq (g2 := F0 m 38 ls [.int (iI (vv (fP F) (fE F) u.toNat a9))]) rfl ?_
      refine q_nm (fun w9 hw9 => ?_)
      have hI2 := hp.1
      have hvr := GF_vv hG hu (x := a9) (by omega)
      rw [← hw9] at hvr
      refine q_if_ne (tgt := 44) S0 (by omega) dX10_stepsToRoot_38 (by decide) (fun c38 => ?_) (fun c38 => ?_)
      · skip
        refine lv_aload_n S0.1 S0.2.1 dX10_stepsToRoot_44 rfl (lv_at hl 2 rfl) ?_
        refine lv_iload_n S0.1 S0.2.1 dX10_stepsToRoot_45 rfl (lv_at hl 3 rfl) ?_
        refine lv_iload_n S0.1 S0.2.1 dX10_stepsToRoot_46 rfl (lv_at hl 1 rfl) ?_
        refine q_cV (n := 2) (rest := []) (wr := []) S0 hK hA hW (c_X10_nextOf l g ob tx ps ho so F rk t0 q0 t1 q1 t2 q2 t3 q3 t4 q4 t5 q5 r2 u a9 (hG) (hI2) (by omega) (by omega)) gX10_stepsToRoot_X10_nextOf rfl rfl rfl (by decide +kernel) ⟨by dsimp only; omega, by dsimp only; omega⟩ [0, 1, 2, 3, 4, 5, 6, 7, 8, 9, 10, 11, 12, 13] [] rfl rfl rfl rfl (by decide) (q_recv hK hW.1 (ci := 10) (q0 := 0) rfl rfl) (hO) (hfz _ _ _ hW) rfl rfl hl.1 (Nat.le_of_ble_eq_true rfl) ⟨Nat.le_of_ble_eq_true rfl, Nat.le_of_ble_eq_true rfl⟩ dX10_stepsToRoot_47 ?_
        rintro r3 H locs hp hW
        try dsimp only at hp
        have hW : gW g A s.heap H _ [(ob, .inr (10, [.ref tx, .ref ps, .ref ho, .ref rk, va_rf so])), (rk, .inr (5, [.ref t0, .ref t1, .ref t2, .ref t3, .ref t4, .ref t5, .ref (fS F)])), (t0, .inr (8, [.int (iI 199), .ref q0])), (q0, gI g 796 (rV r3)), (t1, .inr (8, [.int (iI 199), .ref q1])), (q1, gI g 796 (rH r3)), (t2, .inr (8, [.int (iI 199), .ref q2])), (q2, gI g 796 (rR r3)), (t3, .inr (8, [.int (iI 40), .ref q3])), (q3, gI g 160 (nV r3)), (t4, .inr (8, [.int (iI 40), .ref q4])), (q4, gI g 160 (nS r3)), (t5, .inr (8, [.int (iI 40), .ref q5])), (q5, gI g 160 (nW r3))] := hW
        refine W.eq (g2 := F0 m 50 ls [.int (iI (nxF F u a9))]) rfl ?_
        refine q_nm (fun n9 hn9 => ?_)
        have hI3 := hp
        have hn9r : n9 = -1 ∨ (0 ≤ n9 ∧ n9 < fP F) := by rw [hn9]; exact nxF_rng hG
        refine lv_istore_n (lv' := [(3, .int (iI n9)), (4, .int (iI i)), (0, .ref ob), (1, .int (iI u)), (2, .int (iI x))]) S0.1 S0.2.1 dX10_stepsToRoot_50 rfl hl (by decide) rfl (fun ls hl => ?_)
        refine q_iinc (lv' := [(4, .int (iI (i + 1))), (3, .int (iI n9)), (0, .ref ob), (1, .int (iI u)), (2, .int (iI x))]) S0 dX10_stepsToRoot_51 hl (k := 1) rfl (by decide) rfl (fun ls hl => ?_)
        refine lv_goto (tgt := 15) S0.1 S0.2.1 dX10_stepsToRoot_54 (by decide) ?_
        exact IHl (i + 1, n9, r3) H locs ls (by refine ⟨hI3, by omega, hn9r, ?_⟩; rw [← heq, show (fP F - i).toNat = (fP F - (i + 1)).toNat + 1 by omega]; symm; rw [hn9]; exact sru_go (by omega) (by omega)) (by (try dsimp only); omega) hW (lv_sub hl [0, 1, 2, 3, 4] rfl)
      · skip
        refine lv_iload S0.1 S0.2.1 dX10_stepsToRoot_41 (lv_at hl 0 rfl) ?_
        exact q_iret S0 hr hlocks r2 (hI2) (by refine congrArg (fun z => some (Value.int (iI z))) (?_ : _ = _); rw [← heq, show (fP F - i).toNat = (fP F - (i + 1)).toNat + 1 by omega]; exact sru_hit (by omega) (by omega)) (hW.sub [0, 1, 2, 3, 4, 5, 6, 7, 8, 9, 10, 11, 12, 13] rfl (rfl)) (Nat.le_of_ble_eq_true rfl) (Nat.le_of_ble_eq_true rfl) dX10_stepsToRoot_43
