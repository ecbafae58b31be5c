/-! a function against its coefficients -/
theorem ite_rng {P : Prop} [Decidable P] {p : Int} (z w : Int) (h : 0 ≤ w ∧ w < p) : (P ∧ (if P then z else w) = z) ∨ (¬ P ∧ 0 ≤ (if P then z else w) ∧ (if P then z else w) < p) := by
  by_cases q : P
  · exact Or.inl ⟨q, if_pos q⟩
  · rw [if_neg q]
    exact Or.inr ⟨q, h⟩
theorem lvV_of {p x uu vb : Int} {a b : Nat → Int} (hu : uu = hor a x p 40 0) (hv : vb = hor b x p 40 0) : lvV p a b x = if vb = 0 then -1 else uu * (if vb = 0 then 0 else inv' p vb) % p := by
  unfold lvV
  rw [← hu, ← hv]
  by_cases q : vb = 0
  · rw [if_pos q, if_pos q]
  · rw [if_neg q, if_neg q, if_neg q]
theorem lsS_of {p x uu vb su sv : Int} {a b : Nat → Int} (hu : uu = hor a x p 40 0) (hv : vb = hor b x p 40 0) (hsu : su = hor (dh a p) x p 39 0) (hsv : sv = hor (dh b p) x p 39 0) : lsS p a b x = if vb = 0 then -1 else (su * vb - uu * sv) % p * ((if vb = 0 then 0 else inv' p vb) * (if vb = 0 then 0 else inv' p vb) % p) % p := by
  unfold lsS
  rw [← hu, ← hv, ← hsu, ← hsv]
  by_cases q : vb = 0
  · rw [if_pos q, if_pos q]
  · rw [if_neg q, if_neg q, if_neg q]
theorem nxF_of {F : FT} {u i va sl nx vb : Int} (h1 : vv (fP F) (fE F) u.toNat i = va) (h2 : hh (fP F) (fE F) u.toNat i = sl) (hr : (vb = 0 ∧ va = -1) ∨ (¬ vb = 0 ∧ 0 ≤ va ∧ va < fP F)) (hn : nx = if vb = 0 ∨ sl = 0 then -1 else (i - va * inv' (fP F) sl) % fP F) : nxF F u i = nx := by
  unfold nxF
  rw [h1, h2, hn]
  by_cases q : vb = 0 ∨ sl = 0
  · rw [if_pos q, if_pos (by omega)]
  · rw [if_neg q, if_neg (by omega)]
    exact nx_eq
theorem sru_rng {V N : Int → Int} : ∀ (k : Nat) (i a : Int), sru V N k i a = -1 ∨ (i ≤ sru V N k i a ∧ sru V N k i a < i + k)
  | 0, _, _ => Or.inl rfl
  | k + 1, i, a => by
    by_cases h : a = -1
    · exact Or.inl (sru_none h)
    · by_cases h2 : V a = 0
      · rw [sru_hit h h2]
        exact Or.inr (by omega)
      · rw [sru_go h h2]
        have := sru_rng (V := V) (N := N) k (i + 1) (N a)
        omega
theorem sru_iff {V N : Int → Int} {p x : Int} (hp : 0 < p) (hx : ¬ x = -1) : sru V N p.toNat 0 x = 0 ↔ V x = 0 := by
  rw [show p.toNat = (p.toNat - 1) + 1 by omega]
  by_cases h : V x = 0
  · rw [sru_hit hx h]
    exact ⟨fun _ => h, fun _ => rfl⟩
  · rw [sru_go hx h]
    have := sru_rng (V := V) (N := N) (p.toNat - 1) (0 + 1) (N x)
    exact ⟨fun e => by omega, fun e => absurd e h⟩
/-- the least flat spot, as far as place i -/
def ffX (H : Int → Int) (p i fi : Int) : Prop := (fi = -1 ∧ ffu H (p - i).toNat i = ffu H p.toNat 0) ∨ (0 ≤ fi ∧ ffu H p.toNat 0 = fi)
theorem ffX_0 {H : Int → Int} {p : Int} : ffX H p 0 (-1) := Or.inl ⟨rfl, by rw [show p - 0 = p by omega]⟩
theorem ffX_e {H : Int → Int} {p i fi : Int} (hi : p ≤ i) (h : ffX H p i fi) : ffu H p.toNat 0 = fi := by
  rcases h with ⟨h1, h2⟩ | ⟨-, h2⟩
  · rw [← h2, show (p - i).toNat = 0 by omega, h1]
    rfl
  · exact h2
theorem cnu_st {f : Int → Int} {v i c z : Int} {k : Nat} (h : z = if f i = v then 1 else 0) : cnu f v (k + 1) i c = cnu f v k (i + 1) (c + z) := by
  by_cases q : f i = v
  · rw [cnu_hit q, h, if_pos q]
  · rw [cnu_miss q, h, if_neg q, Int.add_zero]
theorem same_st {V H : Int → Int} {p i bn fl ro fi va sl vb z1 z2 z3 z4 st : Int} {tb th tr lv ls : Int} (hi : 0 ≤ i ∧ i < p) (hva : va = lv) (hsl : sl = ls)
    (hz1 : z1 = if vb = 0 then 1 else 0) (hz2 : z2 = if sl = 0 then 1 else 0) (hz3 : z3 = if sl = 0 ∧ fi < 0 then i else fi) (hz4 : z4 = if va = 0 then 1 else 0) (_ : st = 0 ↔ va = 0)
    (hvr : (vb = 0 ∧ va = -1) ∨ (¬ vb = 0 ∧ 0 ≤ va ∧ va < p))
    (heb : cnu V (-1) (p - i).toNat i bn = tb) (hef : cnu H 0 (p - i).toNat i fl = th) (her : cnu V 0 (p - i).toNat i ro = tr) (hff : ffX H p i fi) (hV : V i = lv) (hH : H i = ls) :
    cnu V (-1) (p - (i + 1)).toNat (i + 1) (bn + z1) = tb ∧ cnu H 0 (p - (i + 1)).toNat (i + 1) (fl + z2) = th ∧ cnu V 0 (p - (i + 1)).toNat (i + 1) (ro + z4) = tr ∧ ffX H p (i + 1) z3 := by
  have ek : (p - i).toNat = (p - (i + 1)).toNat + 1 := by omega
  rw [ek] at heb hef her
  refine ⟨?_, ?_, ?_, ?_⟩
  · rw [← heb]
    symm
    refine cnu_st ?_
    rw [hV, ← hva, hz1]
    by_cases q : vb = 0
    · rw [if_pos q, if_pos (by omega)]
    · rw [if_neg q, if_neg (by omega)]
  · rw [← hef]
    symm
    exact cnu_st (by rw [hH, ← hsl, hz2])
  · rw [← her]
    symm
    exact cnu_st (by rw [hV, ← hva, hz4])
  · rcases hff with ⟨h1, h2⟩ | ⟨h1, h2⟩
    · rw [ek] at h2
      by_cases q : sl = 0
      · rw [ffu_hit (by rw [hH, ← hsl]; exact q)] at h2
        rw [hz3, if_pos ⟨q, by omega⟩]
        exact Or.inr ⟨hi.1, h2.symm⟩
      · rw [ffu_miss (by rw [hH, ← hsl]; exact q)] at h2
        rw [hz3, if_neg (fun w => q w.1)]
        exact Or.inl ⟨h1, h2⟩
    · rw [hz3, if_neg (by omega)]
      exact Or.inr ⟨h1, h2⟩

set_option maxHeartbeats 4000000 in
set_option maxRecDepth 100000 in
theorem c_L_same (l : Launch) (g : GG) (ob tx ps ho : Nat) (so : Option Nat) (F : FT) (rk t0 q0 t1 q1 t2 q2 t3 q3 t4 q4 t5 q5 : Nat) (r : RT) (u : Int) (aa bb : Nat) (a b : Nat → Int) (hG : GF F) (hI : RI F r) (hu : 0 ≤ u ∧ u < 4) (h61 : fP F ≤ 61) (ha : ∀ j, 0 ≤ a j ∧ a j < fP F) (hb : ∀ j, 0 ≤ b j ∧ b j < fP F) (hV : ∀ x, 0 ≤ x → x < fP F → (vv (fP F) (fE F) u.toNat) x = lvV (fP F) a b x) (hH : ∀ x, 0 ≤ x → x < fP F → (hh (fP F) (fE F) u.toNat) x = lsS (fP F) a b x) : qMet l yL_same wsL_same ({ frames := 70, cells := 0, slots := 0, locals := 4000 }) g [.ref ob, .int (iI u), .ref aa, .ref bb, .int (iI (fP F))] [(ob, .inr (10, [.ref tx, .ref ps, .ref ho, .ref rk, va_rf so])), (rk, .inr (5, [.ref t0, .ref t1, .ref t2, .ref t3, .ref t4, .ref t5, .ref (fS F)])), (t0, .inr (8, [.int (iI 199), .ref q0])), (q0, gI g 796 (rV r)), (t1, .inr (8, [.int (iI 199), .ref q1])), (q1, gI g 796 (rH r)), (t2, .inr (8, [.int (iI 199), .ref q2])), (q2, gI g 796 (rR r)), (t3, .inr (8, [.int (iI 40), .ref q3])), (q3, gI g 160 (nV r)), (t4, .inr (8, [.int (iI 40), .ref q4])), (q4, gI g 160 (nS r)), (t5, .inr (8, [.int (iI 40), .ref q5])), (q5, gI g 160 (nW r)), (aa, gI g 40 a), (bb, gI g 40 b)] (fun q => ¬ fzA F q) (FX g F) (S := RT) (fun u_ => some (.int (iI 1))) (fun u_ => [(ob, .inr (10, [.ref tx, .ref ps, .ref ho, .ref rk, va_rf so])), (rk, .inr (5, [.ref t0, .ref t1, .ref t2, .ref t3, .ref t4, .ref t5, .ref (fS F)])), (t0, .inr (8, [.int (iI 199), .ref q0])), (q0, gI g 796 (rV u_)), (t1, .inr (8, [.int (iI 199), .ref q1])), (q1, gI g 796 (rH u_)), (t2, .inr (8, [.int (iI 199), .ref q2])), (q2, gI g 796 (rR u_)), (t3, .inr (8, [.int (iI 40), .ref q3])), (q3, gI g 160 (nV u_)), (t4, .inr (8, [.int (iI 40), .ref q4])), (q4, gI g 160 (nS u_)), (t5, .inr (8, [.int (iI 40), .ref q5])), (q5, gI g 160 (nW u_)), (aa, gI g 40 a), (bb, gI g 40 b)]) (fun u_ => RI F u_) 0 0 := by
  refine q_ofW (cc := cL_same) (maxL := 19) (ret := (some .boolean)) (fun sz h => h.self) (by decide) rfl (Nat.le_of_ble_eq_true rfl) ?_
  intro p e s m args below meth c A ls S0 hr hlocks hnme hK hA hAe hW hD0 hX hl
  have hW : gW g A s.heap s.heap [] [(ob, .inr (10, [.ref tx, .ref ps, .ref ho, .ref rk, va_rf so])), (rk, .inr (5, [.ref t0, .ref t1, .ref t2, .ref t3, .ref t4, .ref t5, .ref (fS F)])), (t0, .inr (8, [.int (iI 199), .ref q0])), (q0, gI g 796 (rV r)), (t1, .inr (8, [.int (iI 199), .ref q1])), (q1, gI g 796 (rH r)), (t2, .inr (8, [.int (iI 199), .ref q2])), (q2, gI g 796 (rR r)), (t3, .inr (8, [.int (iI 40), .ref q3])), (q3, gI g 160 (nV r)), (t4, .inr (8, [.int (iI 40), .ref q4])), (q4, gI g 160 (nS r)), (t5, .inr (8, [.int (iI 40), .ref q5])), (q5, gI g 160 (nW r)), (aa, gI g 40 a), (bb, gI g 40 b)] := hW
  have hl : lv_has ls 19 [(0, .ref ob), (1, .int (iI u)), (2, .ref aa), (3, .ref bb), (4, .int (iI (fP F)))] := hl
  have hpr := GF_p hG
  have hO := fz_out hX hD0 hAe
  have hfz : ∀ (H : Heap) (locs : List Loc) (ws : va_W), gW g A s.heap H locs ws → FX g F H := fun H locs ws h => fz_stay hX hO h
  have hpr9 := GF_p hG
  refine q_iconst S0 dL_same_0 ?_
  refine lv_istore (lv' := [(5, .int (iI 0)), (0, .ref ob), (1, .int (iI u)), (2, .ref aa), (3, .ref bb), (4, .int (iI (fP F)))]) S0.1 S0.2.1 dL_same_1 hl (by decide) rfl (fun ls hl => ?_)
  refine q_iconst S0 dL_same_3 ?_
  refine lv_istore (lv' := [(6, .int (iI 0)), (5, .int (iI 0)), (0, .ref ob), (1, .int (iI u)), (2, .ref aa), (3, .ref bb), (4, .int (iI (fP F)))]) S0.1 S0.2.1 dL_same_4 hl (by decide) rfl (fun ls hl => ?_)
  refine q_iconst S0 dL_same_6 ?_
  refine lv_istore (lv' := [(7, .int (iI 0)), (6, .int (iI 0)), (5, .int (iI 0)), (0, .ref ob), (1, .int (iI u)), (2, .ref aa), (3, .ref bb), (4, .int (iI (fP F)))]) S0.1 S0.2.1 dL_same_7 hl (by decide) rfl (fun ls hl => ?_)
  refine q_iconst S0 dL_same_9 ?_
  refine lv_istore (lv' := [(8, .int (iI ((-1)))), (7, .int (iI 0)), (6, .int (iI 0)), (5, .int (iI 0)), (0, .ref ob), (1, .int (iI u)), (2, .ref aa), (3, .ref bb), (4, .int (iI (fP F)))]) S0.1 S0.2.1 dL_same_10 hl (by decide) rfl (fun ls hl => ?_)
  refine q_iconst S0 dL_same_12 ?_
  refine lv_istore (lv' := [(9, .int (iI 0)), (8, .int (iI ((-1)))), (7, .int (iI 0)), (6, .int (iI 0)), (5, .int (iI 0)), (0, .ref ob), (1, .int (iI u)), (2, .ref aa), (3, .ref bb), (4, .int (iI (fP F)))]) S0.1 S0.2.1 dL_same_13 hl (by decide) rfl (fun ls hl => ?_)
  refine q_loop (α := Int × Int × Int × Int × Int × RT) (fun (z_ : Int × Int × Int × Int × Int × RT) => match z_ with | (i, bn, fl, ro, fi, r1) => RI F r1 ∧ (0 ≤ i ∧ i ≤ fP F) ∧ ((0 ≤ bn ∧ bn ≤ i) ∧ (0 ≤ fl ∧ fl ≤ i) ∧ (0 ≤ ro ∧ ro ≤ i) ∧ (-1 ≤ fi ∧ fi ≤ i)) ∧ cnu (vv (fP F) (fE F) u.toNat) (-1) (fP F - i).toNat i bn = cnu (vv (fP F) (fE F) u.toNat) (-1) (fP F).toNat 0 0 ∧ cnu (hh (fP F) (fE F) u.toNat) 0 (fP F - i).toNat i fl = cnu (hh (fP F) (fE F) u.toNat) 0 (fP F).toNat 0 0 ∧ cnu (vv (fP F) (fE F) u.toNat) 0 (fP F - i).toNat i ro = cnu (vv (fP F) (fE F) u.toNat) 0 (fP F).toNat 0 0 ∧ ffX (hh (fP F) (fE F) u.toNat) (fP F) i fi) (fun (z_ : Int × Int × Int × Int × Int × RT) => match z_ with | (i, bn, fl, ro, fi, r1) => (fP F - i).toNat) (fun (z_ : Int × Int × Int × Int × Int × RT) => match z_ with | (i, bn, fl, ro, fi, r1) => [(ob, .inr (10, [.ref tx, .ref ps, .ref ho, .ref rk, va_rf so])), (rk, .inr (5, [.ref t0, .ref t1, .ref t2, .ref t3, .ref t4, .ref t5, .ref (fS F)])), (t0, .inr (8, [.int (iI 199), .ref q0])), (q0, gI g 796 (rV r1)), (t1, .inr (8, [.int (iI 199), .ref q1])), (q1, gI g 796 (rH r1)), (t2, .inr (8, [.int (iI 199), .ref q2])), (q2, gI g 796 (rR r1)), (t3, .inr (8, [.int (iI 40), .ref q3])), (q3, gI g 160 (nV r1)), (t4, .inr (8, [.int (iI 40), .ref q4])), (q4, gI g 160 (nS r1)), (t5, .inr (8, [.int (iI 40), .ref q5])), (q5, gI g 160 (nW r1)), (aa, gI g 40 a), (bb, gI g 40 b)]) (fun (z_ : Int × Int × Int × Int × Int × RT) => match z_ with | (i, bn, fl, ro, fi, r1) => [(9, .int (iI i)), (8, .int (iI fi)), (7, .int (iI ro)), (6, .int (iI fl)), (5, .int (iI bn)), (0, .ref ob), (1, .int (iI u)), (2, .ref aa), (3, .ref bb), (4, .int (iI (fP F)))]) ?_ (0, 0, 0, 0, (-1), r) (by exact ⟨hI, by omega, by omega, by rw [show fP F - 0 = fP F by omega], by rw [show fP F - 0 = fP F by omega], by rw [show fP F - 0 = fP F by omega], ffX_0⟩) hW (lv_sub hl [0, 1, 2, 3, 4, 5, 6, 7, 8, 9] rfl)
  rintro ⟨i, bn, fl, ro, fi, r1⟩ hinv IHl H locs ls hW hl
  try dsimp only at hinv
  have hW : gW g A s.heap H _ [(ob, .inr (10, [.ref tx, .ref ps, .ref ho, .ref rk, va_rf so])), (rk, .inr (5, [.ref t0, .ref t1, .ref t2, .ref t3, .ref t4, .ref t5, .ref (fS F)])), (t0, .inr (8, [.int (iI 199), .ref q0])), (q0, gI g 796 (rV r1)), (t1, .inr (8, [.int (iI 199), .ref q1])), (q1, gI g 796 (rH r1)), (t2, .inr (8, [.int (iI 199), .ref q2])), (q2, gI g 796 (rR r1)), (t3, .inr (8, [.int (iI 40), .ref q3])), (q3, gI g 160 (nV r1)), (t4, .inr (8, [.int (iI 40), .ref q4])), (q4, gI g 160 (nS r1)), (t5, .inr (8, [.int (iI 40), .ref q5])), (q5, gI g 160 (nW r1)), (aa, gI g 40 a), (bb, gI g 40 b)] := hW
  have hl : lv_has ls 19 [(9, .int (iI i)), (8, .int (iI fi)), (7, .int (iI ro)), (6, .int (iI fl)), (5, .int (iI bn)), (0, .ref ob), (1, .int (iI u)), (2, .ref aa), (3, .ref bb), (4, .int (iI (fP F)))] := hl
  obtain ⟨hI1, hi, hrg, heb, hef, her, hff9⟩ := hinv
  refine lv_iload S0.1 S0.2.1 dL_same_15 (lv_at hl 0 rfl) ?_
  refine lv_iload S0.1 S0.2.1 dL_same_17 (lv_at hl 9 rfl) ?_
  refine q_icmp_ge (tgt := 338) S0 (by omega) dL_same_19 (by decide) (fun c19 => ?_) (fun c19 => ?_)
  · skip
    refine lv_aload_n S0.1 S0.2.1 dL_same_338 rfl (lv_at hl 5 rfl) ?_
    refine lv_iload_n S0.1 S0.2.1 dL_same_339 rfl (lv_at hl 6 rfl) ?_
    refine q_cV (n := 1) (rest := []) (wr := [(aa, gI g 40 a), (bb, gI g 40 b)]) S0 hK hA hW (c_X10_bansOf l g ob tx ps ho so F rk t0 q0 t1 q1 t2 q2 t3 q3 t4 q4 t5 q5 r1 u (hG) (hI1) (hu)) gL_same_X10_bansOf rfl rfl rfl (by decide +kernel) ⟨by dsimp only; omega, by dsimp only; omega⟩ [0, 1, 2, 3, 4, 5, 6, 7, 8, 9, 10, 11, 12, 13] [14, 15] rfl rfl rfl rfl (by decide) (q_recv hK hW.1 (ci := 10) (q0 := 0) rfl rfl) (hO) (hfz _ _ _ hW) rfl rfl hl.1 (Nat.le_of_ble_eq_true rfl) ⟨Nat.le_of_ble_eq_true rfl, Nat.le_of_ble_eq_true rfl⟩ dL_same_340 ?_
    rintro r2 H locs hp hW
    try dsimp only at hp
    have hW : gW g A s.heap H _ [(aa, gI g 40 a), (bb, gI g 40 b), (ob, .inr (10, [.ref tx, .ref ps, .ref ho, .ref rk, va_rf so])), (rk, .inr (5, [.ref t0, .ref t1, .ref t2, .ref t3, .ref t4, .ref t5, .ref (fS F)])), (t0, .inr (8, [.int (iI 199), .ref q0])), (q0, gI g 796 (rV r2)), (t1, .inr (8, [.int (iI 199), .ref q1])), (q1, gI g 796 (rH r2)), (t2, .inr (8, [.int (iI 199), .ref q2])), (q2, gI g 796 (rR r2)), (t3, .inr (8, [.int (iI 40), .ref q3])), (q3, gI g 160 (nV r2)), (t4, .inr (8, [.int (iI 40), .ref q4])), (q4, gI g 160 (nS r2)), (t5, .inr (8, [.int (iI 40), .ref q5])), (q5, gI g 160 (nW r2))] := hW
    refine W.eq (g2 := F0 m 343 ls [.int (iI (cnu (vv (fP F) (fE F) u.toNat) (-1) (fP F).toNat 0 0))]) rfl ?_
    refine q_topI (b := bn) (by rw [← heb, show (fP F - i).toNat = 0 by omega]; rfl) ?_
    have hI2 := hp
    refine lv_iload S0.1 S0.2.1 dL_same_343 (lv_at hl 4 rfl) ?_
    refine q_icmp_ne (tgt := 382) S0 (by omega) dL_same_345 (by decide) (fun c345 => ?_) (fun c345 => ?_)
    · skip
      exact absurd rfl c345
    · skip
      refine lv_aload_n S0.1 S0.2.1 dL_same_348 rfl (lv_at hl 5 rfl) ?_
      refine lv_iload_n S0.1 S0.2.1 dL_same_349 rfl (lv_at hl 6 rfl) ?_
      refine q_cV (n := 1) (rest := []) (wr := [(aa, gI g 40 a), (bb, gI g 40 b)]) S0 hK hA hW (c_X10_flatsOf l g ob tx ps ho so F rk t0 q0 t1 q1 t2 q2 t3 q3 t4 q4 t5 q5 r2 u (hG) (hI2) (hu)) gL_same_X10_flatsOf rfl rfl rfl (by decide +kernel) ⟨by dsimp only; omega, by dsimp only; omega⟩ [2, 3, 4, 5, 6, 7, 8, 9, 10, 11, 12, 13, 14, 15] [0, 1] rfl rfl rfl rfl (by decide) (q_recv hK hW.1 (ci := 10) (q0 := 2) rfl rfl) (hO) (hfz _ _ _ hW) rfl rfl hl.1 (Nat.le_of_ble_eq_true rfl) ⟨Nat.le_of_ble_eq_true rfl, Nat.le_of_ble_eq_true rfl⟩ dL_same_350 ?_
      rintro r3 H locs hp hW
      try dsimp only at hp
      have hW : gW g A s.heap H _ [(aa, gI g 40 a), (bb, gI g 40 b), (ob, .inr (10, [.ref tx, .ref ps, .ref ho, .ref rk, va_rf so])), (rk, .inr (5, [.ref t0, .ref t1, .ref t2, .ref t3, .ref t4, .ref t5, .ref (fS F)])), (t0, .inr (8, [.int (iI 199), .ref q0])), (q0, gI g 796 (rV r3)), (t1, .inr (8, [.int (iI 199), .ref q1])), (q1, gI g 796 (rH r3)), (t2, .inr (8, [.int (iI 199), .ref q2])), (q2, gI g 796 (rR r3)), (t3, .inr (8, [.int (iI 40), .ref q3])), (q3, gI g 160 (nV r3)), (t4, .inr (8, [.int (iI 40), .ref q4])), (q4, gI g 160 (nS r3)), (t5, .inr (8, [.int (iI 40), .ref q5])), (q5, gI g 160 (nW r3))] := hW
      refine W.eq (g2 := F0 m 353 ls [.int (iI (cnu (hh (fP F) (fE F) u.toNat) 0 (fP F).toNat 0 0))]) rfl ?_
      refine q_topI (b := fl) (by rw [← hef, show (fP F - i).toNat = 0 by omega]; rfl) ?_
      have hI3 := hp
      refine lv_iload S0.1 S0.2.1 dL_same_353 (lv_at hl 3 rfl) ?_
      refine q_icmp_ne (tgt := 382) S0 (by omega) dL_same_355 (by decide) (fun c355 => ?_) (fun c355 => ?_)
      · skip
        exact absurd rfl c355
      · skip
        refine lv_aload_n S0.1 S0.2.1 dL_same_358 rfl (lv_at hl 5 rfl) ?_
        refine lv_iload_n S0.1 S0.2.1 dL_same_359 rfl (lv_at hl 6 rfl) ?_
        refine q_cV (n := 1) (rest := []) (wr := [(aa, gI g 40 a), (bb, gI g 40 b)]) S0 hK hA hW (c_X10_rootsOf l g ob tx ps ho so F rk t0 q0 t1 q1 t2 q2 t3 q3 t4 q4 t5 q5 r3 u (hG) (hI3) (hu)) gL_same_X10_rootsOf rfl rfl rfl (by decide +kernel) ⟨by dsimp only; omega, by dsimp only; omega⟩ [2, 3, 4, 5, 6, 7, 8, 9, 10, 11, 12, 13, 14, 15] [0, 1] rfl rfl rfl rfl (by decide) (q_recv hK hW.1 (ci := 10) (q0 := 2) rfl rfl) (hO) (hfz _ _ _ hW) rfl rfl hl.1 (Nat.le_of_ble_eq_true rfl) ⟨Nat.le_of_ble_eq_true rfl, Nat.le_of_ble_eq_true rfl⟩ dL_same_360 ?_
        rintro r4 H locs hp hW
        try dsimp only at hp
        have hW : gW g A s.heap H _ [(aa, gI g 40 a), (bb, gI g 40 b), (ob, .inr (10, [.ref tx, .ref ps, .ref ho, .ref rk, va_rf so])), (rk, .inr (5, [.ref t0, .ref t1, .ref t2, .ref t3, .ref t4, .ref t5, .ref (fS F)])), (t0, .inr (8, [.int (iI 199), .ref q0])), (q0, gI g 796 (rV r4)), (t1, .inr (8, [.int (iI 199), .ref q1])), (q1, gI g 796 (rH r4)), (t2, .inr (8, [.int (iI 199), .ref q2])), (q2, gI g 796 (rR r4)), (t3, .inr (8, [.int (iI 40), .ref q3])), (q3, gI g 160 (nV r4)), (t4, .inr (8, [.int (iI 40), .ref q4])), (q4, gI g 160 (nS r4)), (t5, .inr (8, [.int (iI 40), .ref q5])), (q5, gI g 160 (nW r4))] := hW
        refine W.eq (g2 := F0 m 363 ls [.int (iI (cnu (vv (fP F) (fE F) u.toNat) 0 (fP F).toNat 0 0))]) rfl ?_
        refine q_topI (b := ro) (by rw [← her, show (fP F - i).toNat = 0 by omega]; rfl) ?_
        have hI4 := hp
        refine lv_iload S0.1 S0.2.1 dL_same_363 (lv_at hl 2 rfl) ?_
        refine q_icmp_ne (tgt := 382) S0 (by omega) dL_same_365 (by decide) (fun c365 => ?_) (fun c365 => ?_)
        · skip
          exact absurd rfl c365
        · skip
          refine lv_aload_n S0.1 S0.2.1 dL_same_368 rfl (lv_at hl 5 rfl) ?_
          refine lv_iload_n S0.1 S0.2.1 dL_same_369 rfl (lv_at hl 6 rfl) ?_
          refine q_cV (n := 1) (rest := []) (wr := [(aa, gI g 40 a), (bb, gI g 40 b)]) S0 hK hA hW (c_X10_firstFlat l g ob tx ps ho so F rk t0 q0 t1 q1 t2 q2 t3 q3 t4 q4 t5 q5 r4 u (hG) (hI4) (hu)) gL_same_X10_firstFlat rfl rfl rfl (by decide +kernel) ⟨by dsimp only; omega, by dsimp only; omega⟩ [2, 3, 4, 5, 6, 7, 8, 9, 10, 11, 12, 13, 14, 15] [0, 1] rfl rfl rfl rfl (by decide) (q_recv hK hW.1 (ci := 10) (q0 := 2) rfl rfl) (hO) (hfz _ _ _ hW) rfl rfl hl.1 (Nat.le_of_ble_eq_true rfl) ⟨Nat.le_of_ble_eq_true rfl, Nat.le_of_ble_eq_true rfl⟩ dL_same_370 ?_
          rintro r5 H locs hp hW
          try dsimp only at hp
          have hW : gW g A s.heap H _ [(aa, gI g 40 a), (bb, gI g 40 b), (ob, .inr (10, [.ref tx, .ref ps, .ref ho, .ref rk, va_rf so])), (rk, .inr (5, [.ref t0, .ref t1, .ref t2, .ref t3, .ref t4, .ref t5, .ref (fS F)])), (t0, .inr (8, [.int (iI 199), .ref q0])), (q0, gI g 796 (rV r5)), (t1, .inr (8, [.int (iI 199), .ref q1])), (q1, gI g 796 (rH r5)), (t2, .inr (8, [.int (iI 199), .ref q2])), (q2, gI g 796 (rR r5)), (t3, .inr (8, [.int (iI 40), .ref q3])), (q3, gI g 160 (nV r5)), (t4, .inr (8, [.int (iI 40), .ref q4])), (q4, gI g 160 (nS r5)), (t5, .inr (8, [.int (iI 40), .ref q5])), (q5, gI g 160 (nW r5))] := hW
          refine W.eq (g2 := F0 m 373 ls [.int (iI (ffu (hh (fP F) (fE F) u.toNat) (fP F).toNat 0))]) rfl ?_
          refine q_topI (b := fi) (ffX_e (by omega) hff9) ?_
          have hI5 := hp
          refine lv_iload S0.1 S0.2.1 dL_same_373 (lv_at hl 1 rfl) ?_
          refine q_icmp_ne (tgt := 382) S0 (by omega) dL_same_375 (by decide) (fun c375 => ?_) (fun c375 => ?_)
          · skip
            exact absurd rfl c375
          · skip
            refine q_iconst S0 dL_same_378 ?_
            refine lv_goto (tgt := 383) S0.1 S0.2.1 dL_same_379 (by decide) ?_
            exact q_zret S0 hr hlocks r5 (hI5) (by first | exact Or.inl rfl | exact Or.inr rfl | omega) (rfl) (hW.sub [2, 3, 4, 5, 6, 7, 8, 9, 10, 11, 12, 13, 14, 15, 0, 1] rfl (rfl)) (Nat.le_of_ble_eq_true rfl) (Nat.le_of_ble_eq_true rfl) dL_same_383
  · skip
    refine lv_aload_n S0.1 S0.2.1 dL_same_22 rfl (lv_at hl 7 rfl) ?_
    refine lv_iload S0.1 S0.2.1 dL_same_23 (lv_at hl 0 rfl) ?_
    refine lv_iload S0.1 S0.2.1 dL_same_25 (lv_at hl 9 rfl) ?_
    refine q_pS (n := 3) (rest := []) S0 hK (c_L_at l g aa a i (fP F) (by omega) (by omega) (ha)) (subP hW.1 [14] rfl) (trivial) gL_same_L_at rfl rfl rfl (by decide +kernel) ⟨by dsimp only; omega, by dsimp only; omega⟩ rfl rfl hl.1 (Nat.le_of_ble_eq_true rfl) ⟨Nat.le_of_ble_eq_true rfl, Nat.le_of_ble_eq_true rfl⟩ dL_same_27 ?_
    refine W.eq (g2 := F0 m 30 ls [.int (iI (hor a i (fP F) 40 0))]) rfl ?_
    refine q_nm (fun uu huu => ?_)
    have uur := hor_rng (f := a) (x := i) (p := fP F) (by omega) 40 0 ⟨by omega, by omega⟩
    rw [← huu] at uur
    refine lv_istore (lv' := [(10, .int (iI uu)), (9, .int (iI i)), (8, .int (iI fi)), (7, .int (iI ro)), (6, .int (iI fl)), (5, .int (iI bn)), (0, .ref ob), (1, .int (iI u)), (2, .ref aa), (3, .ref bb), (4, .int (iI (fP F)))]) S0.1 S0.2.1 dL_same_30 hl (by decide) rfl (fun ls hl => ?_)
    refine lv_aload_n S0.1 S0.2.1 dL_same_32 rfl (lv_at hl 9 rfl) ?_
    refine lv_iload S0.1 S0.2.1 dL_same_33 (lv_at hl 1 rfl) ?_
    refine lv_iload S0.1 S0.2.1 dL_same_35 (lv_at hl 10 rfl) ?_
    refine q_pS (n := 3) (rest := []) S0 hK (c_L_at l g bb b i (fP F) (by omega) (by omega) (hb)) (subP hW.1 [15] rfl) (trivial) gL_same_L_at rfl rfl rfl (by decide +kernel) ⟨by dsimp only; omega, by dsimp only; omega⟩ rfl rfl hl.1 (Nat.le_of_ble_eq_true rfl) ⟨Nat.le_of_ble_eq_true rfl, Nat.le_of_ble_eq_true rfl⟩ dL_same_37 ?_
    refine W.eq (g2 := F0 m 40 ls [.int (iI (hor b i (fP F) 40 0))]) rfl ?_
    refine q_nm (fun vb hvb => ?_)
    have vbr := hor_rng (f := b) (x := i) (p := fP F) (by omega) 40 0 ⟨by omega, by omega⟩
    rw [← hvb] at vbr
    refine lv_istore (lv' := [(11, .int (iI vb)), (10, .int (iI uu)), (9, .int (iI i)), (8, .int (iI fi)), (7, .int (iI ro)), (6, .int (iI fl)), (5, .int (iI bn)), (0, .ref ob), (1, .int (iI u)), (2, .ref aa), (3, .ref bb), (4, .int (iI (fP F)))]) S0.1 S0.2.1 dL_same_40 hl (by decide) rfl (fun ls hl => ?_)
    refine lv_aload_n S0.1 S0.2.1 dL_same_42 rfl (lv_at hl 9 rfl) ?_
    refine lv_iload S0.1 S0.2.1 dL_same_43 (lv_at hl 2 rfl) ?_
    refine lv_iload S0.1 S0.2.1 dL_same_45 (lv_at hl 11 rfl) ?_
    refine q_pS (n := 3) (rest := []) S0 hK (c_L_slopeAt l g aa a i (fP F) (by omega) (by omega) (ha)) (subP hW.1 [14] rfl) (trivial) gL_same_L_slopeAt rfl rfl rfl (by decide +kernel) ⟨by dsimp only; omega, by dsimp only; omega⟩ rfl rfl hl.1 (Nat.le_of_ble_eq_true rfl) ⟨Nat.le_of_ble_eq_true rfl, Nat.le_of_ble_eq_true rfl⟩ dL_same_47 ?_
    refine W.eq (g2 := F0 m 50 ls [.int (iI (hor (dh a (fP F)) i (fP F) 39 0))]) rfl ?_
    refine q_nm (fun su hsu => ?_)
    have sur := hor_rng (f := dh a (fP F)) (x := i) (p := fP F) (by omega) 39 0 ⟨by omega, by omega⟩
    rw [← hsu] at sur
    refine lv_istore (lv' := [(12, .int (iI su)), (11, .int (iI vb)), (10, .int (iI uu)), (9, .int (iI i)), (8, .int (iI fi)), (7, .int (iI ro)), (6, .int (iI fl)), (5, .int (iI bn)), (0, .ref ob), (1, .int (iI u)), (2, .ref aa), (3, .ref bb), (4, .int (iI (fP F)))]) S0.1 S0.2.1 dL_same_50 hl (by decide) rfl (fun ls hl => ?_)
    refine lv_aload_n S0.1 S0.2.1 dL_same_52 rfl (lv_at hl 11 rfl) ?_
    refine lv_iload S0.1 S0.2.1 dL_same_53 (lv_at hl 3 rfl) ?_
    refine lv_iload S0.1 S0.2.1 dL_same_55 (lv_at hl 12 rfl) ?_
    refine q_pS (n := 3) (rest := []) S0 hK (c_L_slopeAt l g bb b i (fP F) (by omega) (by omega) (hb)) (subP hW.1 [15] rfl) (trivial) gL_same_L_slopeAt rfl rfl rfl (by decide +kernel) ⟨by dsimp only; omega, by dsimp only; omega⟩ rfl rfl hl.1 (Nat.le_of_ble_eq_true rfl) ⟨Nat.le_of_ble_eq_true rfl, Nat.le_of_ble_eq_true rfl⟩ dL_same_57 ?_
    refine W.eq (g2 := F0 m 60 ls [.int (iI (hor (dh b (fP F)) i (fP F) 39 0))]) rfl ?_
    refine q_nm (fun sv hsv => ?_)
    have svr := hor_rng (f := dh b (fP F)) (x := i) (p := fP F) (by omega) 39 0 ⟨by omega, by omega⟩
    rw [← hsv] at svr
    refine lv_istore (lv' := [(13, .int (iI sv)), (12, .int (iI su)), (11, .int (iI vb)), (10, .int (iI uu)), (9, .int (iI i)), (8, .int (iI fi)), (7, .int (iI ro)), (6, .int (iI fl)), (5, .int (iI bn)), (0, .ref ob), (1, .int (iI u)), (2, .ref aa), (3, .ref bb), (4, .int (iI (fP F)))]) S0.1 S0.2.1 dL_same_60 hl (by decide) rfl (fun ls hl => ?_)
    refine q_cut (α := Unit) (fun _ => F0 m 72 ls (.int (iI (if ¬ vb = 0 then (1 : Int) else 0)) :: [])) (fun _ => True) (fun _ _ => ?_) (fun hJ62 => ?_)
    · skip
      refine lv_istore (lv' := [(14, .int (iI (if ¬ vb = 0 then (1 : Int) else 0))), (13, .int (iI sv)), (12, .int (iI su)), (11, .int (iI vb)), (10, .int (iI uu)), (9, .int (iI i)), (8, .int (iI fi)), (7, .int (iI ro)), (6, .int (iI fl)), (5, .int (iI bn)), (0, .ref ob), (1, .int (iI u)), (2, .ref aa), (3, .ref bb), (4, .int (iI (fP F)))]) S0.1 S0.2.1 dL_same_72 hl (by decide) rfl (fun ls hl => ?_)
      refine q_cut (α := Int) (fun iv => F0 m 90 ls (.int (iI iv) :: [])) (fun iv => iv = if vb = 0 then 0 else inv' (fP F) vb) (fun iv hiv => ?_) (fun hJ74 => ?_)
      · skip
        have hivr : 0 ≤ iv ∧ iv < fP F := by rw [hiv]; split; omega; exact inv'_rng (by omega)
        have hm := mul_rng (a := uu) (b := iv) (n := 200) (k := 200) (by omega) (by omega)
        have hm2 := mul_rng (a := iv) (b := iv) (n := 200) (k := 200) (by omega) (by omega)
        have hm3 := mul_rng (a := su) (b := vb) (n := 200) (k := 200) (by omega) (by omega)
        have hm4 := mul_rng (a := uu) (b := sv) (n := 200) (k := 200) (by omega) (by omega)
        refine lv_istore (lv' := [(15, .int (iI iv)), (14, .int (iI (if ¬ vb = 0 then (1 : Int) else 0))), (13, .int (iI sv)), (12, .int (iI su)), (11, .int (iI vb)), (10, .int (iI uu)), (9, .int (iI i)), (8, .int (iI fi)), (7, .int (iI ro)), (6, .int (iI fl)), (5, .int (iI bn)), (0, .ref ob), (1, .int (iI u)), (2, .ref aa), (3, .ref bb), (4, .int (iI (fP F)))]) S0.1 S0.2.1 dL_same_90 hl (by decide) rfl (fun ls hl => ?_)
        refine q_cut (α := Int) (fun va => F0 m 111 ls (.int (iI va) :: [])) (fun va => va = if vb = 0 then -1 else uu * iv % fP F) (fun va hva => ?_) (fun hJ92 => ?_)
        · skip
          have hva2 : lvV (fP F) a b i = va := by rw [hva, hiv]; exact lvV_of huu hvb
          have hvar : (vb = 0 ∧ va = -1) ∨ (¬ vb = 0 ∧ 0 ≤ va ∧ va < fP F) := by rw [hva]; exact ite_rng _ _ (emod_rng _ (by omega))
          refine lv_istore (lv' := [(16, .int (iI va)), (15, .int (iI iv)), (14, .int (iI (if ¬ vb = 0 then (1 : Int) else 0))), (13, .int (iI sv)), (12, .int (iI su)), (11, .int (iI vb)), (10, .int (iI uu)), (9, .int (iI i)), (8, .int (iI fi)), (7, .int (iI ro)), (6, .int (iI fl)), (5, .int (iI bn)), (0, .ref ob), (1, .int (iI u)), (2, .ref aa), (3, .ref bb), (4, .int (iI (fP F)))]) S0.1 S0.2.1 dL_same_111 hl (by decide) rfl (fun ls hl => ?_)
          refine q_cut (α := Int) (fun sl => F0 m 154 ls (.int (iI sl) :: [])) (fun sl => sl = if vb = 0 then -1 else (su * vb - uu * sv) % fP F * (iv * iv % fP F) % fP F) (fun sl hsl => ?_) (fun hJ113 => ?_)
          · skip
            have hsl2 : lsS (fP F) a b i = sl := by rw [hsl, hiv]; exact lsS_of huu hvb hsu hsv
            have hslr : (vb = 0 ∧ sl = -1) ∨ (¬ vb = 0 ∧ 0 ≤ sl ∧ sl < fP F) := by rw [hsl]; exact ite_rng _ _ (emod_rng _ (by omega))
            refine lv_istore (lv' := [(17, .int (iI sl)), (16, .int (iI va)), (15, .int (iI iv)), (14, .int (iI (if ¬ vb = 0 then (1 : Int) else 0))), (13, .int (iI sv)), (12, .int (iI su)), (11, .int (iI vb)), (10, .int (iI uu)), (9, .int (iI i)), (8, .int (iI fi)), (7, .int (iI ro)), (6, .int (iI fl)), (5, .int (iI bn)), (0, .ref ob), (1, .int (iI u)), (2, .ref aa), (3, .ref bb), (4, .int (iI (fP F)))]) S0.1 S0.2.1 dL_same_154 hl (by decide) rfl (fun ls hl => ?_)
            refine q_cut (α := Int) (fun nx => F0 m 188 ls (.int (iI nx) :: [])) (fun nx => nx = if vb = 0 ∨ sl = 0 then -1 else (i - va * inv' (fP F) sl) % fP F) (fun nx hnx => ?_) (fun hJ156 => ?_)
            · skip
              have hnxr : -1 ≤ nx ∧ nx < fP F := by rw [hnx]; split; omega; exact ⟨by have := emod_rng (i - va * inv' (fP F) sl) (p := fP F) (by omega); omega, (emod_rng _ (by omega)).2⟩
              refine lv_istore (lv' := [(18, .int (iI nx)), (17, .int (iI sl)), (16, .int (iI va)), (15, .int (iI iv)), (14, .int (iI (if ¬ vb = 0 then (1 : Int) else 0))), (13, .int (iI sv)), (12, .int (iI su)), (11, .int (iI vb)), (10, .int (iI uu)), (9, .int (iI i)), (8, .int (iI fi)), (7, .int (iI ro)), (6, .int (iI fl)), (5, .int (iI bn)), (0, .ref ob), (1, .int (iI u)), (2, .ref aa), (3, .ref bb), (4, .int (iI (fP F)))]) S0.1 S0.2.1 dL_same_188 hl (by decide) rfl (fun ls hl => ?_)
              refine lv_iload S0.1 S0.2.1 dL_same_190 (lv_at hl 13 rfl) ?_
              refine q_cut (α := Int) (fun z1 => F0 m 202 ls (.int (iI z1) :: [.int (iI bn)])) (fun z1 => z1 = if vb = 0 then 1 else 0) (fun z1 hz1 => ?_) (fun hJ192 => ?_)
              · skip
                have hz1r : 0 ≤ z1 ∧ z1 ≤ 1 := by rw [hz1]; split <;> omega
                refine q_iadd S0 dL_same_202 ?_
                refine lv_istore (lv' := [(5, .int (iI (bn + z1))), (18, .int (iI nx)), (17, .int (iI sl)), (16, .int (iI va)), (15, .int (iI iv)), (14, .int (iI (if ¬ vb = 0 then (1 : Int) else 0))), (13, .int (iI sv)), (12, .int (iI su)), (11, .int (iI vb)), (10, .int (iI uu)), (9, .int (iI i)), (8, .int (iI fi)), (7, .int (iI ro)), (6, .int (iI fl)), (0, .ref ob), (1, .int (iI u)), (2, .ref aa), (3, .ref bb), (4, .int (iI (fP F)))]) S0.1 S0.2.1 dL_same_203 hl (by decide) rfl (fun ls hl => ?_)
                refine lv_iload S0.1 S0.2.1 dL_same_205 (lv_at hl 13 rfl) ?_
                refine q_cut (α := Int) (fun z2 => F0 m 217 ls (.int (iI z2) :: [.int (iI fl)])) (fun z2 => z2 = if sl = 0 then 1 else 0) (fun z2 hz2 => ?_) (fun hJ207 => ?_)
                · skip
                  have hz2r : 0 ≤ z2 ∧ z2 ≤ 1 := by rw [hz2]; split <;> omega
                  refine q_iadd S0 dL_same_217 ?_
                  refine lv_istore (lv' := [(6, .int (iI (fl + z2))), (5, .int (iI (bn + z1))), (18, .int (iI nx)), (17, .int (iI sl)), (16, .int (iI va)), (15, .int (iI iv)), (14, .int (iI (if ¬ vb = 0 then (1 : Int) else 0))), (13, .int (iI sv)), (12, .int (iI su)), (11, .int (iI vb)), (10, .int (iI uu)), (9, .int (iI i)), (8, .int (iI fi)), (7, .int (iI ro)), (0, .ref ob), (1, .int (iI u)), (2, .ref aa), (3, .ref bb), (4, .int (iI (fP F)))]) S0.1 S0.2.1 dL_same_218 hl (by decide) rfl (fun ls hl => ?_)
                  refine q_cut (α := Int) (fun z3 => F0 m 237 ls (.int (iI z3) :: [])) (fun z3 => z3 = if sl = 0 ∧ fi < 0 then i else fi) (fun z3 hz3 => ?_) (fun hJ220 => ?_)
                  · skip
                    have hz3r : -1 ≤ z3 ∧ z3 ≤ i + 1 := by rw [hz3]; split <;> omega
                    refine lv_istore (lv' := [(8, .int (iI z3)), (6, .int (iI (fl + z2))), (5, .int (iI (bn + z1))), (18, .int (iI nx)), (17, .int (iI sl)), (16, .int (iI va)), (15, .int (iI iv)), (14, .int (iI (if ¬ vb = 0 then (1 : Int) else 0))), (13, .int (iI sv)), (12, .int (iI su)), (11, .int (iI vb)), (10, .int (iI uu)), (9, .int (iI i)), (7, .int (iI ro)), (0, .ref ob), (1, .int (iI u)), (2, .ref aa), (3, .ref bb), (4, .int (iI (fP F)))]) S0.1 S0.2.1 dL_same_237 hl (by decide) rfl (fun ls hl => ?_)
                    refine lv_iload S0.1 S0.2.1 dL_same_239 (lv_at hl 13 rfl) ?_
                    refine q_cut (α := Int) (fun z4 => F0 m 251 ls (.int (iI z4) :: [.int (iI ro)])) (fun z4 => z4 = if va = 0 then 1 else 0) (fun z4 hz4 => ?_) (fun hJ241 => ?_)
                    · skip
                      have hz4r : 0 ≤ z4 ∧ z4 ≤ 1 := by rw [hz4]; split <;> omega
                      refine q_iadd S0 dL_same_251 ?_
                      refine lv_istore (lv' := [(7, .int (iI (ro + z4))), (8, .int (iI z3)), (6, .int (iI (fl + z2))), (5, .int (iI (bn + z1))), (18, .int (iI nx)), (17, .int (iI sl)), (16, .int (iI va)), (15, .int (iI iv)), (14, .int (iI (if ¬ vb = 0 then (1 : Int) else 0))), (13, .int (iI sv)), (12, .int (iI su)), (11, .int (iI vb)), (10, .int (iI uu)), (9, .int (iI i)), (0, .ref ob), (1, .int (iI u)), (2, .ref aa), (3, .ref bb), (4, .int (iI (fP F)))]) S0.1 S0.2.1 dL_same_252 hl (by decide) rfl (fun ls hl => ?_)
                      refine lv_aload_n S0.1 S0.2.1 dL_same_254 rfl (lv_at hl 14 rfl) ?_
                      refine lv_iload_n S0.1 S0.2.1 dL_same_255 rfl (lv_at hl 15 rfl) ?_
                      refine lv_iload S0.1 S0.2.1 dL_same_256 (lv_at hl 13 rfl) ?_
                      refine q_cV (n := 2) (rest := []) (wr := [(aa, gI g 40 a), (bb, gI g 40 b)]) S0 hK hA hW (c_X10_valueAt l g ob tx ps ho so F rk t0 q0 t1 q1 t2 q2 t3 q3 t4 q4 t5 q5 r1 u i (hG) (hI1) (hu) (by omega)) gL_same_X10_valueAt rfl rfl rfl (by decide +kernel) ⟨by dsimp only; omega, by dsimp only; omega⟩ [0, 1, 2, 3, 4, 5, 6, 7, 8, 9, 10, 11, 12, 13] [14, 15] rfl rfl rfl rfl (by decide) (q_recv hK hW.1 (ci := 10) (q0 := 0) rfl rfl) (hO) (hfz _ _ _ hW) rfl rfl hl.1 (Nat.le_of_ble_eq_true rfl) ⟨Nat.le_of_ble_eq_true rfl, Nat.le_of_ble_eq_true rfl⟩ dL_same_258 ?_
                      rintro r2 H locs hp hW
                      try dsimp only at hp
                      have hW : gW g A s.heap H _ [(aa, gI g 40 a), (bb, gI g 40 b), (ob, .inr (10, [.ref tx, .ref ps, .ref ho, .ref rk, va_rf so])), (rk, .inr (5, [.ref t0, .ref t1, .ref t2, .ref t3, .ref t4, .ref t5, .ref (fS F)])), (t0, .inr (8, [.int (iI 199), .ref q0])), (q0, gI g 796 (rV r2)), (t1, .inr (8, [.int (iI 199), .ref q1])), (q1, gI g 796 (rH r2)), (t2, .inr (8, [.int (iI 199), .ref q2])), (q2, gI g 796 (rR r2)), (t3, .inr (8, [.int (iI 40), .ref q3])), (q3, gI g 160 (nV r2)), (t4, .inr (8, [.int (iI 40), .ref q4])), (q4, gI g 160 (nS r2)), (t5, .inr (8, [.int (iI 40), .ref q5])), (q5, gI g 160 (nW r2))] := hW
                      refine W.eq (g2 := F0 m 261 ls [.int (iI (vv (fP F) (fE F) u.toNat i))]) rfl ?_
                      refine q_topI (b := va) ((hV i (by omega) (by omega)).trans hva2) ?_
                      have hI2 := hp
                      refine lv_iload S0.1 S0.2.1 dL_same_261 (lv_at hl 6 rfl) ?_
                      refine q_icmp_ne (tgt := 330) S0 (by omega) dL_same_263 (by decide) (fun c263 => ?_) (fun c263 => ?_)
                      · skip
                        exact absurd rfl c263
                      · skip
                        refine lv_aload_n S0.1 S0.2.1 dL_same_266 rfl (lv_at hl 14 rfl) ?_
                        refine lv_iload_n S0.1 S0.2.1 dL_same_267 rfl (lv_at hl 15 rfl) ?_
                        refine lv_iload S0.1 S0.2.1 dL_same_268 (lv_at hl 13 rfl) ?_
                        refine q_cV (n := 2) (rest := []) (wr := [(aa, gI g 40 a), (bb, gI g 40 b)]) S0 hK hA hW (c_X10_slopeByHinges l g ob tx ps ho so F rk t0 q0 t1 q1 t2 q2 t3 q3 t4 q4 t5 q5 r2 u i (hG) (hI2) (hu) (by omega)) gL_same_X10_slopeByHinges rfl rfl rfl (by decide +kernel) ⟨by dsimp only; omega, by dsimp only; omega⟩ [2, 3, 4, 5, 6, 7, 8, 9, 10, 11, 12, 13, 14, 15] [0, 1] rfl rfl rfl rfl (by decide) (q_recv hK hW.1 (ci := 10) (q0 := 2) rfl rfl) (hO) (hfz _ _ _ hW) rfl rfl hl.1 (Nat.le_of_ble_eq_true rfl) ⟨Nat.le_of_ble_eq_true rfl, Nat.le_of_ble_eq_true rfl⟩ dL_same_270 ?_
                        rintro r3 H locs hp hW
                        try dsimp only at hp
                        have hW : gW g A s.heap H _ [(aa, gI g 40 a), (bb, gI g 40 b), (ob, .inr (10, [.ref tx, .ref ps, .ref ho, .ref rk, va_rf so])), (rk, .inr (5, [.ref t0, .ref t1, .ref t2, .ref t3, .ref t4, .ref t5, .ref (fS F)])), (t0, .inr (8, [.int (iI 199), .ref q0])), (q0, gI g 796 (rV r3)), (t1, .inr (8, [.int (iI 199), .ref q1])), (q1, gI g 796 (rH r3)), (t2, .inr (8, [.int (iI 199), .ref q2])), (q2, gI g 796 (rR r3)), (t3, .inr (8, [.int (iI 40), .ref q3])), (q3, gI g 160 (nV r3)), (t4, .inr (8, [.int (iI 40), .ref q4])), (q4, gI g 160 (nS r3)), (t5, .inr (8, [.int (iI 40), .ref q5])), (q5, gI g 160 (nW r3))] := hW
                        refine W.eq (g2 := F0 m 273 ls [.int (iI (hh (fP F) (fE F) u.toNat i))]) rfl ?_
                        refine q_topI (b := sl) ((hH i (by omega) (by omega)).trans hsl2) ?_
                        have hI3 := hp
                        refine lv_iload S0.1 S0.2.1 dL_same_273 (lv_at hl 5 rfl) ?_
                        refine q_icmp_ne (tgt := 330) S0 (by omega) dL_same_275 (by decide) (fun c275 => ?_) (fun c275 => ?_)
                        · skip
                          exact absurd rfl c275
                        · skip
                          refine lv_aload_n S0.1 S0.2.1 dL_same_278 rfl (lv_at hl 14 rfl) ?_
                          refine lv_iload_n S0.1 S0.2.1 dL_same_279 rfl (lv_at hl 15 rfl) ?_
                          refine lv_iload S0.1 S0.2.1 dL_same_280 (lv_at hl 13 rfl) ?_
                          refine q_cV (n := 2) (rest := []) (wr := [(aa, gI g 40 a), (bb, gI g 40 b)]) S0 hK hA hW (c_X10_slopeByRules l g ob tx ps ho so F rk t0 q0 t1 q1 t2 q2 t3 q3 t4 q4 t5 q5 r3 u i (hG) (hI3) (hu) (by omega)) gL_same_X10_slopeByRules rfl rfl rfl (by decide +kernel) ⟨by dsimp only; omega, by dsimp only; omega⟩ [2, 3, 4, 5, 6, 7, 8, 9, 10, 11, 12, 13, 14, 15] [0, 1] rfl rfl rfl rfl (by decide) (q_recv hK hW.1 (ci := 10) (q0 := 2) rfl rfl) (hO) (hfz _ _ _ hW) rfl rfl hl.1 (Nat.le_of_ble_eq_true rfl) ⟨Nat.le_of_ble_eq_true rfl, Nat.le_of_ble_eq_true rfl⟩ dL_same_282 ?_
                          rintro r4 H locs hp hW
                          try dsimp only at hp
                          have hW : gW g A s.heap H _ [(aa, gI g 40 a), (bb, gI g 40 b), (ob, .inr (10, [.ref tx, .ref ps, .ref ho, .ref rk, va_rf so])), (rk, .inr (5, [.ref t0, .ref t1, .ref t2, .ref t3, .ref t4, .ref t5, .ref (fS F)])), (t0, .inr (8, [.int (iI 199), .ref q0])), (q0, gI g 796 (rV r4)), (t1, .inr (8, [.int (iI 199), .ref q1])), (q1, gI g 796 (rH r4)), (t2, .inr (8, [.int (iI 199), .ref q2])), (q2, gI g 796 (rR r4)), (t3, .inr (8, [.int (iI 40), .ref q3])), (q3, gI g 160 (nV r4)), (t4, .inr (8, [.int (iI 40), .ref q4])), (q4, gI g 160 (nS r4)), (t5, .inr (8, [.int (iI 40), .ref q5])), (q5, gI g 160 (nW r4))] := hW
                          refine W.eq (g2 := F0 m 285 ls [.int (iI (hh (fP F) (fE F) u.toNat i))]) rfl ?_
                          refine q_topI (b := sl) ((hH i (by omega) (by omega)).trans hsl2) ?_
                          have hI4 := hp
                          refine lv_iload S0.1 S0.2.1 dL_same_285 (lv_at hl 5 rfl) ?_
                          refine q_icmp_ne (tgt := 330) S0 (by omega) dL_same_287 (by decide) (fun c287 => ?_) (fun c287 => ?_)
                          · skip
                            exact absurd rfl c287
                          · skip
                            refine lv_aload_n S0.1 S0.2.1 dL_same_290 rfl (lv_at hl 14 rfl) ?_
                            refine lv_iload_n S0.1 S0.2.1 dL_same_291 rfl (lv_at hl 15 rfl) ?_
                            refine lv_iload S0.1 S0.2.1 dL_same_292 (lv_at hl 13 rfl) ?_
                            refine q_cV (n := 2) (rest := []) (wr := [(aa, gI g 40 a), (bb, gI g 40 b)]) S0 hK hA hW (c_X10_step l g ob tx ps ho so F rk t0 q0 t1 q1 t2 q2 t3 q3 t4 q4 t5 q5 r4 u i (hG) (hI4) (hu) (by omega)) gL_same_X10_step rfl rfl rfl (by decide +kernel) ⟨by dsimp only; omega, by dsimp only; omega⟩ [2, 3, 4, 5, 6, 7, 8, 9, 10, 11, 12, 13, 14, 15] [0, 1] rfl rfl rfl rfl (by decide) (q_recv hK hW.1 (ci := 10) (q0 := 2) rfl rfl) (hO) (hfz _ _ _ hW) rfl rfl hl.1 (Nat.le_of_ble_eq_true rfl) ⟨Nat.le_of_ble_eq_true rfl, Nat.le_of_ble_eq_true rfl⟩ dL_same_294 ?_
                            rintro r5 H locs hp hW
                            try dsimp only at hp
                            have hW : gW g A s.heap H _ [(aa, gI g 40 a), (bb, gI g 40 b), (ob, .inr (10, [.ref tx, .ref ps, .ref ho, .ref rk, va_rf so])), (rk, .inr (5, [.ref t0, .ref t1, .ref t2, .ref t3, .ref t4, .ref t5, .ref (fS F)])), (t0, .inr (8, [.int (iI 199), .ref q0])), (q0, gI g 796 (rV r5)), (t1, .inr (8, [.int (iI 199), .ref q1])), (q1, gI g 796 (rH r5)), (t2, .inr (8, [.int (iI 199), .ref q2])), (q2, gI g 796 (rR r5)), (t3, .inr (8, [.int (iI 40), .ref q3])), (q3, gI g 160 (nV r5)), (t4, .inr (8, [.int (iI 40), .ref q4])), (q4, gI g 160 (nS r5)), (t5, .inr (8, [.int (iI 40), .ref q5])), (q5, gI g 160 (nW r5))] := hW
                            refine W.eq (g2 := F0 m 297 ls [.int (iI (nxF F u i))]) rfl ?_
                            refine q_topI (b := nx) (nxF_of ((hV i (by omega) (by omega)).trans hva2) ((hH i (by omega) (by omega)).trans hsl2) hvar hnx) ?_
                            have hI5 := hp
                            refine lv_iload S0.1 S0.2.1 dL_same_297 (lv_at hl 4 rfl) ?_
                            refine q_icmp_ne (tgt := 330) S0 (by omega) dL_same_299 (by decide) (fun c299 => ?_) (fun c299 => ?_)
                            · skip
                              exact absurd rfl c299
                            · skip
                              refine lv_aload_n S0.1 S0.2.1 dL_same_302 rfl (lv_at hl 14 rfl) ?_
                              refine lv_iload_n S0.1 S0.2.1 dL_same_303 rfl (lv_at hl 15 rfl) ?_
                              refine lv_iload S0.1 S0.2.1 dL_same_304 (lv_at hl 13 rfl) ?_
                              refine q_cV (n := 2) (rest := []) (wr := [(aa, gI g 40 a), (bb, gI g 40 b)]) S0 hK hA hW (c_X10_stepsToRoot l g ob tx ps ho so F rk t0 q0 t1 q1 t2 q2 t3 q3 t4 q4 t5 q5 r5 u i (hG) (hI5) (hu) (by omega)) gL_same_X10_stepsToRoot rfl rfl rfl (by decide +kernel) ⟨by dsimp only; omega, by dsimp only; omega⟩ [2, 3, 4, 5, 6, 7, 8, 9, 10, 11, 12, 13, 14, 15] [0, 1] rfl rfl rfl rfl (by decide) (q_recv hK hW.1 (ci := 10) (q0 := 2) rfl rfl) (hO) (hfz _ _ _ hW) rfl rfl hl.1 (Nat.le_of_ble_eq_true rfl) ⟨Nat.le_of_ble_eq_true rfl, Nat.le_of_ble_eq_true rfl⟩ dL_same_306 ?_
                              rintro r6 H locs hp hW
                              try dsimp only at hp
                              have hW : gW g A s.heap H _ [(aa, gI g 40 a), (bb, gI g 40 b), (ob, .inr (10, [.ref tx, .ref ps, .ref ho, .ref rk, va_rf so])), (rk, .inr (5, [.ref t0, .ref t1, .ref t2, .ref t3, .ref t4, .ref t5, .ref (fS F)])), (t0, .inr (8, [.int (iI 199), .ref q0])), (q0, gI g 796 (rV r6)), (t1, .inr (8, [.int (iI 199), .ref q1])), (q1, gI g 796 (rH r6)), (t2, .inr (8, [.int (iI 199), .ref q2])), (q2, gI g 796 (rR r6)), (t3, .inr (8, [.int (iI 40), .ref q3])), (q3, gI g 160 (nV r6)), (t4, .inr (8, [.int (iI 40), .ref q4])), (q4, gI g 160 (nS r6)), (t5, .inr (8, [.int (iI 40), .ref q5])), (q5, gI g 160 (nW r6))] := hW
                              refine W.eq (g2 := F0 m 309 ls [.int (iI (sru (vv (fP F) (fE F) u.toNat) (nxF F u) (fP F).toNat 0 i))]) rfl ?_
                              refine q_nm (fun st9 hst9 => ?_)
                              have hI6 := hp
                              have hcase : st9 = 0 ↔ va = 0 := by rw [hst9, ← hva2, ← hV i (by omega) (by omega)]; exact sru_iff (by omega) (by omega)
                              have hst9r := sru_rng (V := (vv (fP F) (fE F) u.toNat)) (N := nxF F u) (fP F).toNat 0 i
                              rw [← hst9] at hst9r
                              clear hst9
                              refine q_if_ne (tgt := 316) S0 (by omega) dL_same_309 (by decide) (fun c309 => ?_) (fun c309 => ?_)
                              · skip
                                refine q_iconst S0 dL_same_316 ?_
                                refine lv_iload S0.1 S0.2.1 dL_same_317 (lv_at hl 6 rfl) ?_
                                refine q_if_ne (tgt := 326) S0 (by omega) dL_same_319 (by decide) (fun c319 => ?_) (fun c319 => ?_)
                                · skip
                                  refine q_iconst S0 dL_same_326 ?_
                                  refine q_icmp_eq (tgt := 332) S0 (by omega) dL_same_327 (by decide) (fun c327 => ?_) (fun c327 => ?_)
                                  · skip
                                    refine q_iinc (lv' := [(9, .int (iI (i + 1))), (7, .int (iI (ro + z4))), (8, .int (iI z3)), (6, .int (iI (fl + z2))), (5, .int (iI (bn + z1))), (18, .int (iI nx)), (17, .int (iI sl)), (16, .int (iI va)), (15, .int (iI iv)), (14, .int (iI (if ¬ vb = 0 then (1 : Int) else 0))), (13, .int (iI sv)), (12, .int (iI su)), (11, .int (iI vb)), (10, .int (iI uu)), (0, .ref ob), (1, .int (iI u)), (2, .ref aa), (3, .ref bb), (4, .int (iI (fP F)))]) S0 dL_same_332 hl (k := 13) rfl (by decide) rfl (fun ls hl => ?_)
                                    refine lv_goto (tgt := 15) S0.1 S0.2.1 dL_same_335 (by decide) ?_
                                    have hst9 := same_st (V := (vv (fP F) (fE F) u.toNat)) (H := (hh (fP F) (fE F) u.toNat)) (by omega) hva2.symm hsl2.symm hz1 hz2 hz3 hz4 hcase hvar heb hef her hff9 (hV i (by omega) (by omega)) (hH i (by omega) (by omega))
                                    exact IHl (i + 1, bn + z1, fl + z2, ro + z4, z3, r6) H locs ls (by exact ⟨hI6, by omega, by omega, hst9.1, hst9.2.1, hst9.2.2.1, hst9.2.2.2⟩) (by (try dsimp only); omega) (hW.sub [2, 3, 4, 5, 6, 7, 8, 9, 10, 11, 12, 13, 14, 15, 0, 1] rfl rfl) (lv_sub hl [0, 2, 1, 3, 4, 14, 15, 16, 17, 18] rfl)
                                  · skip
                                    exact absurd c327 (by omega)
                                · skip
                                  refine q_iconst S0 dL_same_322 ?_
                                  refine lv_goto (tgt := 327) S0.1 S0.2.1 dL_same_323 (by decide) ?_
                                  refine q_icmp_eq (tgt := 332) S0 (by omega) dL_same_327 (by decide) (fun c327 => ?_) (fun c327 => ?_)
                                  · skip
                                    exact absurd c327 (by omega)
                                  · skip
                                    refine q_iconst S0 dL_same_330 ?_
                                    exact q_zret S0 hr hlocks r6 (hI6) (by first | exact Or.inl rfl | exact Or.inr rfl | omega) (by exfalso; omega) (hW.sub [2, 3, 4, 5, 6, 7, 8, 9, 10, 11, 12, 13, 14, 15, 0, 1] rfl (rfl)) (Nat.le_of_ble_eq_true rfl) (Nat.le_of_ble_eq_true rfl) dL_same_331
                              · skip
                                refine q_iconst S0 dL_same_312 ?_
                                refine lv_goto (tgt := 317) S0.1 S0.2.1 dL_same_313 (by decide) ?_
                                refine lv_iload S0.1 S0.2.1 dL_same_317 (lv_at hl 6 rfl) ?_
                                refine q_if_ne (tgt := 326) S0 (by omega) dL_same_319 (by decide) (fun c319 => ?_) (fun c319 => ?_)
                                · skip
                                  refine q_iconst S0 dL_same_326 ?_
                                  refine q_icmp_eq (tgt := 332) S0 (by omega) dL_same_327 (by decide) (fun c327 => ?_) (fun c327 => ?_)
                                  · skip
                                    exact absurd c327 (by omega)
                                  · skip
                                    refine q_iconst S0 dL_same_330 ?_
                                    exact q_zret S0 hr hlocks r6 (hI6) (by first | exact Or.inl rfl | exact Or.inr rfl | omega) (by exfalso; omega) (hW.sub [2, 3, 4, 5, 6, 7, 8, 9, 10, 11, 12, 13, 14, 15, 0, 1] rfl (rfl)) (Nat.le_of_ble_eq_true rfl) (Nat.le_of_ble_eq_true rfl) dL_same_331
                                · skip
                                  refine q_iconst S0 dL_same_322 ?_
                                  refine lv_goto (tgt := 327) S0.1 S0.2.1 dL_same_323 (by decide) ?_
                                  refine q_icmp_eq (tgt := 332) S0 (by omega) dL_same_327 (by decide) (fun c327 => ?_) (fun c327 => ?_)
                                  · skip
                                    refine q_iinc (lv' := [(9, .int (iI (i + 1))), (7, .int (iI (ro + z4))), (8, .int (iI z3)), (6, .int (iI (fl + z2))), (5, .int (iI (bn + z1))), (18, .int (iI nx)), (17, .int (iI sl)), (16, .int (iI va)), (15, .int (iI iv)), (14, .int (iI (if ¬ vb = 0 then (1 : Int) else 0))), (13, .int (iI sv)), (12, .int (iI su)), (11, .int (iI vb)), (10, .int (iI uu)), (0, .ref ob), (1, .int (iI u)), (2, .ref aa), (3, .ref bb), (4, .int (iI (fP F)))]) S0 dL_same_332 hl (k := 13) rfl (by decide) rfl (fun ls hl => ?_)
                                    refine lv_goto (tgt := 15) S0.1 S0.2.1 dL_same_335 (by decide) ?_
                                    have hst9 := same_st (V := (vv (fP F) (fE F) u.toNat)) (H := (hh (fP F) (fE F) u.toNat)) (by omega) hva2.symm hsl2.symm hz1 hz2 hz3 hz4 hcase hvar heb hef her hff9 (hV i (by omega) (by omega)) (hH i (by omega) (by omega))
                                    exact IHl (i + 1, bn + z1, fl + z2, ro + z4, z3, r6) H locs ls (by exact ⟨hI6, by omega, by omega, hst9.1, hst9.2.1, hst9.2.2.1, hst9.2.2.2⟩) (by (try dsimp only); omega) (hW.sub [2, 3, 4, 5, 6, 7, 8, 9, 10, 11, 12, 13, 14, 15, 0, 1] rfl rfl) (lv_sub hl [0, 2, 1, 3, 4, 14, 15, 16, 17, 18] rfl)
                                  · skip
                                    exact absurd c327 (by omega)
                    · skip
                      refine lv_iload S0.1 S0.2.1 dL_same_241 (lv_at hl 5 rfl) ?_
                      refine q_if_ne (tgt := 250) S0 (by omega) dL_same_243 (by decide) (fun c243 => ?_) (fun c243 => ?_)
                      · skip
                        refine q_iconst S0 dL_same_250 ?_
                        exact hJ241 _ (by first | (rw [if_pos (by omega)]; done) | (rw [if_neg (by omega)]; done))
                      · skip
                        refine q_iconst S0 dL_same_246 ?_
                        refine lv_goto (tgt := 251) S0.1 S0.2.1 dL_same_247 (by decide) ?_
                        exact hJ241 _ (by first | (rw [if_pos (by omega)]; done) | (rw [if_neg (by omega)]; done))
                  · skip
                    refine lv_iload S0.1 S0.2.1 dL_same_220 (lv_at hl 3 rfl) ?_
                    refine q_if_ne (tgt := 235) S0 (by omega) dL_same_222 (by decide) (fun c222 => ?_) (fun c222 => ?_)
                    · skip
                      refine lv_iload S0.1 S0.2.1 dL_same_235 (lv_at hl 12 rfl) ?_
                      exact hJ220 _ (by first | (rw [if_pos (by omega)]; done) | (rw [if_neg (by omega)]; done))
                    · skip
                      refine lv_iload S0.1 S0.2.1 dL_same_225 (lv_at hl 12 rfl) ?_
                      refine q_if_ge (tgt := 235) S0 (by omega) dL_same_227 (by decide) (fun c227 => ?_) (fun c227 => ?_)
                      · skip
                        refine lv_iload S0.1 S0.2.1 dL_same_235 (lv_at hl 12 rfl) ?_
                        exact hJ220 _ (by first | (rw [if_pos (by omega)]; done) | (rw [if_neg (by omega)]; done))
                      · skip
                        refine lv_iload S0.1 S0.2.1 dL_same_230 (lv_at hl 11 rfl) ?_
                        refine lv_goto (tgt := 237) S0.1 S0.2.1 dL_same_232 (by decide) ?_
                        exact hJ220 _ (by first | (rw [if_pos (by omega)]; done) | (rw [if_neg (by omega)]; done))
                · skip
                  refine lv_iload S0.1 S0.2.1 dL_same_207 (lv_at hl 2 rfl) ?_
                  refine q_if_ne (tgt := 216) S0 (by omega) dL_same_209 (by decide) (fun c209 => ?_) (fun c209 => ?_)
                  · skip
                    refine q_iconst S0 dL_same_216 ?_
                    exact hJ207 _ (by first | (rw [if_pos (by omega)]; done) | (rw [if_neg (by omega)]; done))
                  · skip
                    refine q_iconst S0 dL_same_212 ?_
                    refine lv_goto (tgt := 217) S0.1 S0.2.1 dL_same_213 (by decide) ?_
                    exact hJ207 _ (by first | (rw [if_pos (by omega)]; done) | (rw [if_neg (by omega)]; done))
              · skip
                refine lv_iload S0.1 S0.2.1 dL_same_192 (lv_at hl 4 rfl) ?_
                refine q_if_eqP (tgt := 201) S0 dL_same_194 (by decide) (fun c194 => ?_) (fun c194 => ?_)
                · skip
                  refine q_iconst S0 dL_same_201 ?_
                  exact hJ192 _ (by first | (rw [if_pos (by omega)]; done) | (rw [if_neg (by omega)]; done))
                · skip
                  refine q_iconst S0 dL_same_197 ?_
                  refine lv_goto (tgt := 202) S0.1 S0.2.1 dL_same_198 (by decide) ?_
                  exact hJ192 _ (by first | (rw [if_pos (by omega)]; done) | (rw [if_neg (by omega)]; done))
            · skip
              refine lv_iload S0.1 S0.2.1 dL_same_156 (lv_at hl 3 rfl) ?_
              refine q_if_eqP (tgt := 166) S0 dL_same_158 (by decide) (fun c158 => ?_) (fun c158 => ?_)
              · skip
                refine q_iconst S0 dL_same_166 ?_
                refine lv_goto (tgt := 188) S0.1 S0.2.1 dL_same_167 (by decide) ?_
                exact hJ156 _ (by first | (rw [if_pos (by omega)]; done) | (rw [if_neg (by omega)]; done))
              · skip
                refine lv_iload S0.1 S0.2.1 dL_same_161 (lv_at hl 0 rfl) ?_
                refine q_if_ne (tgt := 170) S0 (by omega) dL_same_163 (by decide) (fun c163 => ?_) (fun c163 => ?_)
                · skip
                  refine lv_iload S0.1 S0.2.1 dL_same_170 (lv_at hl 8 rfl) ?_
                  refine lv_iload S0.1 S0.2.1 dL_same_172 (lv_at hl 1 rfl) ?_
                  refine lv_iload S0.1 S0.2.1 dL_same_174 (lv_at hl 0 rfl) ?_
                  refine lv_iload S0.1 S0.2.1 dL_same_176 (lv_at hl 17 rfl) ?_
                  refine q_pS (n := 2) (rest := [.int (iI va), .int (iI i)]) S0 hK (c_L_inverse l g sl (fP F) (by omega) (by omega)) (subP hW.1 [] rfl) (trivial) gL_same_L_inverse rfl rfl rfl (by decide +kernel) ⟨by dsimp only; omega, by dsimp only; omega⟩ rfl rfl hl.1 (Nat.le_of_ble_eq_true rfl) ⟨Nat.le_of_ble_eq_true rfl, Nat.le_of_ble_eq_true rfl⟩ dL_same_178 ?_
                  refine W.eq (g2 := F0 m 181 ls [.int (iI (inv' (fP F) sl)), .int (iI va), .int (iI i)]) rfl ?_
                  have hir := inv'_rng (p := fP F) (v := sl) (by omega)
                  have hm8 := mul_rng (a := va) (b := inv' (fP F) sl) (n := 200) (k := 200) (by omega) (by omega)
                  refine q_imul S0 dL_same_181 ?_
                  refine q_isub S0 dL_same_182 ?_
                  refine lv_iload S0.1 S0.2.1 dL_same_183 (lv_at hl 17 rfl) ?_
                  refine q_pS (n := 2) (rest := []) S0 hK (c_L_mod l g (i - (va * (inv' (fP F) sl))) (fP F) (by omega) (by omega)) (subP hW.1 [] rfl) (trivial) gL_same_L_mod rfl rfl rfl (by decide +kernel) ⟨by dsimp only; omega, by dsimp only; omega⟩ rfl rfl hl.1 (Nat.le_of_ble_eq_true rfl) ⟨Nat.le_of_ble_eq_true rfl, Nat.le_of_ble_eq_true rfl⟩ dL_same_185 ?_
                  refine W.eq (g2 := F0 m 188 ls [.int (iI ((i - (va * (inv' (fP F) sl))) % (fP F)))]) rfl ?_
                  exact hJ156 _ (by first | (rw [if_pos (by omega)]; done) | (rw [if_neg (by omega)]; done))
                · skip
                  refine q_iconst S0 dL_same_166 ?_
                  refine lv_goto (tgt := 188) S0.1 S0.2.1 dL_same_167 (by decide) ?_
                  exact hJ156 _ (by first | (rw [if_pos (by omega)]; done) | (rw [if_neg (by omega)]; done))
          · skip
            refine lv_iload S0.1 S0.2.1 dL_same_113 (lv_at hl 2 rfl) ?_
            refine q_if_eqP (tgt := 153) S0 dL_same_115 (by decide) (fun c115 => ?_) (fun c115 => ?_)
            · skip
              refine q_iconst S0 dL_same_153 ?_
              exact hJ113 _ (by first | (rw [if_pos (by omega)]; done) | (rw [if_neg (by omega)]; done))
            · skip
              refine lv_iload S0.1 S0.2.1 dL_same_118 (lv_at hl 4 rfl) ?_
              refine lv_iload S0.1 S0.2.1 dL_same_120 (lv_at hl 5 rfl) ?_
              refine q_imul S0 dL_same_122 ?_
              refine lv_iload S0.1 S0.2.1 dL_same_123 (lv_at hl 6 rfl) ?_
              refine lv_iload S0.1 S0.2.1 dL_same_125 (lv_at hl 3 rfl) ?_
              refine q_imul S0 dL_same_127 ?_
              refine q_isub S0 dL_same_128 ?_
              refine lv_iload S0.1 S0.2.1 dL_same_129 (lv_at hl 16 rfl) ?_
              refine q_pS (n := 2) (rest := []) S0 hK (c_L_mod l g ((su * vb) - (uu * sv)) (fP F) (by omega) (by omega)) (subP hW.1 [] rfl) (trivial) gL_same_L_mod rfl rfl rfl (by decide +kernel) ⟨by dsimp only; omega, by dsimp only; omega⟩ rfl rfl hl.1 (Nat.le_of_ble_eq_true rfl) ⟨Nat.le_of_ble_eq_true rfl, Nat.le_of_ble_eq_true rfl⟩ dL_same_131 ?_
              refine W.eq (g2 := F0 m 134 ls [.int (iI (((su * vb) - (uu * sv)) % (fP F)))]) rfl ?_
              refine lv_iload S0.1 S0.2.1 dL_same_134 (lv_at hl 1 rfl) ?_
              refine lv_iload S0.1 S0.2.1 dL_same_136 (lv_at hl 1 rfl) ?_
              refine q_imul S0 dL_same_138 ?_
              refine lv_iload S0.1 S0.2.1 dL_same_139 (lv_at hl 16 rfl) ?_
              refine q_pS (n := 2) (rest := [.int (iI (((su * vb) - (uu * sv)) % (fP F)))]) S0 hK (c_L_mod l g (iv * iv) (fP F) (by omega) (by omega)) (subP hW.1 [] rfl) (trivial) gL_same_L_mod rfl rfl rfl (by decide +kernel) ⟨by dsimp only; omega, by dsimp only; omega⟩ rfl rfl hl.1 (Nat.le_of_ble_eq_true rfl) ⟨Nat.le_of_ble_eq_true rfl, Nat.le_of_ble_eq_true rfl⟩ dL_same_141 ?_
              refine W.eq (g2 := F0 m 144 ls [.int (iI ((iv * iv) % (fP F))), .int (iI (((su * vb) - (uu * sv)) % (fP F)))]) rfl ?_
              refine q_imul S0 dL_same_144 ?_
              refine lv_iload S0.1 S0.2.1 dL_same_145 (lv_at hl 16 rfl) ?_
              have hm5 := emod_rng (su * vb - uu * sv) (p := fP F) (by omega)
              have hm6 := emod_rng (iv * iv) (p := fP F) (by omega)
              have hm7 := mul_rng (a := (su * vb - uu * sv) % fP F) (b := iv * iv % fP F) (n := 200) (k := 200) (by omega) (by omega)
              refine q_pS (n := 2) (rest := []) S0 hK (c_L_mod l g ((((su * vb) - (uu * sv)) % (fP F)) * ((iv * iv) % (fP F))) (fP F) (by omega) (by omega)) (subP hW.1 [] rfl) (trivial) gL_same_L_mod rfl rfl rfl (by decide +kernel) ⟨by dsimp only; omega, by dsimp only; omega⟩ rfl rfl hl.1 (Nat.le_of_ble_eq_true rfl) ⟨Nat.le_of_ble_eq_true rfl, Nat.le_of_ble_eq_true rfl⟩ dL_same_147 ?_
              refine W.eq (g2 := F0 m 150 ls [.int (iI (((((su * vb) - (uu * sv)) % (fP F)) * ((iv * iv) % (fP F))) % (fP F)))]) rfl ?_
              refine lv_goto (tgt := 154) S0.1 S0.2.1 dL_same_150 (by decide) ?_
              exact hJ113 _ (by first | (rw [if_pos (by omega)]; done) | (rw [if_neg (by omega)]; done))
        · skip
          refine lv_iload S0.1 S0.2.1 dL_same_92 (lv_at hl 1 rfl) ?_
          refine q_if_eqP (tgt := 110) S0 dL_same_94 (by decide) (fun c94 => ?_) (fun c94 => ?_)
          · skip
            refine q_iconst S0 dL_same_110 ?_
            exact hJ92 _ (by first | (rw [if_pos (by omega)]; done) | (rw [if_neg (by omega)]; done))
          · skip
            refine lv_iload S0.1 S0.2.1 dL_same_97 (lv_at hl 5 rfl) ?_
            refine lv_iload S0.1 S0.2.1 dL_same_99 (lv_at hl 0 rfl) ?_
            refine q_imul S0 dL_same_101 ?_
            refine lv_iload S0.1 S0.2.1 dL_same_102 (lv_at hl 15 rfl) ?_
            refine q_pS (n := 2) (rest := []) S0 hK (c_L_mod l g (uu * iv) (fP F) (by omega) (by omega)) (subP hW.1 [] rfl) (trivial) gL_same_L_mod rfl rfl rfl (by decide +kernel) ⟨by dsimp only; omega, by dsimp only; omega⟩ rfl rfl hl.1 (Nat.le_of_ble_eq_true rfl) ⟨Nat.le_of_ble_eq_true rfl, Nat.le_of_ble_eq_true rfl⟩ dL_same_104 ?_
            refine W.eq (g2 := F0 m 107 ls [.int (iI ((uu * iv) % (fP F)))]) rfl ?_
            refine lv_goto (tgt := 111) S0.1 S0.2.1 dL_same_107 (by decide) ?_
            exact hJ92 _ (by first | (rw [if_pos (by omega)]; done) | (rw [if_neg (by omega)]; done))
      · skip
        refine lv_iload S0.1 S0.2.1 dL_same_74 (lv_at hl 0 rfl) ?_
        refine q_if_eqP (tgt := 89) S0 dL_same_76 (by decide) (fun c76 => ?_) (fun c76 => ?_)
        · skip
          refine q_iconst S0 dL_same_89 ?_
          exact hJ74 _ (by first | (rw [if_pos (by omega)]; done) | (rw [if_neg (by omega)]; done))
        · skip
          refine lv_iload S0.1 S0.2.1 dL_same_79 (lv_at hl 3 rfl) ?_
          refine lv_iload S0.1 S0.2.1 dL_same_81 (lv_at hl 14 rfl) ?_
          refine q_pS (n := 2) (rest := []) S0 hK (c_L_inverse l g vb (fP F) (by omega) (by omega)) (subP hW.1 [] rfl) (trivial) gL_same_L_inverse rfl rfl rfl (by decide +kernel) ⟨by dsimp only; omega, by dsimp only; omega⟩ rfl rfl hl.1 (Nat.le_of_ble_eq_true rfl) ⟨Nat.le_of_ble_eq_true rfl, Nat.le_of_ble_eq_true rfl⟩ dL_same_83 ?_
          refine W.eq (g2 := F0 m 86 ls [.int (iI (inv' (fP F) vb))]) rfl ?_
          refine lv_goto (tgt := 90) S0.1 S0.2.1 dL_same_86 (by decide) ?_
          exact hJ74 _ (by first | (rw [if_pos (by omega)]; done) | (rw [if_neg (by omega)]; done))
    · skip
      refine lv_iload S0.1 S0.2.1 dL_same_62 (lv_at hl 2 rfl) ?_
      refine q_if_eq (tgt := 71) S0 (by omega) dL_same_64 (by decide) (fun c64 => ?_) (fun c64 => ?_)
      · skip
        refine q_iconst S0 dL_same_71 ?_
        refine W.eq (g2 := F0 m 72 ls (.int (iI (if ¬ vb = 0 then (1 : Int) else 0)) :: [])) (by rw [show (if ¬ vb = 0 then (1 : Int) else 0) = 0 from if_neg (by omega)]) ?_
        exact hJ62 () trivial
      · skip
        refine q_iconst S0 dL_same_67 ?_
        refine lv_goto (tgt := 72) S0.1 S0.2.1 dL_same_68 (by decide) ?_
        refine W.eq (g2 := F0 m 72 ls (.int (iI (if ¬ vb = 0 then (1 : Int) else 0)) :: [])) (by rw [show (if ¬ vb = 0 then (1 : Int) else 0) = 1 from if_pos (by omega)]) ?_
        exact hJ62 () trivial
