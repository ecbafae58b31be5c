/-! the texts of the law, and what is read out of them -/
/-- a term's signs: kind k, factor F, number c, exponent e -/
def tT (k F c e : Int) : List Int := (48 + F) :: 42 :: (if k = 0 then [48 + c] else if k = 1 then [120, 94, 48 + e] else if k = 2 then [45, 120, 94, 48 + e] else [40, 120, 43, 48 + c, 41, 94, 48 + e])
/-- its nodes, but for the product -/
def tN (k : Int) : Int := if k = 0 then 2 else if k = 1 then 3 else if k = 2 then 4 else 5
/-- value and slope of its second factor -/
def tVs (p x k c e : Int) : Int × Int := if k = 0 then (c % p, 0) else if k = 1 then pwv p x 1 e else if k = 2 then pwv p ((0 - x) % p) ((0 - 1) % p) e else pwv p ((x + c % p) % p) ((1 + 0) % p) e
def tP (p x k F c e : Int) : Int × Int := opv 42 p (F % p, 0) (tVs p x k c e)
def okT (k F c e : Int) : Prop := (0 ≤ k ∧ k < 4) ∧ (0 ≤ F ∧ F ≤ 9) ∧ (0 ≤ c ∧ c ≤ 9) ∧ (0 ≤ e ∧ e ≤ 9)
theorem tN_r (k : Int) : 2 ≤ tN k ∧ tN k ≤ 5 := by
  unfold tN
  split
  · omega
  · split
    · omega
    · split <;> omega
theorem tT_0 {F c e : Int} : tT 0 F c e = [48 + F, 42, 48 + c] := by
  unfold tT
  rw [if_pos rfl]
theorem tT_1 {F c e : Int} : tT 1 F c e = [48 + F, 42, 120, 94, 48 + e] := by
  unfold tT
  rw [if_neg (by decide), if_pos rfl]
theorem tT_2 {F c e : Int} : tT 2 F c e = [48 + F, 42, 45, 120, 94, 48 + e] := by
  unfold tT
  rw [if_neg (by decide), if_neg (by decide), if_pos rfl]
theorem tT_3 {F c e : Int} : tT 3 F c e = [48 + F, 42, 40, 120, 43, 48 + c, 41, 94, 48 + e] := by
  unfold tT
  rw [if_neg (by decide), if_neg (by decide), if_neg (by decide)]
theorem tN_0 : tN 0 = 2 := by decide
theorem tN_1 : tN 1 = 3 := by decide
theorem tN_2 : tN 2 = 4 := by decide
theorem tN_3 : tN 3 = 5 := by decide
theorem tVs_0 {p x c e : Int} : tVs p x 0 c e = (c % p, 0) := by
  unfold tVs
  rw [if_pos rfl]
theorem tVs_1 {p x c e : Int} : tVs p x 1 c e = pwv p x 1 e := by
  unfold tVs
  rw [if_neg (by decide), if_pos rfl]
theorem tVs_2 {p x c e : Int} : tVs p x 2 c e = pwv p ((0 - x) % p) ((0 - 1) % p) e := by
  unfold tVs
  rw [if_neg (by decide), if_neg (by decide), if_pos rfl]
theorem tVs_3 {p x c e : Int} : tVs p x 3 c e = pwv p ((x + c % p) % p) ((1 + 0) % p) e := by
  unfold tVs
  rw [if_neg (by decide), if_neg (by decide), if_neg (by decide)]
theorem tT_len (k F c e : Int) : 3 ≤ (tT k F c e).length ∧ (tT k F c e).length ≤ 9 := by
  unfold tT
  split
  · exact ⟨Nat.le_of_ble_eq_true rfl, Nat.le_of_ble_eq_true rfl⟩
  · split
    · exact ⟨Nat.le_of_ble_eq_true rfl, Nat.le_of_ble_eq_true rfl⟩
    · split
      · exact ⟨Nat.le_of_ble_eq_true rfl, Nat.le_of_ble_eq_true rfl⟩
      · exact ⟨Nat.le_of_ble_eq_true rfl, Nat.le_of_ble_eq_true rfl⟩
section RDT
variable {p x : Int} {cv ch : Nat → Int → Int} {B : BT} {n : Int} {vs : List (Int × Int)} {ws : List Int}
theorem RD_term {k F c e o m : Int} (hp : 0 < p) (hx : 0 ≤ x) (ht : okT k F c e) (h : IT p x cv ch B n vs ws) (hn : n ≤ 30) (hw : ws.length ≤ 10) (h110 : ¬ ws.headD (-1) = 110) (hl : lvl (ws.headD (-1)) < 2) (ho : 0 ≤ o) :
    ∃ T, RD (tT k F c e) (mkP B 0 o m) T ∧ (pA T = 3 ∨ pA T = 4) ∧ pO T = o ∧ IT p x cv ch (pB T) (n + tN k) (tVs p x k c e :: (F % p, 0) :: vs) (42 :: ws) := by
  obtain ⟨hk, hF, hc, he⟩ := ht
  have a1 := st_num h hp (by omega) hF h110
  have a2 : IT p x cv ch (sSign (sAddNum B F) 42) (n + 1) ((F % p, 0) :: vs) (42 :: ws) := by
    unfold sSign
    rw [show lvl 42 = 2 by decide, jo_stop a1 hl]
    exact st_wait a1 (by omega)
  have b1 : tk (mkP B 0 o m) (48 + F) = (mkP (sAddNum B F) 3 o (bN B), 1) := tk_d hF
  have b2 : tk (mkP (sAddNum B F) 3 o (bN B)) 42 = (mkP (sSign (sAddNum B F) 42) 0 o (-1), 1) := tk_s (Or.inl rfl) (by omega)
  generalize sSign (sAddNum B F) 42 = B2 at *
  have h42 : ¬ (42 :: ws).headD (-1) = 110 := by show ¬ (42 : Int) = 110; decide
  have hk4 : k = 0 ∨ k = 1 ∨ k = 2 ∨ k = 3 := by omega
  rcases hk4 with rfl | rfl | rfl | rfl
  · rw [tT_0]
    have a3 := st_num a2 hp (by omega) hc h42
    refine ⟨_, ⟨_, b1, _, b2, _, tk_d hc, rfl⟩, Or.inl rfl, rfl, ?_⟩
    rw [tN_0, tVs_0, show n + 2 = n + 1 + 1 by omega]
    exact a3
  · rw [tT_1]
    have a3 := st_x a2 hx (by omega) h42
    have a4 := st_pow a3 hp (by omega) he
    refine ⟨_, ⟨_, b1, _, b2, _, tk_x, _, tk_w, _, tk_e he, rfl⟩, Or.inr rfl, rfl, ?_⟩
    rw [tN_1, tVs_1, show n + 3 = n + 1 + 1 + 1 by omega]
    exact a4
  · rw [tT_2]
    have a3 := st_wait (c := 110) a2 (by rw [List.length_cons]; omega)
    have a4 := st_negx a3 hp hx (by omega) h42
    have a5 := st_pow a4 hp (by omega) he
    refine ⟨_, ⟨_, b1, _, b2, _, tk_n, _, tk_x, _, tk_w, _, tk_e he, rfl⟩, Or.inr rfl, rfl, ?_⟩
    rw [tN_2, tVs_2, show n + 4 = n + 1 + 2 + 1 by omega]
    exact a5
  · rw [tT_3]
    have h40 : ¬ (40 :: 42 :: ws).headD (-1) = 110 := by show ¬ (40 : Int) = 110; decide
    have h43 : ¬ (43 :: 40 :: 42 :: ws).headD (-1) = 110 := by show ¬ (43 : Int) = 110; decide
    have a3 := st_wait (c := 40) a2 (by rw [List.length_cons]; omega)
    have a4 := st_x a3 hx (by omega) h40
    have a5 : IT p x cv ch (sSign (sAddX (sWait B2 40)) 43) (n + 1 + 1) ((x, 1) :: (F % p, 0) :: vs) (43 :: 40 :: 42 :: ws) := by
      unfold sSign
      rw [show lvl 43 = 1 by decide, jo_stop a4 (by show lvl 40 < 1; decide)]
      exact st_wait a4 (by rw [List.length_cons, List.length_cons]; omega)
    have a6 := st_num a5 hp (by omega) hc h43
    have a7 := jo_1 (t := 1) a6 hp (by omega) (Or.inl rfl) (by decide) (by show lvl 40 < 1; decide)
    rw [opv_43] at a7
    have a8 := st_close a7 h42
    have a9 := st_pow (v := (x + c % p) % p) (s := (1 + 0) % p) a8 hp (by omega) he
    refine ⟨_, ⟨_, b1, _, b2, _, tk_o, _, tk_x, _, tk_s (Or.inl rfl) (Or.inl rfl), _, tk_d hc, _, tk_c (Or.inl rfl) (by omega), _, tk_w, _, tk_e he, rfl⟩, Or.inr rfl, ?_, ?_⟩
    · show o + 1 - 1 = o
      omega
    · rw [tN_3, tVs_3, show n + 5 = n + 1 + 1 + 1 + 1 + 1 by omega]
      exact a9
theorem mkP_eta (T : PT) : T = mkP (pB T) (pA T) (pO T) (pM T) := rfl
/-- a sign, 43 or 45 -/
def sgn (less : Prop) [Decidable less] : Int := if less then 45 else 43
theorem sgn_r (less : Prop) [Decidable less] : (sgn less = 43 ∨ sgn less = 45) ∧ lvl (sgn less) = 1 := by
  unfold sgn
  split
  · exact ⟨Or.inr rfl, by decide⟩
  · exact ⟨Or.inl rfl, by decide⟩
/-- two terms and the sign between -/
def twT (k1 F1 c1 e1 sg k2 F2 c2 e2 : Int) : List Int := tT k1 F1 c1 e1 ++ (sg :: tT k2 F2 c2 e2)
theorem RD_two {k1 F1 c1 e1 sg k2 F2 c2 e2 o m : Int} (hp : 0 < p) (hx : 0 ≤ x) (ht1 : okT k1 F1 c1 e1) (ht2 : okT k2 F2 c2 e2) (hsg : sg = 43 ∨ sg = 45) (h : IT p x cv ch B n vs ws) (hn : n ≤ 20) (hw : ws.length ≤ 8) (h110 : ¬ ws.headD (-1) = 110) (hl : lvl (ws.headD (-1)) < 1) (ho : 0 ≤ o) :
    ∃ T, RD (twT k1 F1 c1 e1 sg k2 F2 c2 e2) (mkP B 0 o m) T ∧ (pA T = 3 ∨ pA T = 4) ∧ pO T = o ∧ IT p x cv ch (sJoinF 1 (pB T)) (n + tN k1 + tN k2 + 3) (opv sg p (tP p x k1 F1 c1 e1) (tP p x k2 F2 c2 e2) :: vs) ws := by
  have r1 := tN_r k1
  have r2 := tN_r k2
  obtain ⟨T1, d1, d2, d3, d4⟩ := RD_term (o := o) (m := m) hp hx ht1 h (by omega) (by omega) h110 (by omega) ho
  have a1 := jo_1 (t := 1) d4 hp (by omega) (Or.inr (Or.inr rfl)) (by decide) hl
  have hlv : lvl sg = 1 := by rcases hsg with rfl | rfl <;> decide
  have a2 : IT p x cv ch (sSign (pB T1) sg) (n + tN k1 + 1) (tP p x k1 F1 c1 e1 :: vs) (sg :: ws) := by
    unfold sSign
    rw [hlv]
    exact st_wait a1 (by omega)
  have b1 : tk T1 sg = (mkP (sSign (pB T1) sg) 0 o (-1), 1) := by
    rw [mkP_eta T1, d3]
    exact tk_s d2 (by omega)
  obtain ⟨T2, g1, g2, g3, g4⟩ := RD_term (o := o) (m := -1) hp hx ht2 a2 (by omega) (by rw [List.length_cons]; omega) (by show ¬ sg = 110; omega) (by show lvl sg < 2; omega) ho
  have a3 := jo_2 (t := 1) g4 hp (by omega) (Or.inr (Or.inr rfl)) (by omega) (by decide) (by omega) hl
  refine ⟨T2, RD_app d1 ⟨_, b1, g1⟩, g2, g3, ?_⟩
  rw [show n + tN k1 + tN k2 + 3 = n + tN k1 + 1 + tN k2 + 2 by omega]
  exact a3
theorem IT_0 : IT p x cv ch (sClear B) 0 [] [] := by
  refine ⟨⟨⟨?_, ?_, ?_, ?_⟩, fun k hk => ?_, fun i hi => ?_, fun i j hij hj => ?_, fun h0 => ?_, fun j hj => ?_⟩, ⟨rfl, rfl, ?_⟩, rfl, rfl, rfl, rfl⟩
  · show (0 : Int) ≤ 0; decide
  · show (0 : Int) ≤ 40; decide
  · show (0 : Int) ≤ 0; decide
  · show (0 : Int) ≤ 0; decide
  · have h : (k : Int) < 0 := hk
    omega
  · have h : (i : Int) < 0 := hi
    omega
  · have h : (j : Int) < 0 := hj
    omega
  · have h : (0 : Int) < 0 := h0
    omega
  · have h : (j : Int) < 0 := hj
    omega
  · show (0 : Int) ≤ 0; decide
/-- what a whole text gives: n nodes, of value v and slope s -/
def GD (p x : Int) (cv ch : Nat → Int → Int) (B : BT) (n : Int) (a : Int × Int) : Prop := TRE B ∧ bZ B = 0 ∧ bN B = n ∧ lP B = 1 ∧ vof p (EB B) cv x = a.1 ∧ hof p (EB B) cv ch x 1 = a.2
theorem GD_of {a : Int × Int} (h : IT p x cv ch B n [a] ws) : GD p x cv ch B n a := by
  obtain ⟨ht, ⟨hz, hbn, hw⟩, hc, hl, hvs, hok⟩ := h
  have t1 := ht.1
  have hl1 : lP B = 1 := hl
  have t5 := (ht.2.2.2.2.1 (by omega)).2
  rw [hl1, show ((1 : Int) - 1).toNat = 0 by decide] at t5
  obtain ⟨v, s⟩ := a
  obtain ⟨c1, c2, -⟩ := lvk_cons (k := 0) hvs
  rw [t5, hbn, show (n - 1).toNat = n.toNat - 1 by omega] at c1 c2
  have he : evs p (EB B) cv x n.toNat = evs p (XE (bK B) (bU B) (bL B) (bV B)) cv x n.toNat := evs_cgE (E := EB B) (E' := XE (bK B) (bU B) (bL B) (bV B)) n.toNat (fun j _ => ⟨rfl, rfl, rfl, rfl⟩)
  have hh9 : hns p (EB B) cv ch x 1 n.toNat = hns p (XE (bK B) (bU B) (bL B) (bV B)) cv ch x 1 n.toNat := hns_cgE (E := EB B) (E' := XE (bK B) (bU B) (bL B) (bV B)) n.toNat (fun j _ => ⟨rfl, rfl, rfl, rfl⟩)
  have en : eN (EB B) = n.toNat := by
    show (bN B).toNat = n.toNat
    rw [hbn]
  refine ⟨ht, hz, hbn, hl1, ?_, ?_⟩
  · unfold vof
    rw [en, he, if_pos hok]
    exact c1
  · unfold hof
    rw [en, he, hh9, if_pos hok]
    exact c2
/-- a quotient: banned, or not -/
def dvp (p : Int) (a b : Int × Int) : Int × Int := if b.1 = 0 then (-1, -1) else (a.1 * inv' p b.1 % p, ((a.2 * b.1 - a.1 * b.2) % p) * inv' p (b.1 * b.1 % p) % p)
theorem GD_div {a b : Int × Int} (h : IT p x cv ch B n [b, a] [47]) (hp : 0 < p) (hn : n < 40) : GD p x cv ch (sJoinF 1 B) (n + 1) (dvp p a b) := by
  have r := IT_r h
  have e1 : sJoinF 1 B = sOp B := by
    show sJoin 1 (wP B).toNat B = _
    rw [show (wP B).toNat = 0 + 1 by have q := r.2.2.2; rw [List.length_cons, List.length_nil] at q; omega, sJoin_step (by rw [IT_top h]; decide)]
    rfl
  rw [e1]
  by_cases z : b.1 = 0
  · -- the division is banned
    obtain ⟨v1, s1⟩ := a
    obtain ⟨v2, s2⟩ := b
    obtain ⟨ht, ⟨hz, hbn, hw⟩, hc, hl, hvs, hok⟩ := h
    subst hbn
    have t1 := ht.1
    have hl2 : lP B = 2 := hl
    have t3 := ht.2.2.1 0 (by omega)
    have t3' := ht.2.2.1 1 (by omega)
    have t4 := ht.2.2.2.1 0 1 (by omega) (by omega)
    have e : ary 47 = 2 := by decide
    have ev := lTop_v (B := B) (by omega)
    have el : (lP B - 1).toNat = 1 := by omega
    have el2 : (lP B - 2).toNat = 0 := by omega
    have eo1 : oN (lP B) = 1 := by unfold oN; rw [if_pos (by omega)]; omega
    have eo : oN (oN (lP B)) = 0 := by rw [eo1]; decide
    have ev2 : lTop (sLPop B) = lQ B (lP B - 2).toNat := by
      show tp (oN (lP B)) (lQ B) = _
      rw [eo1, el2]
      rfl
    have ea : ary 47 = 2 → lTop B = lQ B (lP B - 1).toNat ∧ lTop (sLPop B) = lQ B (lP B - 2).toNat := fun _ => ⟨ev, ev2⟩
    have t := TR_add (k := 47) (u := 0) (a := lTop (sLPop B)) (b := lTop B) ht hn (by omega) (WFK_mk (by rw [ev, ev2, el, el2]; omega)) (fun q => by omega) (fun q => by omega) ea
    obtain ⟨t0, q2, q3⟩ := cs_cons hc
    have es : sOp B = sAdd (mkB (bK B) (bU B) (bL B) (bV B) (bD B) (bE B) (bN B) (bZ B) (oN (oN (lP B))) (lQ B) (oN (wP B)) (wQ B)) 47 0 (lTop (sLPop B)) (lTop B) := by
      show sAdd (sLPop (sWPop (sLPop B))) (wTop B) 0 (lTop (sLPop B)) (lTop B) = _
      rw [q2]
      rfl
    rw [es, sAdd_eq ⟨t1.1, hn⟩ (by rw [eo]; omega), eo]
    rw [e, hl2, show (2 : Int) - 2 = 0 by decide] at t
    rw [ev, ev2, el, el2] at t ⊢
    obtain ⟨c1, c2, c3⟩ := lvk_cons (k := 1) hvs
    have hag : ∀ j, j < (bN B).toNat → eK (XE (up (bK B) (bN B).toNat 47) (up (bU B) (bN B).toNat 0) (up (bL B) (bN B).toNat (lQ B 0)) (up (bV B) (bN B).toNat (lQ B 1))) j = eK (XE (bK B) (bU B) (bL B) (bV B)) j ∧ eU (XE (up (bK B) (bN B).toNat 47) (up (bU B) (bN B).toNat 0) (up (bL B) (bN B).toNat (lQ B 0)) (up (bV B) (bN B).toNat (lQ B 1))) j = eU (XE (bK B) (bU B) (bL B) (bV B)) j ∧ eL (XE (up (bK B) (bN B).toNat 47) (up (bU B) (bN B).toNat 0) (up (bL B) (bN B).toNat (lQ B 0)) (up (bV B) (bN B).toNat (lQ B 1))) j = eL (XE (bK B) (bU B) (bL B) (bV B)) j ∧ eV (XE (up (bK B) (bN B).toNat 47) (up (bU B) (bN B).toNat 0) (up (bL B) (bN B).toNat (lQ B 0)) (up (bV B) (bN B).toNat (lQ B 1))) j = eV (XE (bK B) (bU B) (bL B) (bV B)) j := fun j hj => ⟨(up_n (by omega) : up (bK B) (bN B).toNat 47 j = bK B j), (up_n (by omega) : up (bU B) (bN B).toNat 0 j = bU B j), (up_n (by omega) : up (bL B) (bN B).toNat (lQ B 0) j = bL B j), (up_n (by omega) : up (bV B) (bN B).toNat (lQ B 1) j = bV B j)⟩
    have he := evs_cgE (p := p) (cv := cv) (x := x) (bN B).toNat hag
    have hbad : ¬ (evs p (mkE (bN B + 1).toNat (up (bK B) (bN B).toNat 47) (up (bU B) (bN B).toNat 0) (up (bL B) (bN B).toNat (lQ B 0)) (up (bV B) (bN B).toNat (lQ B 1))) cv x (bN B + 1).toNat).2 = true := by
      rw [evs_cgE (E := mkE (bN B + 1).toNat (up (bK B) (bN B).toNat 47) (up (bU B) (bN B).toNat 0) (up (bL B) (bN B).toNat (lQ B 0)) (up (bV B) (bN B).toNat (lQ B 1))) (E' := XE (up (bK B) (bN B).toNat 47) (up (bU B) (bN B).toNat 0) (up (bL B) (bN B).toNat (lQ B 0)) (up (bV B) (bN B).toNat (lQ B 1))) (bN B + 1).toNat (fun j _ => ⟨rfl, rfl, rfl, rfl⟩), show (bN B + 1).toNat = (bN B).toNat + 1 by omega]
      intro hq
      refine evs_nb hq ?_
      have hk47 : eK (XE (up (bK B) (bN B).toNat 47) (up (bU B) (bN B).toNat 0) (up (bL B) (bN B).toNat (lQ B 0)) (up (bV B) (bN B).toNat (lQ B 1))) (bN B).toNat = 47 := up_s
      rw [he, nv_47 hk47]
      rw [show eV (XE (up (bK B) (bN B).toNat 47) (up (bU B) (bN B).toNat 0) (up (bL B) (bN B).toNat (lQ B 0)) (up (bV B) (bN B).toNat (lQ B 1))) (bN B).toNat = lQ B 1 from up_s, gv_of (by omega), c1]
      exact if_pos z
    have ed : dvp p (v1, s1) (v2, s2) = (-1, -1) := if_pos z
    refine ⟨by exact t, hz, rfl, by show (0 : Int) + 1 = 1; decide, ?_, ?_⟩
    · rw [ed]
      unfold vof
      exact if_neg hbad
    · rw [ed]
      unfold hof
      exact if_neg hbad
  · obtain ⟨v1, s1⟩ := a
    obtain ⟨v2, s2⟩ := b
    obtain ⟨t1, t2, t3⟩ := cs_cons h.2.2.1
    have hwp : 0 ≤ oN (wP B) := by unfold oN; split <;> omega
    have ed : dvp p (v1, s1) (v2, s2) = (v1 * inv' p v2 % p, ((s1 * v2 - v1 * s2) % p) * inv' p (v2 * v2 % p) % p) := if_neg z
    rw [ed]
    have q := IT_bin (k := 47) (wp := oN (wP B)) (wq := wQ B) h hn (Or.inr (Or.inr (Or.inr rfl))) hwp (v' := v1 * inv' p v2 % p) (s' := ((s1 * v2 - v1 * s2) % p) * inv' p (v2 * v2 % p) % p) (fun E m w z9 h1 h3 h4 h5 h6 => ⟨by rw [nv_47 h1, h3, h5, if_neg z], by rw [ns_47 h1, h3, h4, h5, h6]⟩) (by have := emod_rng (v1 * inv' p v2) hp; omega)
    have q2 := GD_of q
    show GD p x cv ch (sAdd (sLPop (sWPop (sLPop B))) (wTop B) 0 (lTop (sLPop B)) (lTop B)) _ _
    rw [t2]
    exact q2
theorem fe_ok {l : List Int} {tf : Nat → Int} {N : Int} {T : PT} (hN : N = (l.length : Nat)) (hr : RD l (fe0 B) T) (hm : MT tf 0 l) (ho : pO T = 0) (ha : pA T = 3 ∨ pA T = 4) : fe B tf N = (mkP (sJoinF 1 (pB T)) (pA T) (pO T) (pM T), -1) := by
  have e := RD_feL l 0 (fe0 B) T hr hm
  unfold fe
  rw [show N.toNat = l.length by omega, e]
  show (if (-2 : Int) = -2 then (if 0 < pO T ∨ (¬ pA T = 3 ∧ ¬ pA T = 4) then (T, N) else (mkP (sJoinF 1 (pB T)) (pA T) (pO T) (pM T), (-1 : Int))) else (T, (-2 : Int))) = _
  rw [if_pos rfl, if_neg (by omega)]
theorem READ1 {k1 F1 c1 e1 sg k2 F2 c2 e2 N : Int} {tf : Nat → Int} (hp : 0 < p) (hx : 0 ≤ x) (ht1 : okT k1 F1 c1 e1) (ht2 : okT k2 F2 c2 e2) (hsg : sg = 43 ∨ sg = 45) (hN : N = ((twT k1 F1 c1 e1 sg k2 F2 c2 e2).length : Nat)) (hm : MT tf 0 (twT k1 F1 c1 e1 sg k2 F2 c2 e2)) :
    (fe B tf N).2 = -1 ∧ GD p x cv ch (pB (fe B tf N).1) (tN k1 + tN k2 + 3) (opv sg p (tP p x k1 F1 c1 e1) (tP p x k2 F2 c2 e2)) := by
  have h0 : IT p x cv ch (sClear B) 0 [] [] := IT_0
  obtain ⟨T, d1, d2, d3, d4⟩ := RD_two (o := 0) (m := -1) hp hx ht1 ht2 hsg h0 (by omega) (by show 0 ≤ 8; omega) (by show ¬ (-1 : Int) = 110; decide) (by show lvl (-1) < 1; decide) (by omega)
  have e := fe_ok hN d1 hm d3 d2
  rw [e]
  refine ⟨rfl, ?_⟩
  rw [show tN k1 + tN k2 + 3 = 0 + tN k1 + tN k2 + 3 by omega]
  exact GD_of d4
/-- a quotient's text -/
def ovT (k1 F1 c1 e1 sg k2 F2 c2 e2 k3 F3 c3 e3 : Int) : List Int := 40 :: (twT k1 F1 c1 e1 sg k2 F2 c2 e2 ++ (41 :: 47 :: 40 :: (tT k3 F3 c3 e3 ++ [41])))
theorem READ2 {k1 F1 c1 e1 sg k2 F2 c2 e2 k3 F3 c3 e3 N : Int} {tf : Nat → Int} (hp : 0 < p) (hx : 0 ≤ x) (ht1 : okT k1 F1 c1 e1) (ht2 : okT k2 F2 c2 e2) (ht3 : okT k3 F3 c3 e3) (hsg : sg = 43 ∨ sg = 45) (hN : N = ((ovT k1 F1 c1 e1 sg k2 F2 c2 e2 k3 F3 c3 e3).length : Nat)) (hm : MT tf 0 (ovT k1 F1 c1 e1 sg k2 F2 c2 e2 k3 F3 c3 e3)) :
    (fe B tf N).2 = -1 ∧ GD p x cv ch (pB (fe B tf N).1) (tN k1 + tN k2 + tN k3 + 5) (dvp p (opv sg p (tP p x k1 F1 c1 e1) (tP p x k2 F2 c2 e2)) (tP p x k3 F3 c3 e3)) := by
  have r1 := tN_r k1
  have r2 := tN_r k2
  have r3 := tN_r k3
  have h0 : IT p x cv ch (sClear B) 0 [] [] := IT_0
  have h1 := st_wait (c := 40) h0 (by show 0 < 40; omega)
  obtain ⟨T, d1, d2, d3, d4⟩ := RD_two (o := 0 + 1) (m := -1) hp hx ht1 ht2 hsg h1 (by omega) (by show 1 ≤ 8; omega) (by show ¬ (40 : Int) = 110; decide) (by show lvl 40 < 1; decide) (by omega)
  have h2 := st_close d4 (by show ¬ (-1 : Int) = 110; decide)
  have b1 : tk T 41 = (mkP (sClose (pB T)) 3 (0 + 1 - 1) (-1), 1) := by
    rw [mkP_eta T, d3]
    exact tk_c d2 (by omega)
  have h3 : IT p x cv ch (sSign (sClose (pB T)) 47) (0 + tN k1 + tN k2 + 3) [opv sg p (tP p x k1 F1 c1 e1) (tP p x k2 F2 c2 e2)] [47] := by
    unfold sSign
    rw [show lvl 47 = 2 by decide, jo_stop h2 (by show lvl (-1) < 2; decide)]
    exact st_wait h2 (by show 0 < 40; omega)
  have b2 : tk (mkP (sClose (pB T)) 3 (0 + 1 - 1) (-1)) 47 = (mkP (sSign (sClose (pB T)) 47) 0 (0 + 1 - 1) (-1), 1) := tk_s (Or.inl rfl) (by omega)
  have h4 := st_wait (c := 40) h3 (by show 1 < 40; omega)
  have b3 : tk (mkP (sSign (sClose (pB T)) 47) 0 (0 + 1 - 1) (-1)) 40 = (mkP (sWait (sSign (sClose (pB T)) 47) 40) 0 (0 + 1 - 1 + 1) (-1), 1) := tk_o
  obtain ⟨T3, g1, g2, g3, g4⟩ := RD_term (o := 0 + 1 - 1 + 1) (m := -1) hp hx ht3 h4 (by omega) (by show 2 ≤ 10; omega) (by show ¬ (40 : Int) = 110; decide) (by show lvl 40 < 2; decide) (by omega)
  have h5 := jo_1 (t := 1) g4 hp (by omega) (Or.inr (Or.inr rfl)) (by decide) (by show lvl 40 < 1; decide)
  have h6 := st_close h5 (by show ¬ (47 : Int) = 110; decide)
  have b4 : tk T3 41 = (mkP (sClose (pB T3)) 3 (0 + 1 - 1 + 1 - 1) (-1), 1) := by
    rw [mkP_eta T3, g3]
    exact tk_c g2 (by omega)
  have hD := GD_div h6 hp (by omega)
  have hR : RD (ovT k1 F1 c1 e1 sg k2 F2 c2 e2 k3 F3 c3 e3) (fe0 B) (mkP (sClose (pB T3)) 3 (0 + 1 - 1 + 1 - 1) (-1)) :=
    ⟨_, tk_o, RD_app d1 ⟨_, b1, _, b2, _, b3, RD_app g1 ⟨_, b4, rfl⟩⟩⟩
  have e := fe_ok hN hR hm (by show (0 : Int) + 1 - 1 + 1 - 1 = 0; decide) (Or.inl rfl)
  rw [e]
  refine ⟨rfl, ?_⟩
  rw [show tN k1 + tN k2 + tN k3 + 5 = 0 + tN k1 + tN k2 + 3 + tN k3 + 1 + 1 by omega]
  exact hD
end RDT
