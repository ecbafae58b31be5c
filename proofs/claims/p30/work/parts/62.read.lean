/-! reading the law's texts -/
section RDS
variable {p x : Int} {cv ch : Nat → Int → Int} {B : BT} {n v s v1 s1 v2 s2 : Int} {vs : List (Int × Int)} {ws : List Int}
theorem IT_top (h : IT p x cv ch B n vs ws) : wTop B = ws.headD (-1) := by
  obtain ⟨-, ⟨-, -, hw⟩, hc, -, -, -⟩ := h
  cases ws with
  | nil => exact (cs_nil hc hw).2
  | cons c l => exact (cs_cons hc).2.1
theorem st_wait {c : Int} (h : IT p x cv ch B n vs ws) (hw4 : ws.length < 40) : IT p x cv ch (sWait B c) n vs (c :: ws) := by
  have r := IT_r h
  obtain ⟨ht, ⟨hz, hbn, hw⟩, hc, hl, hvs, hok⟩ := h
  refine ⟨ht, ⟨hz, hbn, ?_⟩, ?_, hl, hvs, hok⟩
  · show 0 ≤ pN (wP B)
    unfold pN
    split <;> omega
  · rw [cs_wait ⟨hw, by omega⟩, hc]
theorem st_num {d : Int} (h : IT p x cv ch B n vs ws) (hp : 0 < p) (hn : n < 40) (hd : 0 ≤ d ∧ d ≤ 9) (htop : ¬ ws.headD (-1) = 110) : IT p x cv ch (sAddNum B d) (n + 1) ((d % p, 0) :: vs) ws := by
  have ht := IT_top h
  have hst : ¬ wTop (sAdd B 48 d (-1) (-1)) = 110 := by
    show ¬ wTop B = 110
    rw [ht]; exact htop
  show IT p x cv ch (sFin (wP (sAdd B 48 d (-1) (-1))).toNat (sAdd B 48 d (-1) (-1))) _ _ _
  rw [sFin_stop hst]
  exact IT_leaf h hn (Or.inr ⟨rfl, by omega, by omega⟩) (fun E m w z h1 h2 => ⟨by rw [nv_48 h1, h2], ns_48 h1⟩) (by have := emod_rng d hp; omega)
theorem st_x0 (h : IT p x cv ch B n vs ws) (hx : 0 ≤ x) (hn : n < 40) : IT p x cv ch (sAdd B 120 0 (-1) (-1)) (n + 1) ((x, 1) :: vs) ws :=
  IT_leaf h hn (Or.inl ⟨rfl, rfl⟩) (fun E m w z h1 _ => ⟨nv_120 h1, ns_120 h1⟩) (by omega)
theorem st_x (h : IT p x cv ch B n vs ws) (hx : 0 ≤ x) (hn : n < 40) (htop : ¬ ws.headD (-1) = 110) : IT p x cv ch (sAddX B) (n + 1) ((x, 1) :: vs) ws := by
  have ht := IT_top h
  have hst : ¬ wTop (sAdd B 120 0 (-1) (-1)) = 110 := by
    show ¬ wTop B = 110
    rw [ht]; exact htop
  show IT p x cv ch (sFin (wP (sAdd B 120 0 (-1) (-1))).toNat (sAdd B 120 0 (-1) (-1))) _ _ _
  rw [sFin_stop hst]
  exact st_x0 h hx hn
theorem st_neg (h : IT p x cv ch B n ((v, s) :: vs) (110 :: ws)) (hp : 0 < p) (hn : n < 40) : IT p x cv ch (sNeg B) (n + 1) (((0 - v) % p, (0 - s) % p) :: vs) ws := by
  obtain ⟨a, b, c⟩ := cs_cons h.2.2.1
  have q := IT_un (wp := oN (wP B)) (wq := wQ B) h hn (Or.inl ⟨rfl, rfl⟩) (by unfold oN; split <;> omega) (v' := (0 - v) % p) (s' := (0 - s) % p) (fun E m w z h1 _ h3 h4 => ⟨by rw [nv_110 h1, h3], by rw [ns_110 h1, h4]⟩) (by have := emod_rng (0 - v) hp; omega)
  have e : skc (wQ B) (oN (wP B)).toNat = ws := c
  rw [e] at q
  show IT p x cv ch (sAdd (sLPop (sWPop B)) (wTop B) 0 (lTop B) (-1)) _ _ _
  rw [b]
  exact q
theorem st_negx (h : IT p x cv ch B n vs (110 :: ws)) (hp : 0 < p) (hx : 0 ≤ x) (hn : n < 39) (htop : ¬ ws.headD (-1) = 110) : IT p x cv ch (sAddX B) (n + 2) (((0 - x) % p, (0 - 1) % p) :: vs) ws := by
  have h1 := st_x0 h hx (by omega)
  have r := IT_r h1
  have h2 := st_neg h1 hp (by omega)
  have hst : ¬ wTop (sNeg (sAdd B 120 0 (-1) (-1))) = 110 := by
    rw [IT_top h2]; exact htop
  show IT p x cv ch (sFin (wP (sAdd B 120 0 (-1) (-1))).toNat (sAdd B 120 0 (-1) (-1))) _ _ _
  rw [show (wP (sAdd B 120 0 (-1) (-1))).toNat = ws.length + 1 by rw [r.2.2.2, List.length_cons]; omega, sFin_step (IT_top h1), sFin_stop hst, show n + 2 = n + 1 + 1 by omega]
  exact h2
/-- a power's value and slope -/
def pwv (p v s e : Int) : Int × Int := (v ^ e.toNat % p, (e * (v ^ (e - 1).toNat % p) % p) * s % p)
theorem st_pow {e : Int} (h : IT p x cv ch B n ((v, s) :: vs) ws) (hp : 0 < p) (hn : n < 40) (he : 0 ≤ e ∧ e ≤ 9) : IT p x cv ch (sPower B e) (n + 1) (pwv p v s e :: vs) ws := by
  have hw := h.2.1.2.2
  have q := IT_un (wp := wP B) (wq := wQ B) h hn (Or.inr ⟨rfl, he⟩) hw (v' := v ^ e.toNat % p) (s' := (e * (v ^ (e - 1).toNat % p) % p) * s % p) (fun E m w z h1 h2 h3 h4 => ⟨by rw [nv_94 h1, h2, h3], by rw [ns_94 h1, h2, h3, h4]⟩) (by have := emod_rng (v ^ e.toNat) hp; omega)
  have hc := h.2.2.1
  have e9 : skc (wQ B) (wP B).toNat = ws := hc
  rw [e9] at q
  exact q
/-- two parts joined -/
def opv (c p : Int) (a b : Int × Int) : Int × Int := if c = 42 then (a.1 * b.1 % p, (a.2 * b.1 + a.1 * b.2) % p) else if c = 45 then ((a.1 - b.1) % p, (a.2 - b.2) % p) else ((a.1 + b.1) % p, (a.2 + b.2) % p)
theorem opv_42 {p : Int} {a b : Int × Int} : opv 42 p a b = (a.1 * b.1 % p, (a.2 * b.1 + a.1 * b.2) % p) := by
  unfold opv
  rw [if_pos rfl]
theorem opv_45 {p : Int} {a b : Int × Int} : opv 45 p a b = ((a.1 - b.1) % p, (a.2 - b.2) % p) := by
  unfold opv
  rw [if_neg (by decide), if_pos rfl]
theorem opv_43 {p : Int} {a b : Int × Int} : opv 43 p a b = ((a.1 + b.1) % p, (a.2 + b.2) % p) := by
  unfold opv
  rw [if_neg (by decide), if_neg (by decide)]
theorem st_op {c : Int} {a b : Int × Int} (h : IT p x cv ch B n (b :: a :: vs) (c :: ws)) (hp : 0 < p) (hn : n < 40) (hc : c = 43 ∨ c = 45 ∨ c = 42) : IT p x cv ch (sOp B) (n + 1) (opv c p a b :: vs) ws := by
  obtain ⟨v1, s1⟩ := a
  obtain ⟨v2, s2⟩ := b
  obtain ⟨t1, t2, t3⟩ := cs_cons h.2.2.1
  have hwp : 0 ≤ oN (wP B) := by unfold oN; split <;> omega
  have e : skc (wQ B) (oN (wP B)).toNat = ws := t3
  show IT p x cv ch (sAdd (sLPop (sWPop (sLPop B))) (wTop B) 0 (lTop (sLPop B)) (lTop B)) _ _ _
  rw [t2]
  rcases hc with rfl | rfl | rfl
  · have q := IT_bin (k := 43) (wp := oN (wP B)) (wq := wQ B) h hn (Or.inl rfl) hwp (v' := (v1 + v2) % p) (s' := (s1 + s2) % p) (fun E m w z h1 h3 h4 h5 h6 => ⟨by rw [nv_43 h1, h3, h5], by rw [ns_43 h1, h4, h6]⟩) (by have := emod_rng (v1 + v2) hp; omega)
    rw [e] at q
    rw [opv_43]
    exact q
  · have q := IT_bin (k := 45) (wp := oN (wP B)) (wq := wQ B) h hn (Or.inr (Or.inl rfl)) hwp (v' := (v1 - v2) % p) (s' := (s1 - s2) % p) (fun E m w z h1 h3 h4 h5 h6 => ⟨by rw [nv_45 h1, h3, h5], by rw [ns_45 h1, h4, h6]⟩) (by have := emod_rng (v1 - v2) hp; omega)
    rw [e] at q
    rw [opv_45]
    exact q
  · have q := IT_bin (k := 42) (wp := oN (wP B)) (wq := wQ B) h hn (Or.inr (Or.inr (Or.inl rfl))) hwp (v' := v1 * v2 % p) (s' := (s1 * v2 + v1 * s2) % p) (fun E m w z h1 h3 h4 h5 h6 => ⟨by rw [nv_42 h1, h3, h5], by rw [ns_42 h1, h3, h4, h5, h6]⟩) (by have := emod_rng (v1 * v2) hp; omega)
    rw [e] at q
    rw [opv_42]
    exact q
/-- joining stops, or joins one, or two -/
theorem jo_stop {t : Int} (h : IT p x cv ch B n vs ws) (hl : lvl (ws.headD (-1)) < t) : sJoinF t B = B := by
  have ht := IT_top h
  exact sJoin_stop (by rw [ht]; omega) _
theorem jo_1 {c : Int} {a b : Int × Int} {t : Int} (h : IT p x cv ch B n (b :: a :: vs) (c :: ws)) (hp : 0 < p) (hn : n < 40) (hc : c = 43 ∨ c = 45 ∨ c = 42) (h1 : t ≤ lvl c) (hl : lvl (ws.headD (-1)) < t) : IT p x cv ch (sJoinF t B) (n + 1) (opv c p a b :: vs) ws := by
  have r := IT_r h
  have q := st_op h hp hn hc
  have ht := IT_top q
  show IT p x cv ch (sJoin t (wP B).toNat B) _ _ _
  rw [show (wP B).toNat = ws.length + 1 by rw [r.2.2.2, List.length_cons]; omega, sJoin_step (by rw [IT_top h]; exact h1), sJoin_stop (by rw [ht]; omega)]
  exact q
theorem jo_2 {c d : Int} {a b b2 : Int × Int} {t : Int} (h : IT p x cv ch B n (b2 :: b :: a :: vs) (c :: d :: ws)) (hp : 0 < p) (hn : n < 39) (hc : c = 43 ∨ c = 45 ∨ c = 42) (hd : d = 43 ∨ d = 45 ∨ d = 42) (h1 : t ≤ lvl c) (h2 : t ≤ lvl d) (hl : lvl (ws.headD (-1)) < t) : IT p x cv ch (sJoinF t B) (n + 2) (opv d p a (opv c p b b2) :: vs) ws := by
  have r := IT_r h
  have q := st_op h hp (by omega) hc
  have q2 := st_op q hp (by omega) hd
  have ht := IT_top q2
  show IT p x cv ch (sJoin t (wP B).toNat B) _ _ _
  rw [show (wP B).toNat = ws.length + 1 + 1 by rw [r.2.2.2, List.length_cons, List.length_cons]; omega, sJoin_step (by rw [IT_top h]; exact h1), sJoin_step (by rw [IT_top q]; exact h2), sJoin_stop (by rw [ht]; omega), show n + 2 = n + 1 + 1 by omega]
  exact q2
/-- a parenthesis closes, behind what was joined -/
theorem st_close {ws1 : List Int} {n1 : Int} {vs1 : List (Int × Int)} (hj : IT p x cv ch (sJoinF 1 B) n1 vs1 (40 :: ws1)) (htop : ¬ ws1.headD (-1) = 110) : IT p x cv ch (sClose B) n1 vs1 ws1 := by
  obtain ⟨t1, t2, t3⟩ := cs_cons hj.2.2.1
  have e : fnO (wTop (sJoinF 1 B)) = -1 := by rw [t2]; decide
  have hp : IT p x cv ch (sWPop (sJoinF 1 B)) n1 vs1 ws1 := by
    obtain ⟨ht, ⟨hz, hbn, hw⟩, hc, hl, hvs, hok⟩ := hj
    refine ⟨ht, ⟨hz, hbn, ?_⟩, t3, hl, hvs, hok⟩
    show 0 ≤ oN (wP (sJoinF 1 B))
    unfold oN
    split <;> omega
  unfold sClose
  rw [if_pos e]
  show IT p x cv ch (sFin (wP (sWPop (sJoinF 1 B))).toNat (sWPop (sJoinF 1 B))) _ _ _
  rw [sFin_stop (by rw [IT_top hp]; exact htop)]
  exact hp
end RDS
/-! the parser's steps -/
section TKS
variable {B : BT} {a o m : Int}
theorem tk0 {c : Int} : tk (mkP B 0 o m) c = tkA (mkP B 0 o m) c := if_pos rfl
theorem tk2 {c : Int} : tk (mkP B 2 o m) c = tkE (mkP B 2 o m) c := by
  show (if (2 : Int) = 0 then _ else if (2 : Int) = 1 then _ else if (2 : Int) = 2 then tkE (mkP B 2 o m) c else _) = _
  rw [if_neg (by decide), if_neg (by decide), if_pos rfl]
theorem tk34 {c : Int} (ha : a = 3 ∨ a = 4) : tk (mkP B a o m) c = tkB (mkP B a o m) c := by
  show (if a = 0 then _ else if a = 1 then _ else if a = 2 then _ else tkB (mkP B a o m) c) = _
  rw [if_neg (by omega), if_neg (by omega), if_neg (by omega)]
theorem tk_d {d : Int} (hd : 0 ≤ d ∧ d ≤ 9) : tk (mkP B 0 o m) (48 + d) = (mkP (sAddNum B d) 3 o (bN B), 1) := by
  rw [tk0]
  show (if 48 ≤ 48 + d ∧ 48 + d ≤ 57 then (mkP (sAddNum B (48 + d - 48)) 3 o (bN B), (1 : Int)) else _) = _
  rw [if_pos (by omega), show 48 + d - 48 = d by omega]
theorem tk_x : tk (mkP B 0 o m) 120 = (mkP (sAddX B) 3 o m, 1) := by
  rw [tk0]
  show (if (48 : Int) ≤ 120 ∧ (120 : Int) ≤ 57 then _ else if (120 : Int) = 120 then (mkP (sAddX B) 3 o m, (1 : Int)) else _) = _
  rw [if_neg (by decide), if_pos rfl]
theorem tk_n : tk (mkP B 0 o m) 45 = (mkP (sWait B 110) 0 o m, 1) := by
  rw [tk0]
  show (if (48 : Int) ≤ 45 ∧ (45 : Int) ≤ 57 then _ else if (45 : Int) = 120 then _ else if (45 : Int) = 45 then (mkP (sWait B 110) 0 o m, (1 : Int)) else _) = _
  rw [if_neg (by decide), if_neg (by decide), if_pos rfl]
theorem tk_o : tk (mkP B 0 o m) 40 = (mkP (sWait B 40) 0 (o + 1) m, 1) := by
  rw [tk0]
  show (if (48 : Int) ≤ 40 ∧ (40 : Int) ≤ 57 then _ else if (40 : Int) = 120 then _ else if (40 : Int) = 45 then _ else if (40 : Int) = 40 then (mkP (sWait B 40) 0 (o + 1) m, (1 : Int)) else _) = _
  rw [if_neg (by decide), if_neg (by decide), if_neg (by decide), if_pos rfl]
theorem tk_w : tk (mkP B 3 o m) 94 = (mkP B 2 o (-1), 1) := by
  rw [tk34 (Or.inl rfl)]
  show (if (48 : Int) ≤ 94 ∧ (94 : Int) ≤ 57 then _ else if (94 : Int) = 94 ∧ (3 : Int) = 3 then (mkP B 2 o (-1), (1 : Int)) else _) = _
  rw [if_neg (by decide), if_pos ⟨rfl, rfl⟩]
theorem tk_e {e : Int} (he : 0 ≤ e ∧ e ≤ 9) : tk (mkP B 2 o m) (48 + e) = (mkP (sPower B e) 4 o m, 1) := by
  rw [tk2]
  show (if 48 ≤ 48 + e ∧ 48 + e ≤ 57 then (mkP (sPower B (48 + e - 48)) 4 o m, (1 : Int)) else _) = _
  rw [if_pos (by omega), show 48 + e - 48 = e by omega]
theorem tk_s {c : Int} (ha : a = 3 ∨ a = 4) (hc : c = 43 ∨ c = 45 ∨ c = 42 ∨ c = 47) : tk (mkP B a o m) c = (mkP (sSign B c) 0 o (-1), 1) := by
  rw [tk34 ha]
  show (if (48 : Int) ≤ c ∧ c ≤ 57 then _ else if c = 94 ∧ a = 3 then _ else if c = 41 ∧ 0 < o then _ else if c = 43 ∨ c = 45 ∨ c = 42 ∨ c = 47 then (mkP (sSign B c) 0 o (-1), (1 : Int)) else _) = _
  rw [if_neg (by omega), if_neg (by omega), if_neg (by omega), if_pos hc]
theorem tk_c (ha : a = 3 ∨ a = 4) (ho : 0 < o) : tk (mkP B a o m) 41 = (mkP (sClose B) 3 (o - 1) (-1), 1) := by
  rw [tk34 ha]
  show (if (48 : Int) ≤ 41 ∧ (41 : Int) ≤ 57 then _ else if (41 : Int) = 94 ∧ a = 3 then _ else if (41 : Int) = 41 ∧ 0 < o then (mkP (sClose B) 3 (o - 1) (-1), (1 : Int)) else _) = _
  rw [if_neg (by decide), if_neg (by omega), if_pos ⟨rfl, ho⟩]
/-- a row of signs is taken -/
def RD : List Int → PT → PT → Prop
  | [], S, T => S = T
  | c :: l, S, T => ∃ S1, tk S c = (S1, 1) ∧ RD l S1 T
theorem RD_app {l1 l2 : List Int} {S T W : PT} (h : RD l1 S T) (h2 : RD l2 T W) : RD (l1 ++ l2) S W := by
  induction l1 generalizing S with
  | nil => cases h; exact h2
  | cons c l ih =>
    obtain ⟨S1, e, h⟩ := h
    exact ⟨S1, e, ih h⟩
/-- the signs of a row, from place i on -/
def MT (f : Nat → Int) : Int → List Int → Prop
  | _, [] => True
  | i, c :: l => f i.toNat = c ∧ MT f (i + 1) l
theorem RD_feL {f : Nat → Int} : ∀ (l : List Int) (i : Int) (S T : PT), RD l S T → MT f i l → feL f l.length i S = (T, -2)
  | [], _, S, T, h, _ => by cases h; rfl
  | c :: l, i, S, T, h, hm => by
    obtain ⟨S1, e, h⟩ := h
    obtain ⟨m1, m2⟩ := hm
    have e2 : tk S (f i.toNat) = (S1, 1) := by rw [m1]; exact e
    have e3 : (c :: l).length = l.length + 1 := List.length_cons
    rw [e3, feL_step (by rw [e2]; exact (by decide : ¬ (1 : Int) = 0)), e2]
    exact RD_feL l (i + 1) S1 T h m2
theorem MT_app {f : Nat → Int} : ∀ (l1 l2 : List Int) (i : Int), MT f i l1 → MT f (i + (l1.length : Nat)) l2 → MT f i (l1 ++ l2)
  | [], _, i, _, h => by
    have e : i + ((([] : List Int).length : Nat) : Int) = i := by show i + 0 = i; omega
    rw [e] at h
    exact h
  | c :: l, l2, i, h, h2 => by
    refine ⟨h.1, MT_app l l2 (i + 1) h.2 ?_⟩
    rw [List.length_cons] at h2
    rw [show i + 1 + (l.length : Int) = i + ((l.length + 1 : Nat) : Int) by omega]
    exact h2
theorem MT_cg {f g : Nat → Int} : ∀ (l : List Int) (i : Int), 0 ≤ i → (∀ j : Nat, i ≤ j → (j : Int) < i + (l.length : Nat) → g j = f j) → MT f i l → MT g i l
  | [], _, _, _, _ => trivial
  | c :: l, i, hi, h, hm => by
    rw [List.length_cons] at h
    refine ⟨by rw [h i.toNat (by omega) (by omega)]; exact hm.1, MT_cg l (i + 1) (by omega) (fun j h1 h2 => h j (by omega) (by omega)) hm.2⟩
/-- a row of signs is put behind others -/
def wr : List Int → Int → (Nat → Int) → (Nat → Int)
  | [], _, f => f
  | c :: l, n, f => wr l (n + 1) (up f n.toNat c)
theorem wr_old : ∀ (l : List Int) (n : Int) (f : Nat → Int) (j : Nat), 0 ≤ n → (j : Int) < n → wr l n f j = f j
  | [], _, _, _, _, _ => rfl
  | c :: l, n, f, j, hn, hj => by
    show wr l (n + 1) (up f n.toNat c) j = f j
    rw [wr_old l (n + 1) _ j (by omega) (by omega), up_n (by omega)]
theorem wr_MT : ∀ (l : List Int) (n : Int) (f : Nat → Int), 0 ≤ n → MT (wr l n f) n l
  | [], _, _, _ => trivial
  | c :: l, n, f, hn => by
    refine ⟨?_, wr_MT l (n + 1) _ (by omega)⟩
    show wr l (n + 1) (up f n.toNat c) n.toNat = c
    rw [wr_old l (n + 1) _ n.toNat (by omega) (by omega), up_s]
theorem wr_rng : ∀ (l : List Int) (n : Int) (f : Nat → Int), (∀ j, 0 ≤ f j ∧ f j < 65536) → (∀ c, c ∈ l → 0 ≤ c ∧ c < 65536) → ∀ j, 0 ≤ wr l n f j ∧ wr l n f j < 65536
  | [], _, _, h, _ => h
  | c :: l, n, f, h, hl => by
    refine wr_rng l (n + 1) _ (fun j => ?_) (fun d hd => hl d (List.mem_cons_of_mem _ hd))
    by_cases e : j = n.toNat
    · rw [e, up_s]; exact hl c List.mem_cons_self
    · rw [up_n e]; exact h j
theorem wr_add {l l0 : List Int} {n : Int} {f : Nat → Int} (hn : n = (l0.length : Nat)) (h : MT f 0 l0) : MT (wr l n f) 0 (l0 ++ l) := by
  refine MT_app l0 l 0 (MT_cg l0 0 (by omega) (fun j h1 h2 => wr_old l n f j (by omega) (by omega)) h) ?_
  rw [show (0 : Int) + ((l0.length : Nat) : Int) = n by omega]
  exact wr_MT l n f (by omega)
end TKS
