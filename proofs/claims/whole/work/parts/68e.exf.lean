/-! what is known of an expression that was read -/
def EB (B : BT) : EX := mkE (bN B).toNat (bK B) (bU B) (bL B) (bV B)
def leE (E : EX) : Int := lea (fun j => kc (eK E j)) (eU E) (eN E) 0 0
/-- depth, unlike nodes, the least function, as the class keeps them -/
def EOK (E : EX) (d u l : Int) : Prop := d = mxs E (eN E) ∧ u = nus E (eN E) ∧ l = leE E
theorem lea_ge {K U : Nat → Int} : ∀ (k : Nat) (i l : Int), 0 ≤ i → l ≤ lea K U k i l ∧ ∀ j : Nat, i ≤ j → (j : Int) < i + k → K j = 8 → U j + 1 ≤ lea K U k i l
  | 0, i, l, _ => ⟨Int.le_refl l, fun j a b _ => absurd a (by omega)⟩
  | k + 1, i, l, h0 => by
    have ih := lea_ge (K := K) (U := U) k (i + 1) (if K i.toNat = 8 ∧ l ≤ U i.toNat then U i.toNat + 1 else l) (by omega)
    have e : lea K U (k + 1) i l = lea K U k (i + 1) (if K i.toNat = 8 ∧ l ≤ U i.toNat then U i.toNat + 1 else l) := rfl
    rw [e]
    have hl : l ≤ (if K i.toNat = 8 ∧ l ≤ U i.toNat then U i.toNat + 1 else l) := by split <;> omega
    refine ⟨by omega, fun j a b c => ?_⟩
    by_cases z : (j : Int) = i
    · have zj : i.toNat = j := by omega
      rw [zj] at ih ⊢
      have h2 : U j + 1 ≤ (if K j = 8 ∧ l ≤ U j then U j + 1 else l) := by
        by_cases y : l ≤ U j
        · rw [if_pos ⟨c, y⟩]; omega
        · rw [if_neg (fun w => y w.2)]; omega
      omega
    · exact ih.2 j (by omega) (by omega) c
theorem kc_8 {K : Int} (h : K = 99) : kc K = 8 := by rw [h]; decide
/-- the bound on functions, out of the least one -/
theorem WFE_le {E : EX} {f g : Nat} (h : WFE E g) (hl : leE E ≤ f) : WFE E f := by
  refine ⟨h.1, fun k hk => ?_, h.2.2⟩
  have w := h.2.1 k hk
  have q := (lea_ge (K := fun j => kc (eK E j)) (U := eU E) (eN E) 0 0 (by omega)).2 k (by omega) (by omega)
  have q2 : eK E k = 99 → eU E k < f := fun z => by
    have := q (kc_8 z)
    have hl' : lea (fun j => kc (eK E j)) (eU E) (eN E) 0 0 ≤ f := hl
    omega
  rcases w with w | w | w | w | w | w
  · exact Or.inl w
  · exact Or.inr (Or.inl w)
  · exact Or.inr (Or.inr (Or.inl w))
  · exact Or.inr (Or.inr (Or.inr (Or.inl w)))
  · exact Or.inr (Or.inr (Or.inr (Or.inr (Or.inl w))))
  · exact Or.inr (Or.inr (Or.inr (Or.inr (Or.inr ⟨w.1, w.2.1, q2 w.1, w.2.2.2⟩))))
theorem EB_lks (B : BT) (k : Nat) : lks (EB B) k = lks (XE (bK B) (bU B) (bL B) (bV B)) k := lks_congr k (fun _ _ => rfl)
theorem EB_dps (B : BT) (k : Nat) : dps (EB B) k = dps (XE (bK B) (bU B) (bL B) (bV B)) k := dps_congr k (fun _ _ => ⟨rfl, rfl⟩)
theorem EB_wf {B : BT} (h : TRE B) (h1 : lP B = 1) : WFE (EB B) 4 := by
  obtain ⟨t1, t2, t3, t4, t5, t6⟩ := h
  refine ⟨by show 1 ≤ (bN B).toNat ∧ (bN B).toNat ≤ 40; omega, fun k hk => ?_, fun j hj => ?_⟩
  · have hk' : k < (bN B).toNat := hk
    exact (t2 k (by omega)).1
  · have hj' : j + 1 < (bN B).toNat := hj
    rcases t6 j (by omega) with ⟨⟨i, hi, e⟩, -⟩ | ⟨-, k, hk, hp, hu⟩
    · exfalso
      have := (t5 (by omega)).2
      rw [h1, show ((1 : Int) - 1).toNat = 0 by decide] at this
      rw [show i = 0 by omega] at e
      omega
    · exact ⟨k, by show k < (bN B).toNat; omega, hp, fun i hi hq => hu i (by have : i < (bN B).toNat := hi; omega) hq⟩
theorem EB_lk {B : BT} (h : TRE B) : LKP (EB B) := by
  intro k hk
  have hk' : k < (bN B).toNat := hk
  have l := (h.2.1 k (by have := h.1; omega)).2.2
  unfold lkn at l
  rw [EB_lks]
  exact l
/-- the last node is the deepest -/
theorem mxs_ge {E : EX} {j : Nat} : ∀ k : Nat, j < k → dps E (j + 1) j ≤ mxs E k
  | 0, h => absurd h (Nat.not_lt_zero _)
  | k + 1, h => by
    by_cases e : j = k
    · subst e
      unfold mxs
      split <;> omega
    · have := mxs_ge (E := E) (j := j) k (by omega)
      unfold mxs
      split <;> omega
theorem mxs_le {E : EX} {m : Int} (hm : 0 ≤ m) : ∀ k : Nat, (∀ j, j < k → dps E (j + 1) j ≤ m) → mxs E k ≤ m
  | 0, _ => hm
  | k + 1, h => by
    have a := mxs_le (E := E) hm k (fun j hj => h j (by omega))
    have b := h k (by omega)
    unfold mxs
    split <;> omega
theorem dps_par {E : EX} {j k : Nat} (hjk : j < k) (h : eL E k = j ∨ eV E k = j) : dps E (j + 1) j < dps E (k + 1) k := by
  have e : dps E (k + 1) k = 1 + (if dgv (dps E k) (eV E k) < dgv (dps E k) (eL E k) then dgv (dps E k) (eL E k) else dgv (dps E k) (eV E k)) := up_s
  have ej : dgv (dps E k) (j : Int) = dps E (j + 1) j := by
    unfold dgv
    rw [if_neg (by omega), show ((j : Int)).toNat = j by omega]
    exact dps_keep E k hjk
  rw [e]
  rcases h with h | h
  · rw [h, ej]; split <;> omega
  · rw [h, ej]; split <;> omega
theorem dps_last {E : EX} {f : Nat} (h : WFE E f) : ∀ (d j : Nat), j + d + 1 = eN E → dps E (j + 1) j ≤ dps E (eN E) (eN E - 1) := by
  intro d
  induction d using Nat.strongRecOn with
  | ind d ih =>
    intro j hj
    by_cases z : d = 0
    · rw [show eN E - 1 = j by omega, show eN E = j + 1 by omega]
      exact Int.le_refl _
    · obtain ⟨k, hk, hp, -⟩ := h.2.2 j (by omega)
      have w := h.2.1 k hk
      have wl := WFK_L w
      have wv := WFK_V w
      have hjk : j < k := by omega
      have a := dps_par hjk hp
      have b := ih (eN E - k - 1) (by omega) k (by omega)
      omega
theorem mxs_last {E : EX} {f : Nat} (h : WFE E f) : mxs E (eN E) = dps E (eN E) (eN E - 1) := by
  have h1 := h.1
  have a := mxs_ge (E := E) (j := eN E - 1) (eN E) (by omega)
  rw [show eN E - 1 + 1 = eN E by omega] at a
  have b := mxs_le (E := E) (m := dps E (eN E) (eN E - 1)) (dps_rng E _ _).1 (eN E) (fun j hj => dps_last h (eN E - j - 1) j (by omega))
  omega
theorem EB_dep {B : BT} (h : TRE B) (h1 : lP B = 1) : at0 40 (bD B) (bN B - 1) = mxs (EB B) (eN (EB B)) := by
  have t1 := h.1
  have q := (h.2.1 (bN B - 1).toNat (by omega)).2.1
  rw [mxs_last (EB_wf h h1)]
  unfold at0
  rw [if_pos (by omega), q, ← EB_dps]
  show _ = dps (EB B) (bN B).toNat ((bN B).toNat - 1)
  rw [show (bN B - 1).toNat = (bN B).toNat - 1 by omega, show (bN B).toNat - 1 + 1 = (bN B).toNat by omega]
/-- likes -/
theorem lmL9 {E : EX} {f m k : Nat} (h1 : WFK E f m) (h2 : WFK E f k) (e : eK E m = eK E k) : eL E m = -1 ↔ eL E k = -1 := by
  unfold WFK at h1 h2
  omega
theorem lmV9 {E : EX} {f m k : Nat} (h1 : WFK E f m) (h2 : WFK E f k) (e : eK E m = eK E k) : eV E m = -1 ↔ eV E k = -1 := by
  unfold WFK at h1 h2
  omega
theorem usd_char {E : EX} {w : Nat → Int} {k : Nat} : ∀ (m : Nat) (s : Int), (∃ r, r < m ∧ ali E w r k ∧ (∀ i, i < r → ¬ ali E w i k) ∧ usd E w k m s = (r : Int)) ∨ ((∀ i, i < m → ¬ ali E w i k) ∧ usd E w k m s = s)
  | 0, s => Or.inr ⟨fun i hi => absurd hi (Nat.not_lt_zero _), rfl⟩
  | m + 1, s => by
    have e : usd E w k (m + 1) s = usd E w k m (if ali E w m k then (m : Int) else s) := rfl
    rw [e]
    rcases usd_char (E := E) (w := w) (k := k) m (if ali E w m k then (m : Int) else s) with ⟨r, a, b, c, d⟩ | ⟨a, b⟩
    · exact Or.inl ⟨r, by omega, b, c, d⟩
    · by_cases z : ali E w m k
      · rw [if_pos z] at b ⊢
        exact Or.inl ⟨m, by omega, z, a, b⟩
      · rw [if_neg z] at b ⊢
        refine Or.inr ⟨fun i hi => ?_, b⟩
        by_cases y : i = m
        · rw [y]; exact z
        · exact a i (by omega)
theorem flk_char {B : BT} {j : Int} : ∀ (d : Nat) (i : Int), (∃ r : Int, i ≤ r ∧ r < i + d ∧ aAl B r j ∧ (∀ x, i ≤ x → x < r → ¬ aAl B x j) ∧ flk B j d i = r) ∨ ((∀ x, i ≤ x → x < i + d → ¬ aAl B x j) ∧ flk B j d i = j)
  | 0, i => Or.inr ⟨fun x a b => absurd a (by omega), rfl⟩
  | d + 1, i => by
    by_cases z : aAl B i j
    · rw [flk_hit d z]
      exact Or.inl ⟨i, by omega, by omega, z, fun x a b => absurd a (by omega), rfl⟩
    · rw [flk_step d z]
      rcases flk_char (B := B) (j := j) d (i + 1) with ⟨r, a, b, c, e, g⟩ | ⟨a, b⟩
      · refine Or.inl ⟨r, by omega, by omega, c, fun x hx hy => ?_, g⟩
        by_cases y : x = i
        · rw [y]; exact z
        · exact e x (by omega) hy
      · refine Or.inr ⟨fun x hx hy => ?_, b⟩
        by_cases y : x = i
        · rw [y]; exact z
        · exact a x (by omega) (by omega)
theorem at0_in {f : Nat → Int} {i : Int} (h : 0 ≤ i ∧ i < 40) : at0 40 f i = f i.toNat := by
  unfold at0
  rw [if_pos (by omega)]
theorem at0_m {f : Nat → Int} : at0 40 f (-1) = 0 := by
  unfold at0
  rw [if_neg (by omega)]
/-- the class's rows say the expression E, and of the first j nodes what they are like -/
def BE (B : BT) (E : EX) (j : Nat) : Prop := (∀ i : Nat, i < eN E → bK B i = eK E i ∧ bU B i = eU E i ∧ bL B i = eL E i ∧ bV B i = eV E i) ∧ ∀ i : Nat, i < j → bE B i = shs E j i
theorem par_like {w e : Nat → Int} {a b : Int} {j : Nat} (ha : a = -1 ∨ (0 ≤ a ∧ a < j)) (hb : b = -1 ∨ (0 ≤ b ∧ b < j)) (hj : j ≤ 40) (h : ∀ i, i < j → e i = w i) (hab : a = -1 ↔ b = -1) : at0 40 e a = at0 40 e b ↔ (b = -1 ∨ w b.toNat = w a.toNat) := by
  rcases ha with rfl | ha
  · have := hab.mp rfl
    subst this
    exact ⟨fun _ => Or.inl rfl, fun _ => rfl⟩
  · rcases hb with rfl | hb
    · exact absurd (hab.mpr rfl) (by omega)
    · rw [at0_in (by omega), at0_in (by omega), h _ (by omega), h _ (by omega)]
      exact ⟨fun z => Or.inr z.symm, fun z => by
        rcases z with z | z
        · omega
        · exact z.symm⟩
theorem like_iff {B : BT} {E : EX} {f i j : Nat} (hE : WFE E f) (h : BE B E j) (hj : j < eN E) (hi : i < j) : aAl B (i : Int) (j : Int) ↔ ali E (shs E j) i j := by
  have h40 := hE.1.2
  have wi := hE.2.1 i (by omega)
  have wj := hE.2.1 j hj
  have qi := h.1 i (by omega)
  have qj := h.1 j hj
  have ti : ((i : Int)).toNat = i := by omega
  have tj : ((j : Int)).toNat = j := by omega
  unfold aAl ali
  rw [at0_in (f := bK B) (i := (i : Int)) (by omega), at0_in (f := bK B) (i := (j : Int)) (by omega), at0_in (f := bU B) (i := (i : Int)) (by omega), at0_in (f := bU B) (i := (j : Int)) (by omega), at0_in (f := bL B) (i := (i : Int)) (by omega), at0_in (f := bL B) (i := (j : Int)) (by omega), at0_in (f := bV B) (i := (i : Int)) (by omega), at0_in (f := bV B) (i := (j : Int)) (by omega), ti, tj, qi.1, qi.2.1, qi.2.2.1, qi.2.2.2, qj.1, qj.2.1, qj.2.2.1, qj.2.2.2]
  have li := WFK_L wi
  have vi := WFK_V wi
  have lj := WFK_L wj
  have vj := WFK_V wj
  constructor
  · rintro ⟨a, b, c, d⟩
    exact ⟨a, b, (par_like (by omega) lj (by omega) h.2 (lmL9 wi wj a)).mp c, (par_like (by omega) vj (by omega) h.2 (lmV9 wi wj a)).mp d⟩
  · rintro ⟨a, b, c, d⟩
    exact ⟨a, b, (par_like (by omega) lj (by omega) h.2 (lmL9 wi wj a)).mpr c, (par_like (by omega) vj (by omega) h.2 (lmV9 wi wj a)).mpr d⟩
theorem flv_usd {B : BT} {E : EX} {f j : Nat} (hE : WFE E f) (h : BE B E j) (hj : j < eN E) : flv B (j : Int) = usd E (shs E j) j j (j : Int) := by
  unfold flv
  rw [show ((j : Int)).toNat = j by omega]
  rcases flk_char (B := B) (j := (j : Int)) j 0 with ⟨r, a, b, c, d, e⟩ | ⟨a, e⟩
  · obtain ⟨r', rfl⟩ := Int.eq_ofNat_of_zero_le a
    have cc := (like_iff hE h hj (i := r') (by omega)).mp c
    rcases usd_char (E := E) (w := shs E j) (k := j) j (j : Int) with ⟨s, a2, b2, c2, e2⟩ | ⟨a2, e2⟩
    · rw [e, e2]
      by_cases z : r' < s
      · exact absurd cc (c2 r' z)
      · by_cases y : s < r'
        · exact absurd ((like_iff hE h hj (i := s) (by omega)).mpr b2) (d (s : Int) (by omega) (by omega))
        · omega
    · exact absurd cc (a2 r' (by omega))
  · rcases usd_char (E := E) (w := shs E j) (k := j) j (j : Int) with ⟨s, a2, b2, c2, e2⟩ | ⟨a2, e2⟩
    · exact absurd ((like_iff hE h hj (i := s) (by omega)).mpr b2) (a (s : Int) (by omega) (by omega))
    · rw [e, e2]
theorem BE_like {B : BT} {E : EX} {f j : Nat} (hE : WFE E f) (h : BE B E j) (hj : j < eN E) : BE (sLike B (j : Int)) E (j + 1) := by
  have h40 := hE.1.2
  refine ⟨h.1, fun i hi => ?_⟩
  show put0 40 (bE B) (j : Int) (flv B (j : Int)) i = up (shs E j) j (usd E (shs E j) j j j) i
  rw [put0_up (by omega), show ((j : Int)).toNat = j by omega, flv_usd hE h hj]
  unfold up
  by_cases e : i = j
  · rw [if_pos e, if_pos e]
  · rw [if_neg e, if_neg e]
    exact h.2 i (by omega)
theorem cuU_nus {E : EX} {f : Nat} (hE : WFE E f) : ∀ (k j : Nat) (B : BT), j + k = eN E → BE B E j → (cuU k B (j : Int) (nus E j)).2 = nus E (eN E)
  | 0, j, B, hj, _ => by
    rw [show eN E = j by omega]
    rfl
  | k + 1, j, B, hj, h => by
    have e : cuU (k + 1) B (j : Int) (nus E j) = cuU k (sLike B (j : Int)) ((j : Int) + 1) (if flv B (j : Int) = (j : Int) then nus E j + 1 else nus E j) := rfl
    have hs : shs E (j + 1) j = usd E (shs E j) j j j := up_s
    have en : (if flv B (j : Int) = (j : Int) then nus E j + 1 else nus E j) = nus E (j + 1) := by
      rw [flv_usd hE h (by omega)]
      show _ = nus E j + (if shs E (j + 1) j = j then 1 else 0)
      rw [hs]
      split <;> omega
    rw [e, en, show (j : Int) + 1 = ((j + 1 : Nat) : Int) by omega]
    exact cuU_nus hE k (j + 1) _ (by omega) (BE_like hE h (by omega))
theorem EB_unl {B : BT} (h : TRE B) (h1 : lP B = 1) : nUn B = nus (EB B) (eN (EB B)) := cuU_nus (EB_wf h h1) (bN B).toNat 0 B (Nat.zero_add _) ⟨fun _ _ => ⟨rfl, rfl, rfl, rfl⟩, fun i hi => absurd hi (Nat.not_lt_zero _)⟩
theorem EB_ok {B : BT} (h : TRE B) (hl : LEA B) (h1 : lP B = 1) : EOK (EB B) (at0 40 (bD B) (bN B - 1)) (nUn B) (bZ B) := ⟨EB_dep h h1, EB_unl h h1, hl⟩
/-- all that holds of a state's functions -/
def GI (F : FT) : Prop := GF F ∧ LKG F ∧ ∀ f, f < 4 → EOK (fE F f) (fD F f) (fU F f) (fL F f)
/-- the first expression -/
theorem E0_wf (f : Nat) : WFE E0 f := by
  refine ⟨by decide, fun k hk => ?_, fun j hj => absurd (show j + 1 < 1 from hj) (by omega)⟩
  have hk' : k < 1 := hk
  rw [show k = 0 by omega]
  exact Or.inr (Or.inl ⟨by decide, by decide, by decide, by decide⟩)
theorem E0_lk : LKP E0 := by
  intro k hk
  have hk' : k < 1 := hk
  rw [show k = 0 by omega]
  decide
theorem E0_ok : EOK E0 1 1 0 := by
  unfold EOK
  decide
