/-! what the Reckoner's tables keep: a value or a slope, or that it isn't known -/
def GF (F : FT) : Prop := PRM (fP F) ∧ ∀ f, f < 4 → WFE (fE F f) f
def RI (F : FT) (r : RT) : Prop := ∀ u x : Int, 0 ≤ u → u < 4 → 0 ≤ x → x < fP F → (rV r (u * 199 + x).toNat = -2 ∨ rV r (u * 199 + x).toNat = vv (fP F) (fE F) u.toNat x) ∧ (rH r (u * 199 + x).toNat = -2 ∨ (rH r (u * 199 + x).toNat = hh (fP F) (fE F) u.toNat x ∧ rV r (u * 199 + x).toNat = vv (fP F) (fE F) u.toNat x)) ∧ (rR r (u * 199 + x).toNat = -2 ∨ rR r (u * 199 + x).toNat = hh (fP F) (fE F) u.toNat x)
/-- the rows of functions greater than u are as they were -/
def KP (u : Int) (r r' : RT) : Prop := ∀ j : Nat, (u + 1) * 40 ≤ (j : Int) → nV r' j = nV r j ∧ nS r' j = nS r j ∧ nW r' j = nW r j
theorem KP_rfl {u : Int} {r : RT} : KP u r r := fun _ _ => ⟨rfl, rfl, rfl⟩
theorem KP_trans {u v : Int} {a b c : RT} (h1 : KP u a b) (h2 : KP v b c) (hv : v ≤ u) : KP u a c := by
  intro j hj
  have x := h1 j hj
  have y := h2 j (by omega)
  exact ⟨y.1.trans x.1, y.2.1.trans x.2.1, y.2.2.trans x.2.2⟩
theorem KP_row {u v : Int} {r r' : RT} (h : KP v r r') (hv : v < u) (h0 : 0 ≤ u) : ∀ j, row (nV r') u j = row (nV r) u j ∧ row (nS r') u j = row (nS r) u j ∧ row (nW r') u j = row (nW r) u j := by
  intro j
  exact h (u * 40 + j).toNat (by omega)
theorem row_up {T : Nat → Int} {u k x : Int} {j : Nat} (h0 : 0 ≤ u) (hk : 0 ≤ k) : row (up T (u * 40 + k).toNat x) u j = if (j : Int) = k then x else row T u j := by
  unfold row up
  by_cases e : (j : Int) = k
  · rw [if_pos e, if_pos (by omega)]
  · rw [if_neg e, if_neg (by omega)]
theorem KP_set {u k : Int} {r : RT} {a b c : Nat → Int} (h0 : 0 ≤ u) (hk : 0 ≤ k ∧ k < 40) (T : RT) (hT : KP u r T) (ha : ∃ x, a = up (nV T) (u * 40 + k).toNat x ∨ a = nV T) (hb : ∃ x, b = up (nS T) (u * 40 + k).toNat x ∨ b = nS T) (hc : ∃ x, c = up (nW T) (u * 40 + k).toNat x ∨ c = nW T) {p q s : Nat → Int} : KP u r (mkR p q s a b c) := by
  intro j hj
  have h := hT j hj
  have hn : j ≠ (u * 40 + k).toNat := by omega
  refine ⟨?_, ?_, ?_⟩
  · obtain ⟨x, e | e⟩ := ha
    · show a j = _
      rw [e, up_n hn]; exact h.1
    · show a j = _
      rw [e]; exact h.1
  · obtain ⟨x, e | e⟩ := hb
    · show b j = _
      rw [e, up_n hn]; exact h.2.1
    · show b j = _
      rw [e]; exact h.2.1
  · obtain ⟨x, e | e⟩ := hc
    · show c j = _
      rw [e, up_n hn]; exact h.2.2
    · show c j = _
      rw [e]; exact h.2.2
theorem RI_nodes {F : FT} {r : RT} (h : RI F r) (a b c : Nat → Int) : RI F (mkR (rV r) (rH r) (rR r) a b c) := h
theorem RI_setV {F : FT} {r : RT} {u x : Int} (hp : fP F ≤ 199) (h : RI F r) (hu : 0 ≤ u ∧ u < 4) (hx : 0 ≤ x ∧ x < fP F) {a b c : Nat → Int} : RI F (mkR (up (rV r) (u * 199 + x).toNat (vv (fP F) (fE F) u.toNat x)) (rH r) (rR r) a b c) := by
  intro v y h1 h2 h3 h4
  have q := h v y h1 h2 h3 h4
  simp only [mkR, rV, rH, rR] at q ⊢
  by_cases e : (v * 199 + y).toNat = (u * 199 + x).toNat
  · have e1 : v = u := by omega
    have e2 : y = x := by omega
    subst e1; subst e2
    rw [up_s]
    refine ⟨Or.inr rfl, ?_, q.2.2⟩
    rcases q.2.1 with z | z
    · exact Or.inl z
    · exact Or.inr ⟨z.1, rfl⟩
  · rw [up_n e]; exact q
theorem RI_setH {F : FT} {r : RT} {u x : Int} (hp : fP F ≤ 199) (h : RI F r) (hu : 0 ≤ u ∧ u < 4) (hx : 0 ≤ x ∧ x < fP F) {a b c : Nat → Int} : RI F (mkR (up (rV r) (u * 199 + x).toNat (vv (fP F) (fE F) u.toNat x)) (up (rH r) (u * 199 + x).toNat (hh (fP F) (fE F) u.toNat x)) (rR r) a b c) := by
  intro v y h1 h2 h3 h4
  have q := h v y h1 h2 h3 h4
  simp only [mkR, rV, rH, rR] at q ⊢
  by_cases e : (v * 199 + y).toNat = (u * 199 + x).toNat
  · have e1 : v = u := by omega
    have e2 : y = x := by omega
    subst e1; subst e2
    rw [up_s, up_s]
    exact ⟨Or.inr rfl, Or.inr ⟨rfl, rfl⟩, q.2.2⟩
  · rw [up_n e, up_n e]; exact q
theorem RI_setR {F : FT} {r : RT} {u x : Int} (hp : fP F ≤ 199) (h : RI F r) (hu : 0 ≤ u ∧ u < 4) (hx : 0 ≤ x ∧ x < fP F) {a b c : Nat → Int} : RI F (mkR (rV r) (rH r) (up (rR r) (u * 199 + x).toNat (hh (fP F) (fE F) u.toNat x)) a b c) := by
  intro v y h1 h2 h3 h4
  have q := h v y h1 h2 h3 h4
  simp only [mkR, rV, rH, rR] at q ⊢
  by_cases e : (v * 199 + y).toNat = (u * 199 + x).toNat
  · have e1 : v = u := by omega
    have e2 : y = x := by omega
    subst e1; subst e2
    rw [up_s]
    exact ⟨q.1, q.2.1, Or.inr rfl⟩
  · rw [up_n e]; exact q
theorem GF_p {F : FT} (h : GF F) : 2 ≤ fP F ∧ fP F ≤ 199 := ⟨h.1.1, h.1.2.1⟩
theorem GF_vv {F : FT} (h : GF F) {u x : Int} (hu : 0 ≤ u ∧ u < 4) (hx : 0 ≤ x ∧ x < fP F) : vv (fP F) (fE F) u.toNat x = -1 ∨ (0 ≤ vv (fP F) (fE F) u.toNat x ∧ vv (fP F) (fE F) u.toNat x < fP F) := vv_rng (by have := GF_p h; omega) h.2 u.toNat (by omega) x hx.1 hx.2
/-- the state of the reading of a function's nodes: i of them have their values -/
def VI (F : FT) (u x : Int) (i : Int) (r : RT) : Prop := (evs (fP F) (fE F u.toNat) (vv (fP F) (fE F)) x i.toNat).2 = true ∧ ∀ j : Nat, (j : Int) < i → row (nV r) u j = (evs (fP F) (fE F u.toNat) (vv (fP F) (fE F)) x i.toNat).1 j
theorem VI_rng {F : FT} (h : GF F) {u x i : Int} {r : RT} (hu : 0 ≤ u ∧ u < 4) (hx : 0 ≤ x ∧ x < fP F) (hi : 0 ≤ i ∧ i ≤ eN (fE F u.toNat)) (hv : VI F u x i r) : ∀ j, j < i.toNat → 0 ≤ row (nV r) u j ∧ row (nV r) u j < fP F := by
  intro j hj
  have hp := GF_p h
  have hE := h.2 u.toNat (by omega)
  rw [hv.2 j (by omega)]
  exact evs_rng (f := u.toNat) (by omega) hx (fun k z hk a b => vv_rng (by omega) h.2 k (by omega) z a b) i.toNat (by have := hE.1; omega) (fun k hk => hE.2.1 k (by omega)) hv.1 j hj
/-- the next node's value, as the method finds it -/
theorem VI_node {F : FT} (h : GF F) {u x i : Int} {r : RT} (hu : 0 ≤ u ∧ u < 4) (hi : 0 ≤ i ∧ i < eN (fE F u.toNat)) (hv : VI F u x i r) (hk : ¬ eK (fE F u.toNat) i.toNat = 99) : nvl (fP F) (fE F u.toNat) (vv (fP F) (fE F)) x (evs (fP F) (fE F u.toNat) (vv (fP F) (fE F)) x i.toNat).1 i.toNat = nvn (fP F) (fE F u.toNat) x (row (nV r) u) i.toNat := by
  have hE := h.2 u.toNat (by omega)
  unfold nvl
  rw [if_neg hk]
  exact (nvn_congr (hE.2.1 i.toNat (by omega)) (fun j hj => hv.2 j (by omega))).symm
theorem VI_call {F : FT} (h : GF F) {u x i : Int} {r : RT} (hu : 0 ≤ u ∧ u < 4) (hi : 0 ≤ i ∧ i < eN (fE F u.toNat)) (hv : VI F u x i r) (hk : eK (fE F u.toNat) i.toNat = 99) : nvl (fP F) (fE F u.toNat) (vv (fP F) (fE F)) x (evs (fP F) (fE F u.toNat) (vv (fP F) (fE F)) x i.toNat).1 i.toNat = vv (fP F) (fE F) (eU (fE F u.toNat) i.toNat).toNat (gv (row (nV r) u) (eL (fE F u.toNat) i.toNat)) := by
  have hE := h.2 u.toNat (by omega)
  unfold nvl
  rw [if_pos hk, gv_congr (fun j hj => hv.2 j (by omega)) (WFK_L (hE.2.1 i.toNat (by omega)))]
theorem VI_next {F : FT} {u x i v : Int} {r r2 : RT} {a b c d e : Nat → Int} (hu : 0 ≤ u) (hi : 0 ≤ i ∧ i < 40) (hv : VI F u x i r) (hr : ∀ j : Nat, (j : Int) < i → row (nV r2) u j = row (nV r) u j) (hn : nvl (fP F) (fE F u.toNat) (vv (fP F) (fE F)) x (evs (fP F) (fE F u.toNat) (vv (fP F) (fE F)) x i.toNat).1 i.toNat = v) (hb : ¬ v = -1) : VI F u x (i + 1) (mkR a b c (up (nV r2) (u * 40 + i).toNat v) d e) := by
  have e1 : (i + 1).toNat = i.toNat + 1 := by omega
  refine ⟨?_, ?_⟩
  · rw [e1]
    exact evs_go hv.1 (by rw [hn]; exact hb)
  · intro j hj
    rw [e1]
    show row (up (nV r2) (u * 40 + i).toNat v) u j = up _ i.toNat (nvl (fP F) (fE F u.toNat) (vv (fP F) (fE F)) x (evs (fP F) (fE F u.toNat) (vv (fP F) (fE F)) x i.toNat).1 i.toNat) j
    rw [row_up hu hi.1, hn]
    unfold up
    by_cases hj2 : (j : Int) = i
    · rw [if_pos hj2, if_pos (by omega)]
    · rw [if_neg hj2, if_neg (by omega), hr j (by omega), hv.2 j (by omega)]
theorem VI_0 {F : FT} {u x : Int} {r : RT} : VI F u x 0 r := ⟨rfl, fun j hj => absurd hj (by omega)⟩
theorem VI_bad {F : FT} (h : GF F) {u x i : Int} (hu : 0 ≤ u ∧ u < 4) (hi : 0 ≤ i ∧ i < eN (fE F u.toNat)) (hn : nvl (fP F) (fE F u.toNat) (vv (fP F) (fE F)) x (evs (fP F) (fE F u.toNat) (vv (fP F) (fE F)) x i.toNat).1 i.toNat = -1) : vv (fP F) (fE F) u.toNat x = -1 := by
  rw [vv_eq (by omega) (h.2 u.toNat (by omega))]
  unfold vof
  rw [if_neg (evs_bad (k := i.toNat) (by omega) hn)]
theorem VI_end {F : FT} (h : GF F) {u x i : Int} {r : RT} (hu : 0 ≤ u ∧ u < 4) (hi : i = eN (fE F u.toNat)) (hv : VI F u x i r) : vv (fP F) (fE F) u.toNat x = row (nV r) u (i - 1).toNat := by
  have hE := (h.2 u.toNat (by omega)).1
  rw [vv_eq (by omega) (h.2 u.toNat (by omega)), hv.2 (i - 1).toNat (by omega)]
  unfold vof
  rw [show eN (fE F u.toNat) = i.toNat by omega, if_pos hv.1, show (i - 1).toNat = i.toNat - 1 by omega]
/-! slopes by hinges -/
theorem nsl_rng {p : Int} {E : EX} {ch : Nat → Int → Int} {sx : Int} {w z : Nat → Int} {k : Nat} (hp : 0 < p) (hs : 0 ≤ sx ∧ sx < p) : 0 ≤ nsl p E ch sx w z k ∧ nsl p E ch sx w z k < p := by
  unfold nsl
  repeat' split
  all_goals first | exact hs | exact emod_rng _ hp | omega
theorem hns_rng {p : Int} {E : EX} {cv ch : Nat → Int → Int} {x sx : Int} (hp : 0 < p) (hs : 0 ≤ sx ∧ sx < p) : ∀ k j, 0 ≤ hns p E cv ch x sx k j ∧ hns p E cv ch x sx k j < p
  | 0, j => by show 0 ≤ (0 : Int) ∧ (0 : Int) < p; omega
  | k + 1, j => by
    show 0 ≤ up _ k _ j ∧ up _ k _ j < p
    by_cases e : j = k
    · subst e; rw [up_s]; exact nsl_rng hp hs
    · rw [up_n e]; exact hns_rng hp hs k j
theorem hof_rng {p : Int} {E : EX} {cv ch : Nat → Int → Int} {x sx : Int} (hp : 0 < p) (hs : 0 ≤ sx ∧ sx < p) : hof p E cv ch x sx = -1 ∨ (0 ≤ hof p E cv ch x sx ∧ hof p E cv ch x sx < p) := by
  unfold hof
  by_cases h : (evs p E cv x (eN E)).2 = true
  · rw [if_pos h]; exact Or.inr (hns_rng hp hs _ _)
  · rw [if_neg h]; exact Or.inl rfl
theorem GF_hf {F : FT} (h : GF F) {f : Nat} {x sx : Int} (hs : 0 ≤ sx ∧ sx < fP F) : hf (fP F) (fE F) f x sx = -1 ∨ (0 ≤ hf (fP F) (fE F) f x sx ∧ hf (fP F) (fE F) f x sx < fP F) := hof_rng (by have := GF_p h; omega) hs
theorem GF_hh {F : FT} (h : GF F) {f : Nat} {x : Int} (h4 : f < 4) : hh (fP F) (fE F) f x = -1 ∨ (0 ≤ hh (fP F) (fE F) f x ∧ hh (fP F) (fE F) f x < fP F) := by
  rw [hh_eq h4 (h.2 f h4)]
  exact GF_hf h (by have := GF_p h; omega)
theorem hf_bad_iff {F : FT} (h : GF F) {f : Nat} {x sx : Int} (h4 : f < 4) (hx : 0 ≤ x ∧ x < fP F) (hs : 0 ≤ sx ∧ sx < fP F) : hf (fP F) (fE F) f x sx = -1 ↔ vv (fP F) (fE F) f x = -1 := by
  have hp := GF_p h
  have hE := h.2 f h4
  rw [vv_eq h4 hE]
  unfold hf hof vof
  by_cases q : (evs (fP F) (fE F f) (vv (fP F) (fE F)) x (eN (fE F f))).2 = true
  · rw [if_pos q, if_pos q]
    have a := hns_rng (p := fP F) (E := fE F f) (cv := vv (fP F) (fE F)) (ch := hh (fP F) (fE F)) (x := x) (sx := sx) (by omega) hs (eN (fE F f)) (eN (fE F f) - 1)
    have b := evs_rng (cv := vv (fP F) (fE F)) (E := fE F f) (x := x) (f := f) (p := fP F) (by omega) hx (fun k z hk a b => vv_rng (by omega) h.2 k (by omega) z a b) (eN (fE F f)) hE.1.2 hE.2.1 q (eN (fE F f) - 1) (by have := hE.1; omega)
    constructor <;> intro c <;> omega
  · rw [if_neg q, if_neg q]
def SI (F : FT) (u x sx i : Int) (r : RT) : Prop := ∀ j : Nat, (j : Int) < i → row (nS r) u j = hns (fP F) (fE F u.toNat) (vv (fP F) (fE F)) (hh (fP F) (fE F)) x sx i.toNat j
def NSL (F : FT) (u x sx i : Int) : Int := nsl (fP F) (fE F u.toNat) (hh (fP F) (fE F)) sx (evs (fP F) (fE F u.toNat) (vv (fP F) (fE F)) x i.toNat).1 (hns (fP F) (fE F u.toNat) (vv (fP F) (fE F)) (hh (fP F) (fE F)) x sx i.toNat) i.toNat
theorem SI_node {F : FT} (h : GF F) {u x sx i : Int} {r : RT} (hu : 0 ≤ u ∧ u < 4) (hi : 0 ≤ i ∧ i < eN (fE F u.toNat)) (hv : VI F u x i r) (hs : SI F u x sx i r) : NSL F u x sx i = nsl (fP F) (fE F u.toNat) (hh (fP F) (fE F)) sx (row (nV r) u) (row (nS r) u) i.toNat := by
  have hE := h.2 u.toNat (by omega)
  exact (nsl_congr (hE.2.1 i.toNat (by omega)) (fun j hj => hv.2 j (by omega)) (fun j hj => hs j (by omega))).symm
theorem SI_next {F : FT} {u x sx i v : Int} {r r2 : RT} {a b c d e : Nat → Int} (hu : 0 ≤ u) (hi : 0 ≤ i ∧ i < 40) (hs : SI F u x sx i r) (hr : ∀ j : Nat, (j : Int) < i → row (nS r2) u j = row (nS r) u j) (hn : NSL F u x sx i = v) : SI F u x sx (i + 1) (mkR a b c d (up (nS r2) (u * 40 + i).toNat v) e) := by
  intro j hj
  rw [show (i + 1).toNat = i.toNat + 1 by omega]
  show row (up (nS r2) (u * 40 + i).toNat v) u j = up _ i.toNat (NSL F u x sx i) j
  rw [row_up hu hi.1, hn]
  unfold up
  by_cases hj2 : (j : Int) = i
  · rw [if_pos hj2, if_pos (by omega)]
  · rw [if_neg hj2, if_neg (by omega), hr j (by omega), hs j (by omega)]
theorem SI_0 {F : FT} {u x sx : Int} {r : RT} : SI F u x sx 0 r := fun j hj => absurd hj (by omega)
theorem SI_rng {F : FT} (h : GF F) {u x sx i : Int} {r : RT} (hx : 0 ≤ sx ∧ sx < fP F) (hs : SI F u x sx i r) : ∀ j, j < i.toNat → 0 ≤ row (nS r) u j ∧ row (nS r) u j < fP F := by
  intro j hj
  have hp := GF_p h
  rw [hs j (by omega)]
  exact hns_rng (by omega) hx _ _
theorem SI_end {F : FT} (h : GF F) {u x sx i : Int} {r : RT} (hu : 0 ≤ u ∧ u < 4) (hi : i = eN (fE F u.toNat)) (hv : VI F u x i r) (hs : SI F u x sx i r) : hf (fP F) (fE F) u.toNat x sx = row (nS r) u (i - 1).toNat := by
  have hE := (h.2 u.toNat (by omega)).1
  rw [hs (i - 1).toNat (by omega)]
  unfold hf hof
  rw [show eN (fE F u.toNat) = i.toNat by omega, if_pos hv.1, show (i - 1).toNat = i.toNat - 1 by omega]
theorem SI_bad {F : FT} (h : GF F) {u x sx i : Int} (hu : 0 ≤ u ∧ u < 4) (hi : 0 ≤ i ∧ i < eN (fE F u.toNat)) (hn : nvl (fP F) (fE F u.toNat) (vv (fP F) (fE F)) x (evs (fP F) (fE F u.toNat) (vv (fP F) (fE F)) x i.toNat).1 i.toNat = -1) : hf (fP F) (fE F) u.toNat x sx = -1 := by
  unfold hf hof
  rw [if_neg (evs_bad (k := i.toNat) (by omega) hn)]
/-- a node that is no call: value kept, slope told -/
def hnr (F : FT) (r : RT) (u k x : Int) : RT := if nvn (fP F) (fE F u.toNat) x (row (nV r) u) k.toNat = -1 then r else mkR (rV r) (rH r) (rR r) (up (nV r) (u * 40 + k).toNat (nvn (fP F) (fE F u.toNat) x (row (nV r) u) k.toNat)) (nS r) (nW r)
def hnv (F : FT) (r : RT) (u k x sx : Int) : Int := if nvn (fP F) (fE F u.toNat) x (row (nV r) u) k.toNat = -1 then -1 else nsl (fP F) (fE F u.toNat) (hh (fP F) (fE F)) sx (row (nV r) u) (row (nS r) u) k.toNat
theorem VI_nx {F : FT} {u x i v : Int} {r r3 : RT} (hi : 0 ≤ i) (hv : VI F u x i r) (hn : nvl (fP F) (fE F u.toNat) (vv (fP F) (fE F)) x (evs (fP F) (fE F u.toNat) (vv (fP F) (fE F)) x i.toNat).1 i.toNat = v) (hb : ¬ v = -1) (hr : ∀ j : Nat, (j : Int) ≤ i → row (nV r3) u j = if (j : Int) = i then v else row (nV r) u j) : VI F u x (i + 1) r3 := by
  have e1 : (i + 1).toNat = i.toNat + 1 := by omega
  refine ⟨?_, ?_⟩
  · rw [e1]
    exact evs_go hv.1 (by rw [hn]; exact hb)
  · intro j hj
    rw [e1, hr j (by omega)]
    show _ = up _ i.toNat (nvl (fP F) (fE F u.toNat) (vv (fP F) (fE F)) x (evs (fP F) (fE F u.toNat) (vv (fP F) (fE F)) x i.toNat).1 i.toNat) j
    rw [hn]
    unfold up
    by_cases hj2 : (j : Int) = i
    · rw [if_pos hj2, if_pos (by omega)]
    · rw [if_neg hj2, if_neg (by omega), hv.2 j (by omega)]
theorem SI_nx {F : FT} {u x sx i v : Int} {r r3 : RT} (hi : 0 ≤ i) (hs : SI F u x sx i r) (hn : NSL F u x sx i = v) (hr : ∀ j : Nat, (j : Int) ≤ i → row (nS r3) u j = if (j : Int) = i then v else row (nS r) u j) : SI F u x sx (i + 1) r3 := by
  intro j hj
  rw [show (i + 1).toNat = i.toNat + 1 by omega, hr j (by omega)]
  show _ = up _ i.toNat (NSL F u x sx i) j
  rw [hn]
  unfold up
  by_cases hj2 : (j : Int) = i
  · rw [if_pos hj2, if_pos (by omega)]
  · rw [if_neg hj2, if_neg (by omega), hs j (by omega)]
/-- one node of the reckoning with hinge numbers: from r1 to r2, its slope (or the ban) v9 -/
def FD (F : FT) (u x sx i : Int) (r1 r2 : RT) (v9 : Int) : Prop :=
  (v9 = -1 → nvl (fP F) (fE F u.toNat) (vv (fP F) (fE F)) x (evs (fP F) (fE F u.toNat) (vv (fP F) (fE F)) x i.toNat).1 i.toNat = -1) ∧
  (¬ v9 = -1 → ∃ w9, nvl (fP F) (fE F u.toNat) (vv (fP F) (fE F)) x (evs (fP F) (fE F u.toNat) (vv (fP F) (fE F)) x i.toNat).1 i.toNat = w9 ∧ ¬ w9 = -1 ∧ (∀ j : Nat, (j : Int) ≤ i → row (nV r2) u j = if (j : Int) = i then w9 else row (nV r1) u j) ∧ NSL F u x sx i = v9) ∧
  (∀ j : Nat, row (nS r2) u j = row (nS r1) u j) ∧ (v9 = -1 ∨ (0 ≤ v9 ∧ v9 < fP F))
theorem FD_node {F : FT} (h : GF F) {u x sx i : Int} {r : RT} (hu : 0 ≤ u ∧ u < 4) (hi : 0 ≤ i ∧ i < eN (fE F u.toNat)) (hsx : 0 ≤ sx ∧ sx < fP F) (hv : VI F u x i r) (hs : SI F u x sx i r) (hk : ¬ eK (fE F u.toNat) i.toNat = 99) : FD F u x sx i r (hnr F r u i x) (hnv F r u i x sx) := by
  have hp := GF_p h
  have e := VI_node h hu hi hv hk
  have e2 := SI_node h (sx := sx) hu hi hv hs
  unfold FD hnr hnv
  by_cases hb : nvn (fP F) (fE F u.toNat) x (row (nV r) u) i.toNat = -1
  · rw [if_pos hb, if_pos hb]
    exact ⟨fun _ => e.trans hb, fun q => absurd rfl q, fun _ => rfl, Or.inl rfl⟩
  · rw [if_neg hb, if_neg hb]
    have hr := nsl_rng (p := fP F) (E := fE F u.toNat) (ch := hh (fP F) (fE F)) (w := row (nV r) u) (z := row (nS r) u) (k := i.toNat) (by omega) hsx
    refine ⟨fun q => absurd q (by omega), fun _ => ⟨_, e, hb, fun j hj => ?_, e2⟩, fun _ => rfl, Or.inr hr⟩
    show row (up (nV r) (u * 40 + i).toNat _) u j = _
    rw [row_up hu.1 hi.1]
theorem hh_bad_iff {F : FT} (h : GF F) {f : Nat} {x : Int} (h4 : f < 4) (hx : 0 ≤ x ∧ x < fP F) : hh (fP F) (fE F) f x = -1 ↔ vv (fP F) (fE F) f x = -1 := by
  have hp := GF_p h
  rw [hh_eq h4 (h.2 f h4)]
  exact hf_bad_iff h h4 hx (by omega)
theorem FD_call {F : FT} (h : GF F) {u x sx i v9 : Int} {r r2 : RT} (hu : 0 ≤ u ∧ u < 4) (hi : 0 ≤ i ∧ i < eN (fE F u.toNat)) (hx : 0 ≤ x ∧ x < fP F) (hv : VI F u x i r) (hs : SI F u x sx i r) (hk : eK (fE F u.toNat) i.toNat = 99)
    (h9 : v9 = if hh (fP F) (fE F) (eU (fE F u.toNat) i.toNat).toNat (gv (row (nV r) u) (eL (fE F u.toNat) i.toNat)) = -1 then (-1 : Int) else hh (fP F) (fE F) (eU (fE F u.toNat) i.toNat).toNat (gv (row (nV r) u) (eL (fE F u.toNat) i.toNat)) * gv (row (nS r) u) (eL (fE F u.toNat) i.toNat) % fP F)
    (hr : ∀ j : Nat, u * 40 ≤ (j : Int) → nV r2 j = (if hh (fP F) (fE F) (eU (fE F u.toNat) i.toNat).toNat (gv (row (nV r) u) (eL (fE F u.toNat) i.toNat)) = -1 then nV r j else up (nV r) (u * 40 + i).toNat (vv (fP F) (fE F) (eU (fE F u.toNat) i.toNat).toNat (gv (row (nV r) u) (eL (fE F u.toNat) i.toNat))) j) ∧ nS r2 j = nS r j ∧ nW r2 j = nW r j) : FD F u x sx i r r2 v9 := by
  have hp := GF_p h
  have hE := (h.2 u.toNat (by omega)).2.1 i.toNat (by omega)
  have hU := (WFK_U hE (by omega)).2.2.2 hk
  have hU0 := (WFK_U hE (by omega)).1
  have gu := gv_rng (w := row (nV r) u) (p := fP F) (i := eL (fE F u.toNat) i.toNat) (k := i.toNat) (by have := (h.2 u.toNat (by omega)).1; omega) (VI_rng h hu hx (by omega) hv) (by omega) (WFK_L hE)
  have e := VI_call h hu hi hv hk
  have e2 := SI_node h (sx := sx) hu hi hv hs
  have hb := hh_bad_iff h (f := (eU (fE F u.toNat) i.toNat).toNat) (x := gv (row (nV r) u) (eL (fE F u.toNat) i.toNat)) (by omega) gu
  have hS : ∀ j : Nat, row (nS r2) u j = row (nS r) u j := fun j => (hr (u * 40 + j).toNat (by omega)).2.1
  unfold FD
  by_cases q : hh (fP F) (fE F) (eU (fE F u.toNat) i.toNat).toNat (gv (row (nV r) u) (eL (fE F u.toNat) i.toNat)) = -1
  · rw [if_pos q] at h9
    exact ⟨fun _ => e.trans (hb.mp q), fun z => absurd h9 z, hS, Or.inl h9⟩
  · rw [if_neg q] at h9
    have hm := emod_rng (hh (fP F) (fE F) (eU (fE F u.toNat) i.toNat).toNat (gv (row (nV r) u) (eL (fE F u.toNat) i.toNat)) * gv (row (nS r) u) (eL (fE F u.toNat) i.toNat)) (p := fP F) (by omega)
    refine ⟨fun z => absurd z (by omega), fun _ => ⟨_, e, fun z => q (hb.mpr z), fun j hj => ?_, ?_⟩, hS, Or.inr (by omega)⟩
    · have z := (hr (u * 40 + j).toNat (by omega)).1
      rw [if_neg q] at z
      show nV r2 (u * 40 + j).toNat = _
      rw [z]
      unfold up row
      by_cases hj2 : (j : Int) = i
      · rw [if_pos hj2, if_pos (by omega)]
      · rw [if_neg hj2, if_neg (by omega)]
    · rw [e2, h9]
      unfold nsl
      rw [hk]
      rfl
