/-! what the Reckoner's tables keep: a value or a slope, or that it isn't known -/
def GF (F : FT) : Prop := PRM (fP F) ∧ ∀ f, f < 4 → WFE (fE F f) f
def RI (F : FT) (r : RT) : Prop := ∀ u x : Int, 0 ≤ u → u < 4 → 0 ≤ x → x < fP F → (rV r (u * 199 + x).toNat = -2 ∨ rV r (u * 199 + x).toNat = vv (fP F) (fE F) u.toNat x) ∧ (rH r (u * 199 + x).toNat = -2 ∨ (rH r (u * 199 + x).toNat = hh (fP F) (fE F) u.toNat x ∧ rV r (u * 199 + x).toNat = vv (fP F) (fE F) u.toNat x)) ∧ (rR r (u * 199 + x).toNat = -2 ∨ rR r (u * 199 + x).toNat = hh (fP F) (fE F) u.toNat x)
/-- the rows of functions greater than u are as they were -/
def KP (u : Int) (r r' : RT) : Prop := ∀ j : Nat, (u + 1) * 40 ≤ (j : Int) → nV r' j = nV r j ∧ nS r' j = nS r j ∧ nW r' j = nW r j
theorem KP_rfl {u : Int} {r : RT} : KP u r r := fun _ _ => ⟨rfl, rfl, rfl⟩
theorem KP_trans {u v : Int} {a b c : RT} (h1 : KP u a b) (h2 : KP v b c) (hv : v ≤ u) : KP u a c := by
  intro j hj
  have x := h1 j hj
  have y := h2 j (by omega)
  exact ⟨y.1.trans x.1, y.2.1.trans x.2.1, y.2.2.trans x.2.2⟩
theorem KP_row {u v : Int} {r r' : RT} (h : KP v r r') (hv : v < u) (h0 : 0 ≤ u) : ∀ j, row (nV r') u j = row (nV r) u j ∧ row (nS r') u j = row (nS r) u j ∧ row (nW r') u j = row (nW r) u j := by
  intro j
  exact h (u * 40 + j).toNat (by omega)
theorem row_up {T : Nat → Int} {u k x : Int} {j : Nat} (h0 : 0 ≤ u) (hk : 0 ≤ k) : row (up T (u * 40 + k).toNat x) u j = if (j : Int) = k then x else row T u j := by
  unfold row up
  by_cases e : (j : Int) = k
  · rw [if_pos e, if_pos (by omega)]
  · rw [if_neg e, if_neg (by omega)]
theorem KP_set {u k : Int} {r : RT} {a b c : Nat → Int} (h0 : 0 ≤ u) (hk : 0 ≤ k ∧ k < 40) (T : RT) (hT : KP u r T) (ha : ∃ x, a = up (nV T) (u * 40 + k).toNat x ∨ a = nV T) (hb : ∃ x, b = up (nS T) (u * 40 + k).toNat x ∨ b = nS T) (hc : ∃ x, c = up (nW T) (u * 40 + k).toNat x ∨ c = nW T) {p q s : Nat → Int} : KP u r (mkR p q s a b c) := by
  intro j hj
  have h := hT j hj
  have hn : j ≠ (u * 40 + k).toNat := by omega
  refine ⟨?_, ?_, ?_⟩
  · obtain ⟨x, e | e⟩ := ha
    · show a j = _
      rw [e, up_n hn]; exact h.1
    · show a j = _
      rw [e]; exact h.1
  · obtain ⟨x, e | e⟩ := hb
    · show b j = _
      rw [e, up_n hn]; exact h.2.1
    · show b j = _
      rw [e]; exact h.2.1
  · obtain ⟨x, e | e⟩ := hc
    · show c j = _
      rw [e, up_n hn]; exact h.2.2
    · show c j = _
      rw [e]; exact h.2.2
theorem RI_nodes {F : FT} {r : RT} (h : RI F r) (a b c : Nat → Int) : RI F (mkR (rV r) (rH r) (rR r) a b c) := h
theorem RI_setV {F : FT} {r : RT} {u x : Int} (hp : fP F ≤ 199) (h : RI F r) (hu : 0 ≤ u ∧ u < 4) (hx : 0 ≤ x ∧ x < fP F) {a b c : Nat → Int} : RI F (mkR (up (rV r) (u * 199 + x).toNat (vv (fP F) (fE F) u.toNat x)) (rH r) (rR r) a b c) := by
  intro v y h1 h2 h3 h4
  have q := h v y h1 h2 h3 h4
  simp only [mkR, rV, rH, rR] at q ⊢
  by_cases e : (v * 199 + y).toNat = (u * 199 + x).toNat
  · have e1 : v = u := by omega
    have e2 : y = x := by omega
    subst e1; subst e2
    rw [up_s]
    refine ⟨Or.inr rfl, ?_, q.2.2⟩
    rcases q.2.1 with z | z
    · exact Or.inl z
    · exact Or.inr ⟨z.1, rfl⟩
  · rw [up_n e]; exact q
theorem RI_setH {F : FT} {r : RT} {u x : Int} (hp : fP F ≤ 199) (h : RI F r) (hu : 0 ≤ u ∧ u < 4) (hx : 0 ≤ x ∧ x < fP F) {a b c : Nat → Int} : RI F (mkR (up (rV r) (u * 199 + x).toNat (vv (fP F) (fE F) u.toNat x)) (up (rH r) (u * 199 + x).toNat (hh (fP F) (fE F) u.toNat x)) (rR r) a b c) := by
  intro v y h1 h2 h3 h4
  have q := h v y h1 h2 h3 h4
  simp only [mkR, rV, rH, rR] at q ⊢
  by_cases e : (v * 199 + y).toNat = (u * 199 + x).toNat
  · have e1 : v = u := by omega
    have e2 : y = x := by omega
    subst e1; subst e2
    rw [up_s, up_s]
    exact ⟨Or.inr rfl, Or.inr ⟨rfl, rfl⟩, q.2.2⟩
  · rw [up_n e, up_n e]; exact q
theorem RI_setR {F : FT} {r : RT} {u x : Int} (hp : fP F ≤ 199) (h : RI F r) (hu : 0 ≤ u ∧ u < 4) (hx : 0 ≤ x ∧ x < fP F) {a b c : Nat → Int} : RI F (mkR (rV r) (rH r) (up (rR r) (u * 199 + x).toNat (hh (fP F) (fE F) u.toNat x)) a b c) := by
  intro v y h1 h2 h3 h4
  have q := h v y h1 h2 h3 h4
  simp only [mkR, rV, rH, rR] at q ⊢
  by_cases e : (v * 199 + y).toNat = (u * 199 + x).toNat
  · have e1 : v = u := by omega
    have e2 : y = x := by omega
    subst e1; subst e2
    rw [up_s]
    exact ⟨q.1, q.2.1, Or.inr rfl⟩
  · rw [up_n e]; exact q
theorem GF_p {F : FT} (h : GF F) : 2 ≤ fP F ∧ fP F ≤ 199 := ⟨h.1.1, h.1.2.1⟩
theorem GF_vv {F : FT} (h : GF F) {u x : Int} (hu : 0 ≤ u ∧ u < 4) (hx : 0 ≤ x ∧ x < fP F) : vv (fP F) (fE F) u.toNat x = -1 ∨ (0 ≤ vv (fP F) (fE F) u.toNat x ∧ vv (fP F) (fE F) u.toNat x < fP F) := vv_rng (by have := GF_p h; omega) h.2 u.toNat (by omega) x hx.1 hx.2
/-- the state of the reading of a function's nodes: i of them have their values -/
def VI (F : FT) (u x : Int) (i : Int) (r : RT) : Prop := (evs (fP F) (fE F u.toNat) (vv (fP F) (fE F)) x i.toNat).2 = true ∧ ∀ j : Nat, (j : Int) < i → row (nV r) u j = (evs (fP F) (fE F u.toNat) (vv (fP F) (fE F)) x i.toNat).1 j
theorem VI_rng {F : FT} (h : GF F) {u x i : Int} {r : RT} (hu : 0 ≤ u ∧ u < 4) (hx : 0 ≤ x ∧ x < fP F) (hi : 0 ≤ i ∧ i ≤ eN (fE F u.toNat)) (hv : VI F u x i r) : ∀ j, j < i.toNat → 0 ≤ row (nV r) u j ∧ row (nV r) u j < fP F := by
  intro j hj
  have hp := GF_p h
  have hE := h.2 u.toNat (by omega)
  rw [hv.2 j (by omega)]
  exact evs_rng (f := u.toNat) (by omega) hx (fun k z hk a b => vv_rng (by omega) h.2 k (by omega) z a b) i.toNat (by have := hE.1; omega) (fun k hk => hE.2.1 k (by omega)) hv.1 j hj
/-- the next node's value, as the method finds it -/
theorem VI_node {F : FT} (h : GF F) {u x i : Int} {r : RT} (hu : 0 ≤ u ∧ u < 4) (hi : 0 ≤ i ∧ i < eN (fE F u.toNat)) (hv : VI F u x i r) (hk : ¬ eK (fE F u.toNat) i.toNat = 99) : nvl (fP F) (fE F u.toNat) (vv (fP F) (fE F)) x (evs (fP F) (fE F u.toNat) (vv (fP F) (fE F)) x i.toNat).1 i.toNat = nvn (fP F) (fE F u.toNat) x (row (nV r) u) i.toNat := by
  have hE := h.2 u.toNat (by omega)
  unfold nvl
  rw [if_neg hk]
  exact (nvn_congr (hE.2.1 i.toNat (by omega)) (fun j hj => hv.2 j (by omega))).symm
theorem VI_call {F : FT} (h : GF F) {u x i : Int} {r : RT} (hu : 0 ≤ u ∧ u < 4) (hi : 0 ≤ i ∧ i < eN (fE F u.toNat)) (hv : VI F u x i r) (hk : eK (fE F u.toNat) i.toNat = 99) : nvl (fP F) (fE F u.toNat) (vv (fP F) (fE F)) x (evs (fP F) (fE F u.toNat) (vv (fP F) (fE F)) x i.toNat).1 i.toNat = vv (fP F) (fE F) (eU (fE F u.toNat) i.toNat).toNat (gv (row (nV r) u) (eL (fE F u.toNat) i.toNat)) := by
  have hE := h.2 u.toNat (by omega)
  unfold nvl
  rw [if_pos hk, gv_congr (fun j hj => hv.2 j (by omega)) (WFK_L (hE.2.1 i.toNat (by omega)))]
theorem VI_next {F : FT} {u x i v : Int} {r r2 : RT} {a b c d e : Nat → Int} (hu : 0 ≤ u) (hi : 0 ≤ i ∧ i < 40) (hv : VI F u x i r) (hr : ∀ j : Nat, (j : Int) < i → row (nV r2) u j = row (nV r) u j) (hn : nvl (fP F) (fE F u.toNat) (vv (fP F) (fE F)) x (evs (fP F) (fE F u.toNat) (vv (fP F) (fE F)) x i.toNat).1 i.toNat = v) (hb : ¬ v = -1) : VI F u x (i + 1) (mkR a b c (up (nV r2) (u * 40 + i).toNat v) d e) := by
  have e1 : (i + 1).toNat = i.toNat + 1 := by omega
  refine ⟨?_, ?_⟩
  · rw [e1]
    exact evs_go hv.1 (by rw [hn]; exact hb)
  · intro j hj
    rw [e1]
    show row (up (nV r2) (u * 40 + i).toNat v) u j = up _ i.toNat (nvl (fP F) (fE F u.toNat) (vv (fP F) (fE F)) x (evs (fP F) (fE F u.toNat) (vv (fP F) (fE F)) x i.toNat).1 i.toNat) j
    rw [row_up hu hi.1, hn]
    unfold up
    by_cases hj2 : (j : Int) = i
    · rw [if_pos hj2, if_pos (by omega)]
    · rw [if_neg hj2, if_neg (by omega), hr j (by omega), hv.2 j (by omega)]
theorem VI_0 {F : FT} {u x : Int} {r : RT} : VI F u x 0 r := ⟨rfl, fun j hj => absurd hj (by omega)⟩
theorem VI_bad {F : FT} (h : GF F) {u x i : Int} (hu : 0 ≤ u ∧ u < 4) (hi : 0 ≤ i ∧ i < eN (fE F u.toNat)) (hn : nvl (fP F) (fE F u.toNat) (vv (fP F) (fE F)) x (evs (fP F) (fE F u.toNat) (vv (fP F) (fE F)) x i.toNat).1 i.toNat = -1) : vv (fP F) (fE F) u.toNat x = -1 := by
  rw [vv_eq (by omega) (h.2 u.toNat (by omega))]
  unfold vof
  rw [if_neg (evs_bad (k := i.toNat) (by omega) hn)]
theorem VI_end {F : FT} (h : GF F) {u x i : Int} {r : RT} (hu : 0 ≤ u ∧ u < 4) (hi : i = eN (fE F u.toNat)) (hv : VI F u x i r) : vv (fP F) (fE F) u.toNat x = row (nV r) u (i - 1).toNat := by
  have hE := (h.2 u.toNat (by omega)).1
  rw [vv_eq (by omega) (h.2 u.toNat (by omega)), hv.2 (i - 1).toNat (by omega)]
  unfold vof
  rw [show eN (fE F u.toNat) = i.toNat by omega, if_pos hv.1, show (i - 1).toNat = i.toNat - 1 by omega]
