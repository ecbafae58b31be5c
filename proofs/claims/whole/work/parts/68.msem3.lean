/-! the reference's reckoning: codes of kinds, links by a stack, depths, likes, hinges and shares -/
def kc (K : Int) : Int := if K = 48 then 0 else if K = 120 then 1 else if K = 110 then 2 else if K = 43 then 3 else if K = 45 then 4 else if K = 42 then 5 else if K = 47 then 6 else if K = 94 then 7 else if K = 99 then 8 else 9
def ary (K : Int) : Int := if K = 43 ∨ K = 45 ∨ K = 42 ∨ K = 47 then 2 else if K = 110 ∨ K = 94 ∨ K = 99 then 1 else 0
theorem kc_cases {K : Int} (h : K = 48 ∨ K = 120 ∨ K = 110 ∨ K = 43 ∨ K = 45 ∨ K = 42 ∨ K = 47 ∨ K = 94 ∨ K = 99) : (K = 48 ∧ kc K = 0 ∧ ary K = 0) ∨ (K = 120 ∧ kc K = 1 ∧ ary K = 0) ∨ (K = 110 ∧ kc K = 2 ∧ ary K = 1) ∨ (K = 43 ∧ kc K = 3 ∧ ary K = 2) ∨ (K = 45 ∧ kc K = 4 ∧ ary K = 2) ∨ (K = 42 ∧ kc K = 5 ∧ ary K = 2) ∨ (K = 47 ∧ kc K = 6 ∧ ary K = 2) ∨ (K = 94 ∧ kc K = 7 ∧ ary K = 1) ∨ (K = 99 ∧ kc K = 8 ∧ ary K = 1) := by
  rcases h with rfl | rfl | rfl | rfl | rfl | rfl | rfl | rfl | rfl <;> decide
/-- the reference's row of a state says the modulus and the expressions -/
def ZR (Z : Nat → Int) (F : FT) : Prop := Z 0 = fP F ∧ ∀ u : Int, 0 ≤ u ∧ u < 4 → Z (1 + 81 * u).toNat = ((eN (fE F u.toNat) : Nat) : Int) ∧ ∀ k : Int, 0 ≤ k ∧ k < eN (fE F u.toNat) → Z (2 + 81 * u + 2 * k).toNat = kc (eK (fE F u.toNat) k.toNat) ∧ Z (3 + 81 * u + 2 * k).toNat = eU (fE F u.toNat) k.toNat
/-- links by a stack: how high it is, and what lies in it -/
def lks (E : EX) : Nat → Int × (Nat → Int)
  | 0 => (0, fun _ => 0)
  | k + 1 => ((lks E k).1 - ary (eK E k) + 1, up (lks E k).2 ((lks E k).1 - ary (eK E k)).toNat k)
def LKP (E : EX) : Prop := ∀ k, k < eN E → ary (eK E k) ≤ (lks E k).1 ∧ (lks E k).1 ≤ k ∧ (ary (eK E k) = 2 → eV E k = (lks E k).2 ((lks E k).1 - 1).toNat ∧ eL E k = (lks E k).2 ((lks E k).1 - 2).toNat) ∧ (ary (eK E k) = 1 → eL E k = (lks E k).2 ((lks E k).1 - 1).toNat)
def LKG (F : FT) : Prop := ∀ f, f < 4 → LKP (fE F f)
/-- depths -/
def dgv (w : Nat → Int) (i : Int) : Int := if i = -1 then 0 else w i.toNat
def dps (E : EX) : Nat → (Nat → Int)
  | 0 => fun _ => 0
  | k + 1 => up (dps E k) k (1 + (if dgv (dps E k) (eV E k) < dgv (dps E k) (eL E k) then dgv (dps E k) (eL E k) else dgv (dps E k) (eV E k)))
def mxs (E : EX) : Nat → Int
  | 0 => 0
  | k + 1 => if mxs E k < dps E (k + 1) k then dps E (k + 1) k else mxs E k
theorem dps_rng (E : EX) : ∀ k j, 0 ≤ dps E k j ∧ dps E k j ≤ k
  | 0, _ => ⟨Int.le_refl 0, Int.le_refl 0⟩
  | k + 1, j => by
    have d : ∀ i, 0 ≤ dgv (dps E k) i ∧ dgv (dps E k) i ≤ k := by
      intro i
      unfold dgv
      split
      · omega
      · exact dps_rng E k _
    have a := d (eL E k)
    have b := d (eV E k)
    have c := dps_rng E k j
    show 0 ≤ up _ k _ j ∧ up _ k _ j ≤ ((k + 1 : Nat) : Int)
    unfold up
    split
    · split <;> omega
    · omega
theorem dgv_rng (E : EX) (k : Nat) (i : Int) : 0 ≤ dgv (dps E k) i ∧ dgv (dps E k) i ≤ k := by
  unfold dgv
  split
  · omega
  · exact dps_rng E k _
theorem mxs_rng (E : EX) : ∀ k, 0 ≤ mxs E k ∧ mxs E k ≤ k
  | 0 => ⟨Int.le_refl 0, Int.le_refl 0⟩
  | k + 1 => by
    have h := mxs_rng E k
    have d := dps_rng E (k + 1) k
    unfold mxs
    split <;> omega
theorem dps_keep (E : EX) {j : Nat} : ∀ k, j < k → dps E k j = dps E (j + 1) j
  | 0, h => absurd h (Nat.not_lt_zero _)
  | k + 1, h => by
    by_cases e : j = k
    · rw [e]
    · show up _ k _ j = _
      rw [up_n e]
      exact dps_keep E k (by omega)
/-- likes: the first node that is like node k -/
abbrev ali (E : EX) (w : Nat → Int) (m k : Nat) : Prop := eK E m = eK E k ∧ eU E m = eU E k ∧ (eL E k = -1 ∨ w (eL E k).toNat = w (eL E m).toNat) ∧ (eV E k = -1 ∨ w (eV E k).toNat = w (eV E m).toNat)
def usd (E : EX) (w : Nat → Int) (k : Nat) : Nat → Int → Int
  | 0, s => s
  | m + 1, s => usd E w k m (if ali E w m k then (m : Int) else s)
def shs (E : EX) : Nat → (Nat → Int)
  | 0 => fun _ => 0
  | k + 1 => up (shs E k) k (usd E (shs E k) k k k)
def nus (E : EX) : Nat → Int
  | 0 => 0
  | k + 1 => nus E k + (if shs E (k + 1) k = k then 1 else 0)
theorem usd_rng (E : EX) (w : Nat → Int) (k : Nat) : ∀ (m : Nat) (s : Int), m ≤ k → 0 ≤ s ∧ s ≤ k → 0 ≤ usd E w k m s ∧ usd E w k m s ≤ k
  | 0, _, _, h => h
  | m + 1, s, hm, h => usd_rng E w k m (if ali E w m k then (m : Int) else s) (by omega) (by split <;> omega)
theorem shs_rng (E : EX) : ∀ k j, 0 ≤ shs E k j ∧ shs E k j ≤ k
  | 0, _ => ⟨Int.le_refl 0, Int.le_refl 0⟩
  | k + 1, j => by
    have a := usd_rng E (shs E k) k k k (Nat.le_refl _) (by omega)
    have c := shs_rng E k j
    show 0 ≤ up _ k _ j ∧ up _ k _ j ≤ ((k + 1 : Nat) : Int)
    unfold up
    split <;> omega
theorem nus_rng (E : EX) : ∀ k, 0 ≤ nus E k ∧ nus E k ≤ k
  | 0 => ⟨Int.le_refl 0, Int.le_refl 0⟩
  | k + 1 => by
    have h := nus_rng E k
    unfold nus
    split <;> omega
/-- hinges: a node that is no x -/
def zb (v : Int) : Int := if v = -1 then 0 else v
def nv0 (F : FT) (u : Int) (W : Nat → Int) (k : Nat) : Int := nvl (fP F) (fE F u.toNat) (vv (fP F) (fE F)) 0 W k
def ns0 (F : FT) (u : Int) (W S : Nat → Int) (k : Nat) : Int := if nv0 F u W k = -1 then 0 else nsl (fP F) (fE F u.toNat) (hh (fP F) (fE F)) 0 W S k
/-- what the tables say of the functions with lesser numbers -/
def TB (F : FT) (u : Int) (VT HT RU : Nat → Int) : Prop := ∀ j x : Int, 0 ≤ j → j < u → 0 ≤ x → x < fP F → VT (199 * j + x).toNat = vv (fP F) (fE F) j.toNat x ∧ HT (199 * j + x).toNat = hh (fP F) (fE F) j.toNat x ∧ RU (199 * j + x).toNat = hh (fP F) (fE F) j.toNat x
theorem inv_sq {p v : Int} (h : PRM p) (hv : 0 < v ∧ v < p) : inv' p (v * v % p) = inv' p v * inv' p v % p := by
  have hp := h.1
  have i1 := inv_ok h hv
  have r := emod_rng (v * v) (p := p) (by omega)
  have r2 := emod_rng (inv' p v * inv' p v) (p := p) (by omega)
  have one : (1 : Int) % p = 1 := Int.emod_eq_of_lt (by omega) (by omega)
  have key : inv' p v * inv' p v % p * (v * v % p) % p = 1 % p := by
    rw [← Int.mul_emod, show inv' p v * inv' p v * (v * v) = inv' p v * v * (inv' p v * v) by rw [Int.mul_assoc, Int.mul_assoc, ← Int.mul_assoc (inv' p v) v v, Int.mul_comm (inv' p v * v) v], Int.mul_emod, i1, ← Int.mul_emod, Int.mul_one]
  have nz : ∀ a b : Int, a * b % p = 1 % p → ¬ b = 0 := by
    intro a b e q
    rw [q, Int.mul_zero, Int.zero_emod, one] at e
    omega
  have nz2 : ¬ inv' p v * inv' p v % p = 0 := by
    intro q
    rw [q, Int.zero_mul, Int.zero_emod, one] at key
    omega
  have n1 := nz _ _ key
  exact (inv_uniq h (v := v * v % p) (by omega) (by omega) key).symm
theorem inv_half {p v : Int} (h : PRM p) (hv : 0 < v ∧ v < p) : v * inv' p (v * v % p) % p = inv' p v := by
  have hp := h.1
  have i1 := inv_ok h hv
  have hi := inv_pos h hv
  rw [inv_sq h hv]
  have e : v * (inv' p v * inv' p v % p) % p = inv' p v % p := by
    rw [Int.mul_emod, Int.emod_emod, ← Int.mul_emod, ← Int.mul_assoc, Int.mul_comm v, Int.mul_emod, i1, ← Int.mul_emod, Int.one_mul]
  rw [e, Int.emod_eq_of_lt (by omega) (by omega)]
/-- rows of nodes in the form that the class has them in -/
def fk (u : Int) (W : Nat → Int) : Nat → Int := fun j => W (j - (u * 40).toNat)
theorem row_fk {u : Int} (h : 0 ≤ u) (W : Nat → Int) : row (fk u W) u = W := by
  funext j
  show W ((u * 40 + j).toNat - (u * 40).toNat) = W j
  rw [show (u * 40 + (j : Int)).toNat - (u * 40).toNat = j by omega]
def RQ (u : Int) (W S H : Nat → Int) : RT := mkR (fun _ => 0) (fun _ => 0) (fun _ => 0) (fk u W) (fk u S) (fk u H)
theorem RQ_V {u : Int} (h : 0 ≤ u) (W S H : Nat → Int) : row (nV (RQ u W S H)) u = W := row_fk h W
theorem RQ_S {u : Int} (h : 0 ≤ u) (W S H : Nat → Int) : row (nS (RQ u W S H)) u = S := row_fk h S
theorem RQ_W {u : Int} (h : 0 ≤ u) (W S H : Nat → Int) : row (nW (RQ u W S H)) u = H := row_fk h H
/-- i nodes have come: b says whether one is banned -/
def FI (F : FT) (u x sx i : Int) (W S : Nat → Int) (b : Int) : Prop := (b = 0 ∨ b = 1) ∧ (b = 0 → VI F u x i (RQ u W S W) ∧ SI F u x sx i (RQ u W S W)) ∧ (b = 1 → vv (fP F) (fE F) u.toNat x = -1) ∧ ∀ j : Nat, (j : Int) < i → (0 ≤ W j ∧ W j < fP F) ∧ (0 ≤ S j ∧ S j < fP F)
theorem FI_0 {F : FT} {u x sx : Int} (W S : Nat → Int) : FI F u x sx 0 W S 0 := ⟨Or.inl rfl, fun _ => ⟨⟨rfl, fun j hj => absurd hj (by omega)⟩, fun j hj => absurd hj (by omega)⟩, fun h => absurd h (by omega), fun j hj => absurd hj (by omega)⟩
theorem nv0_eq {F : FT} {u x : Int} {W : Nat → Int} {k : Nat} (h : ¬ eK (fE F u.toNat) k = 120) : nv0 F u W k = nvl (fP F) (fE F u.toNat) (vv (fP F) (fE F)) x W k := by
  unfold nv0 nvl nvn
  split
  · rfl
  · split
    · rfl
    · simp only [if_neg h]
theorem nsl_sx {p : Int} {E : EX} {ch : Nat → Int → Int} {sx sy : Int} {w z : Nat → Int} {k : Nat} (h : ¬ eK E k = 120) : nsl p E ch sx w z k = nsl p E ch sy w z k := by
  unfold nsl
  simp only [if_neg h]
theorem evs_up {p : Int} {E : EX} {cv : Nat → Int → Int} {x : Int} {k : Nat} : (evs p E cv x (k + 1)).1 = up (evs p E cv x k).1 k (nvl p E cv x (evs p E cv x k).1 k) := rfl
/-- a node comes: its value v, its slope t -/
theorem FI_next {F : FT} (h : GF F) {u x sx i b v t b2 : Int} {W S : Nat → Int} (hu : 0 ≤ u ∧ u < 4) (hi : 0 ≤ i ∧ i < eN (fE F u.toNat)) (hx : 0 ≤ x ∧ x < fP F) (hsx : 0 ≤ sx ∧ sx < fP F) (hF : FI F u x sx i W S b)
    (hv : v = zb (nvl (fP F) (fE F u.toNat) (vv (fP F) (fE F)) x W i.toNat)) (ht : ¬ nvl (fP F) (fE F u.toNat) (vv (fP F) (fE F)) x W i.toNat = -1 → t = nsl (fP F) (fE F u.toNat) (hh (fP F) (fE F)) sx W S i.toNat)
    (hvr : 0 ≤ v ∧ v < fP F) (htr : 0 ≤ t ∧ t < fP F) (hb : b2 = if b = 1 ∨ nvl (fP F) (fE F u.toNat) (vv (fP F) (fE F)) x W i.toNat = -1 then 1 else 0) : FI F u x sx (i + 1) (up W i.toNat v) (up S i.toNat t) b2 := by
  obtain ⟨h1, h2, h3, h4⟩ := hF
  have hE := h.2 u.toNat (by omega)
  have hEi := hE.2.1 i.toNat (by omega)
  refine ⟨by rw [hb]; split <;> simp, fun hb0 => ?_, fun hb1 => ?_, fun j hj => ?_⟩
  · have hn : ¬ (b = 1 ∨ nvl (fP F) (fE F u.toNat) (vv (fP F) (fE F)) x W i.toNat = -1) := fun q => by rw [if_pos q] at hb; omega
    obtain ⟨hV, hS⟩ := h2 (by omega)
    have hVr : ∀ j : Nat, (j : Int) < i → W j = (evs (fP F) (fE F u.toNat) (vv (fP F) (fE F)) x i.toNat).1 j := fun j hj => by have := hV.2 j hj; rw [RQ_V hu.1] at this; exact this
    have hSr : ∀ j : Nat, (j : Int) < i → S j = hns (fP F) (fE F u.toNat) (vv (fP F) (fE F)) (hh (fP F) (fE F)) x sx i.toNat j := fun j hj => by have := hS j hj; rw [RQ_S hu.1] at this; exact this
    have e1 : nvl (fP F) (fE F u.toNat) (vv (fP F) (fE F)) x (evs (fP F) (fE F u.toNat) (vv (fP F) (fE F)) x i.toNat).1 i.toNat = nvl (fP F) (fE F u.toNat) (vv (fP F) (fE F)) x W i.toNat := by
      unfold nvl
      rw [gv_congr (fun j hj => (hVr j (by omega)).symm) (WFK_L hEi), nvn_congr hEi (fun j hj => (hVr j (by omega)).symm)]
    have e2 : NSL F u x sx i = nsl (fP F) (fE F u.toNat) (hh (fP F) (fE F)) sx W S i.toNat := nsl_congr hEi (fun j hj => (hVr j (by omega)).symm) (fun j hj => (hSr j (by omega)).symm)
    have ev : v = nvl (fP F) (fE F u.toNat) (vv (fP F) (fE F)) x W i.toNat := by rw [hv]; unfold zb; rw [if_neg (fun q => hn (Or.inr q))]
    have et := ht (fun q => hn (Or.inr q))
    refine ⟨⟨?_, fun j hj => ?_⟩, fun j hj => ?_⟩
    · rw [show (i + 1).toNat = i.toNat + 1 by omega]
      exact evs_go hV.1 (by rw [e1]; exact fun q => hn (Or.inr q))
    · rw [RQ_V hu.1, show (i + 1).toNat = i.toNat + 1 by omega, evs_up, e1, ← ev]
      unfold up
      by_cases q : j = i.toNat
      · rw [if_pos q, if_pos q]
      · rw [if_neg q, if_neg q]; exact hVr j (by omega)
    · rw [RQ_S hu.1, show (i + 1).toNat = i.toNat + 1 by omega]
      show _ = up _ i.toNat (NSL F u x sx i) j
      rw [e2, ← et]
      unfold up
      by_cases q : j = i.toNat
      · rw [if_pos q, if_pos q]
      · rw [if_neg q, if_neg q]; exact hSr j (by omega)
  · by_cases hb0 : b = 1
    · exact h3 hb0
    · have hn : nvl (fP F) (fE F u.toNat) (vv (fP F) (fE F)) x W i.toNat = -1 := by
        by_cases q : b = 1 ∨ nvl (fP F) (fE F u.toNat) (vv (fP F) (fE F)) x W i.toNat = -1
        · exact q.resolve_left hb0
        · rw [if_neg q] at hb; omega
      obtain ⟨hV, hS⟩ := h2 (by omega)
      have hVr : ∀ j : Nat, (j : Int) < i → W j = (evs (fP F) (fE F u.toNat) (vv (fP F) (fE F)) x i.toNat).1 j := fun j hj => by have := hV.2 j hj; rw [RQ_V hu.1] at this; exact this
      refine VI_bad h hu hi ?_
      rw [← hn]
      unfold nvl
      rw [gv_congr (fun j hj => (hVr j (by omega)).symm) (WFK_L hEi), nvn_congr hEi (fun j hj => (hVr j (by omega)).symm)]
  · unfold up
    by_cases q : j = i.toNat
    · rw [if_pos q, if_pos q]; exact ⟨hvr, htr⟩
    · rw [if_neg q, if_neg q]; exact h4 j (by omega)
