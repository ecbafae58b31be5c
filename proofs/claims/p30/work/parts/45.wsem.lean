/-! slopes by rules: weights from the outside in give the slope by hinges -/
def cg (p a b : Int) : Prop := ∃ t, a = b + p * t
theorem cg_rfl (p a : Int) : cg p a a := ⟨0, by omega⟩
theorem cg_mod (p a : Int) : cg p (a % p) a := ⟨-(a / p), by have := Int.mul_ediv_add_emod a p; rw [Int.mul_neg]; omega⟩
theorem cg_symm {p a b : Int} (h : cg p a b) : cg p b a := by
  obtain ⟨t, e⟩ := h
  exact ⟨-t, by rw [e, Int.mul_neg]; omega⟩
theorem cg_trans {p a b c : Int} (h : cg p a b) (k : cg p b c) : cg p a c := by
  obtain ⟨t, e⟩ := h
  obtain ⟨s, e2⟩ := k
  exact ⟨t + s, by rw [e, e2, Int.mul_add]; omega⟩
theorem cg_add {p a b c d : Int} (h : cg p a b) (k : cg p c d) : cg p (a + c) (b + d) := by
  obtain ⟨t, e⟩ := h
  obtain ⟨s, e2⟩ := k
  exact ⟨t + s, by rw [e, e2, Int.mul_add]; omega⟩
theorem cg_sub {p a b c d : Int} (h : cg p a b) (k : cg p c d) : cg p (a - c) (b - d) := by
  obtain ⟨t, e⟩ := h
  obtain ⟨s, e2⟩ := k
  exact ⟨t - s, by rw [e, e2, Int.mul_sub]; omega⟩
theorem cg_mul {p a b c d : Int} (h : cg p a b) (k : cg p c d) : cg p (a * c) (b * d) := by
  obtain ⟨t, e⟩ := h
  obtain ⟨s, e2⟩ := k
  refine ⟨b * s + t * d + t * (p * s), ?_⟩
  rw [e, e2, Int.mul_add, Int.add_mul, Int.add_mul, Int.mul_add, Int.mul_add]
  have h1 : p * t * d = p * (t * d) := Int.mul_assoc _ _ _
  have h2 : b * (p * s) = p * (b * s) := by rw [← Int.mul_assoc, Int.mul_comm b p, Int.mul_assoc]
  have h3 : p * t * (p * s) = p * (t * (p * s)) := Int.mul_assoc _ _ _
  rw [h1, h2, h3]
  omega
theorem cg_eq {p a b : Int} (h : cg p a b) (ha : 0 ≤ a ∧ a < p) (hb : 0 ≤ b ∧ b < p) : a = b := by
  obtain ⟨t, e⟩ := h
  have h1 := Int.emod_eq_of_lt ha.1 ha.2
  have h2 := Int.emod_eq_of_lt hb.1 hb.2
  rw [e, Int.add_mul_emod_self_left, h2] at h1
  rw [e]; exact h1.symm
theorem cg_of_eq {p a b : Int} (h : a = b) : cg p a b := h ▸ cg_rfl p a
theorem cg_mod2 {p a b : Int} (h : cg p a b) : cg p (a % p) b := cg_trans (cg_mod p a) h
theorem cg_emod {p a b : Int} (h : cg p a b) : a % p = b % p := by
  obtain ⟨t, e⟩ := h
  rw [e, Int.add_mul_emod_self_left]
/-- sums -/
def sm (f : Nat → Int) : Nat → Int
  | 0 => 0
  | n + 1 => sm f n + f n
theorem sm_congr {f h : Nat → Int} : ∀ n, (∀ j, j < n → f j = h j) → sm f n = sm h n
  | 0, _ => rfl
  | n + 1, e => by
    show sm f n + f n = sm h n + h n
    rw [sm_congr n (fun j hj => e j (by omega)), e n (by omega)]
theorem sm_up {w z : Nat → Int} {a : Nat} {v : Int} : ∀ n, a < n → sm (fun j => up w a v j * z j) n = sm (fun j => w j * z j) n - w a * z a + v * z a
  | 0, h => absurd h (Nat.not_lt_zero _)
  | n + 1, h => by
    show sm (fun j => up w a v j * z j) n + up w a v n * z n = sm (fun j => w j * z j) n + w n * z n - w a * z a + v * z a
    by_cases e : a = n
    · subst e
      rw [up_s, sm_congr a (h := fun j => w j * z j) (fun j hj => by show up w a v j * z j = _; rw [up_n (by omega)])]
      omega
    · rw [sm_up n (by omega), up_n (fun q => e q.symm)]
      omega
/-- the shares of a node's parts -/
def lsh (F : FT) (u : Nat) (w : Nat → Int) (k : Nat) : Int :=
  if eK (fE F u) k = 110 then (0 - 1) % fP F
  else if eK (fE F u) k = 43 then 1
  else if eK (fE F u) k = 45 then 1
  else if eK (fE F u) k = 42 then gv w (eV (fE F u) k)
  else if eK (fE F u) k = 47 then gv w (eV (fE F u) k) * inv' (fP F) (gv w (eV (fE F u) k) * gv w (eV (fE F u) k) % fP F) % fP F
  else if eK (fE F u) k = 94 then eU (fE F u) k * (gv w (eL (fE F u) k) ^ (eU (fE F u) k - 1).toNat % fP F) % fP F
  else if eK (fE F u) k = 99 then hh (fP F) (fE F) (eU (fE F u) k).toNat (gv w (eL (fE F u) k))
  else 0
def rsh (F : FT) (u : Nat) (w : Nat → Int) (k : Nat) : Int :=
  if eK (fE F u) k = 43 then 1
  else if eK (fE F u) k = 45 then (0 - 1) % fP F
  else if eK (fE F u) k = 42 then gv w (eL (fE F u) k)
  else if eK (fE F u) k = 47 then (0 - gv w (eL (fE F u) k)) % fP F * inv' (fP F) (gv w (eV (fE F u) k) * gv w (eV (fE F u) k) % fP F) % fP F
  else 0
/-- a node's slope is what its parts' slopes give by their shares -/
theorem nsl_sh {F : FT} {u : Nat} {w z : Nat → Int} {k f : Nat} (hE : WFK (fE F u) f k) (hx : ¬ eK (fE F u) k = 120) : cg (fP F) (nsl (fP F) (fE F u) (hh (fP F) (fE F)) 1 w z k) (lsh F u w k * gv z (eL (fE F u) k) + rsh F u w k * gv z (eV (fE F u) k)) := by
  have hV0 : gv z (-1) = 0 := gv_neg
  unfold WFK at hE
  unfold nsl lsh rsh
  rcases hE with h | h | h | h | h | h
  · repeat (first | rw [if_pos (by omega)] | rw [if_neg (by omega)])
    rw [h.2.2.2.1, h.2.2.2.2, hV0]
    exact cg_of_eq (by omega)
  · exact absurd h.1 hx
  · repeat (first | rw [if_pos (by omega)] | rw [if_neg (by omega)])
    refine cg_mod2 (cg_trans (cg_of_eq (b := (0 - 1) * gv z (eL (fE F u) k)) (by omega)) (cg_trans (cg_mul (cg_symm (cg_mod (fP F) (0 - 1))) (cg_rfl _ _)) (cg_of_eq (by rw [Int.zero_mul, Int.add_zero]))))
  · obtain ⟨hc, -⟩ := h
    rcases hc with e | e | e | e
    · repeat (first | rw [if_pos (by omega)] | rw [if_neg (by omega)])
      exact cg_mod2 (cg_of_eq (by omega))
    · repeat (first | rw [if_pos (by omega)] | rw [if_neg (by omega)])
      refine cg_mod2 (cg_trans (cg_of_eq (b := 1 * gv z (eL (fE F u) k) + (0 - 1) * gv z (eV (fE F u) k)) (by omega)) (cg_add (cg_rfl _ _) (cg_mul (cg_symm (cg_mod (fP F) (0 - 1))) (cg_rfl _ _))))
    · repeat (first | rw [if_pos (by omega)] | rw [if_neg (by omega)])
      exact cg_mod2 (cg_of_eq (by rw [Int.mul_comm (gv z (eL (fE F u) k))]))
    · repeat (first | rw [if_pos (by omega)] | rw [if_neg (by omega)])
      have a1 : cg (fP F) ((gv z (eL (fE F u) k) * gv w (eV (fE F u) k) - gv w (eL (fE F u) k) * gv z (eV (fE F u) k)) % fP F * inv' (fP F) (gv w (eV (fE F u) k) * gv w (eV (fE F u) k) % fP F)) ((gv z (eL (fE F u) k) * gv w (eV (fE F u) k) - gv w (eL (fE F u) k) * gv z (eV (fE F u) k)) * inv' (fP F) (gv w (eV (fE F u) k) * gv w (eV (fE F u) k) % fP F)) := cg_mul (cg_mod _ _) (cg_rfl _ _)
      refine cg_mod2 (cg_trans a1 (cg_trans (cg_of_eq ?_) (cg_symm (cg_add (cg_mul (cg_mod _ _) (cg_rfl _ _)) (cg_mul (cg_mod2 (cg_mul (cg_mod _ _) (cg_rfl _ _))) (cg_rfl _ _))))))
      generalize inv' (fP F) (gv w (eV (fE F u) k) * gv w (eV (fE F u) k) % fP F) = y
      generalize gv w (eV (fE F u) k) = v
      generalize gv w (eL (fE F u) k) = b
      generalize gv z (eL (fE F u) k) = s
      generalize gv z (eV (fE F u) k) = t
      rw [Int.sub_mul]
      have e1 : s * v * y = v * y * s := by rw [Int.mul_comm s v, Int.mul_assoc, Int.mul_comm s y, ← Int.mul_assoc]
      have e2 : b * t * y = b * y * t := by rw [Int.mul_assoc, Int.mul_comm t y, ← Int.mul_assoc]
      have e3 : (0 - b) * y * t = -(b * y * t) := by rw [Int.zero_sub, Int.neg_mul, Int.neg_mul]
      first | (rw [e1, e2, e3]; omega) | (rw [e1, e2]; simp [Int.neg_mul]; omega)
  · repeat (first | rw [if_pos (by omega)] | rw [if_neg (by omega)])
    exact cg_mod2 (cg_of_eq (by rw [Int.zero_mul, Int.add_zero]))
  · repeat (first | rw [if_pos (by omega)] | rw [if_neg (by omega)])
    exact cg_mod2 (cg_of_eq (by rw [Int.zero_mul, Int.add_zero]))
/-- a node that has its weight before node i is taken -/
def asg (E : EX) (i : Int) (j : Nat) : Prop := j + 1 = eN E ∨ ∃ k : Nat, i < k ∧ k < eN E ∧ (eL E k = j ∨ eV E k = j)
def ZZ (F : FT) (u : Nat) (x : Int) : Nat → Int := hns (fP F) (fE F u) (vv (fP F) (fE F)) (hh (fP F) (fE F)) x 1 (eN (fE F u))
def WI (F : FT) (u x i sum : Int) (r : RT) : Prop := (0 ≤ sum ∧ sum < fP F) ∧ (∀ j : Nat, (j : Int) ≤ i → asg (fE F u.toNat) i j → 0 ≤ row (nW r) u j ∧ row (nW r) u j < fP F) ∧ ∃ gw : Nat → Int, (∀ j : Nat, (j : Int) ≤ i → asg (fE F u.toNat) i j → gw j = row (nW r) u j) ∧ (∀ j : Nat, (j : Int) ≤ i → ¬ asg (fE F u.toNat) i j → gw j = 0) ∧ cg (fP F) (sum + sm (fun j => gw j * ZZ F u.toNat x j) (i + 1).toNat) (ZZ F u.toNat x (eN (fE F u.toNat) - 1))
theorem sm_zero {z : Nat → Int} : ∀ n, sm (fun j => (0 : Int) * z j) n = 0
  | 0 => rfl
  | n + 1 => by
    show sm (fun j => (0 : Int) * z j) n + 0 * z n = 0
    rw [sm_zero n, Int.zero_mul]; rfl
theorem hns_keep {p : Int} {E : EX} {cv ch : Nat → Int → Int} {x sx : Int} {j : Nat} : ∀ k, j < k → hns p E cv ch x sx k j = nsl p E ch sx (evs p E cv x j).1 (hns p E cv ch x sx j) j
  | 0, h => absurd h (Nat.not_lt_zero _)
  | k + 1, h => by
    by_cases e : j = k
    · subst e
      show up _ j _ j = _
      rw [up_s]
    · show up _ k _ j = _
      rw [up_n e]
      exact hns_keep k (by omega)
/-- a node's slope, by those of its parts -/
theorem ZZ_node {F : FT} (h : GF F) {u x : Int} {r : RT} (hu : 0 ≤ u ∧ u < 4) {i : Nat} (hi : i < eN (fE F u.toNat)) (hv : VI F u x (eN (fE F u.toNat)) r) : ZZ F u.toNat x i = nsl (fP F) (fE F u.toNat) (hh (fP F) (fE F)) 1 (row (nV r) u) (ZZ F u.toNat x) i := by
  have hE := h.2 u.toNat (by omega)
  have e : ZZ F u.toNat x i = _ := hns_keep (p := fP F) (E := fE F u.toNat) (cv := vv (fP F) (fE F)) (ch := hh (fP F) (fE F)) (x := x) (sx := 1) (j := i) (eN (fE F u.toNat)) hi
  rw [e]
  refine nsl_congr (hE.2.1 i hi) (fun j hj => ?_) (fun j hj => ?_)
  · have q := hv.2 j (by omega)
    rw [q, show ((eN (fE F u.toNat) : Nat) : Int).toNat = eN (fE F u.toNat) by omega, evs_keep (eN (fE F u.toNat)) (by omega), evs_keep i hj]
  · show _ = hns _ _ _ _ _ _ _ j
    rw [hns_keep i hj, hns_keep (eN (fE F u.toNat)) (by omega)]
theorem asg_self {F : FT} (h : GF F) {u i : Int} (hu : 0 ≤ u ∧ u < 4) (hi : 0 ≤ i ∧ i < eN (fE F u.toNat)) : asg (fE F u.toNat) i i.toNat := by
  have hE := h.2 u.toNat (by omega)
  by_cases e : i.toNat + 1 = eN (fE F u.toNat)
  · exact Or.inl e
  · obtain ⟨k, h1, h2, h3⟩ := hE.2.2 i.toNat (by omega)
    have hL := WFK_L (hE.2.1 k h1)
    have hV := WFK_V (hE.2.1 k h1)
    exact Or.inr ⟨k, by omega, h1, h2⟩
theorem asg_part {F : FT} (h : GF F) {u i : Int} (hu : 0 ≤ u ∧ u < 4) (hi : 0 ≤ i ∧ i < eN (fE F u.toNat)) {j : Nat} (hj : eL (fE F u.toNat) i.toNat = j ∨ eV (fE F u.toNat) i.toNat = j) : (j : Int) < i ∧ ¬ asg (fE F u.toNat) i j := by
  have hE := h.2 u.toNat (by omega)
  have hL := WFK_L (hE.2.1 i.toNat (by omega))
  have hV := WFK_V (hE.2.1 i.toNat (by omega))
  have hlt : (j : Int) < i := by omega
  refine ⟨hlt, ?_⟩
  rintro (e | ⟨k, h1, h2, h3⟩)
  · omega
  · obtain ⟨m, m1, m2, m3⟩ := hE.2.2 j (by omega)
    have a := m3 i.toNat (by omega) hj
    have b := m3 k h2 h3
    omega
theorem asg_dn {F : FT} {u i : Int} (hi : 0 ≤ i ∧ i < eN (fE F u.toNat)) (j : Nat) : asg (fE F u.toNat) (i - 1) j ↔ (asg (fE F u.toNat) i j ∨ eL (fE F u.toNat) i.toNat = j ∨ eV (fE F u.toNat) i.toNat = j) := by
  constructor
  · rintro (e | ⟨k, h1, h2, h3⟩)
    · exact Or.inl (Or.inl e)
    · by_cases q : (k : Int) = i
      · have : k = i.toNat := by omega
        subst this
        exact Or.inr h3
      · exact Or.inl (Or.inr ⟨k, by omega, h2, h3⟩)
  · rintro ((e | ⟨k, h1, h2, h3⟩) | h3)
    · exact Or.inl e
    · exact Or.inr ⟨k, by omega, h2, h3⟩
    · exact Or.inr ⟨i.toNat, by omega, by omega, h3⟩
theorem WI_init {F : FT} (h : GF F) {u x : Int} {r : RT} {i : Int} (hu : 0 ≤ u ∧ u < 4) (hi : i = (eN (fE F u.toNat) : Int) - 1) (hw : row (nW r) u i.toNat = 1) : WI F u x i 0 r := by
  have hp := GF_p h
  have hE := h.2 u.toNat (by omega)
  have hn := hE.1
  have key : ∀ j : Nat, (j : Int) ≤ i → (asg (fE F u.toNat) i j ↔ j = i.toNat) := by
    intro j hj
    constructor
    · rintro (e | ⟨k, h1, h2, h3⟩) <;> omega
    · intro e; exact Or.inl (by omega)
  refine ⟨by omega, fun j hj ha => ?_, up (fun _ => 0) i.toNat 1, fun j hj ha => ?_, fun j hj ha => ?_, ?_⟩
  · rw [(key j hj).mp ha, hw]; omega
  · rw [(key j hj).mp ha, hw, up_s]
  · rw [up_n (fun e => ha ((key j hj).mpr e))]
  · rw [sm_up (w := fun _ => (0 : Int)) (i + 1).toNat (by omega), sm_zero, show i.toNat = eN (fE F u.toNat) - 1 by omega]
    exact cg_of_eq (by omega)
theorem WI_dn {F : FT} (h : GF F) {u x i sum : Int} {r r2 : RT} (hu : 0 ≤ u ∧ u < 4) (hi : 0 ≤ i ∧ i < eN (fE F u.toNat)) (hv : VI F u x (eN (fE F u.toNat)) r) (hW : WI F u x i sum r) (hk : ¬ eK (fE F u.toNat) i.toNat = 120)
    (hrow : ∀ j : Nat, (j : Int) < i → row (nW r2) u j = if (j : Int) = eV (fE F u.toNat) i.toNat then row (nW r) u i.toNat * rsh F u.toNat (row (nV r) u) i.toNat % fP F else if (j : Int) = eL (fE F u.toNat) i.toNat then row (nW r) u i.toNat * lsh F u.toNat (row (nV r) u) i.toNat % fP F else row (nW r) u j) : WI F u x (i - 1) sum r2 := by
  have hp := GF_p h
  have hE := h.2 u.toNat (by omega)
  have hEi := hE.2.1 i.toNat (by omega)
  have hn40 := hE.1
  have hL := WFK_L hEi
  have hV := WFK_V hEi
  have hLV : eV (fE F u.toNat) i.toNat = -1 ∨ ¬ eL (fE F u.toNat) i.toNat = eV (fE F u.toNat) i.toNat := by unfold WFK at hEi; omega
  obtain ⟨h1, h2, gw, h3, h4, h5⟩ := hW
  have hai := asg_self h hu hi
  have e0 := h3 i.toNat (by omega) hai
  have ez := ZZ_node h hu (i := i.toNat) (by omega) hv
  have esh := nsl_sh (F := F) (u := u.toNat) (w := row (nV r) u) (z := ZZ F u.toNat x) hEi hk
  rw [← ez] at esh
  generalize hwi : row (nW r) u i.toNat = wi at *
  generalize hls : lsh F u.toNat (row (nV r) u) i.toNat = ls at *
  generalize hrs : rsh F u.toNat (row (nV r) u) i.toNat = rs at *
  refine ⟨h1, fun j hj ha => ?_, fun j => if (j : Int) = eV (fE F u.toNat) i.toNat then wi * rs % fP F else if (j : Int) = eL (fE F u.toNat) i.toNat then wi * ls % fP F else gw j, fun j hj ha => ?_, fun j hj ha => ?_, ?_⟩
  · rw [hrow j (by omega)]
    by_cases q1 : (j : Int) = eV (fE F u.toNat) i.toNat
    · rw [if_pos q1]; exact emod_rng _ (by omega)
    · rw [if_neg q1]
      by_cases q2 : (j : Int) = eL (fE F u.toNat) i.toNat
      · rw [if_pos q2]; exact emod_rng _ (by omega)
      · rw [if_neg q2]
        rcases (asg_dn hi j).mp ha with z | z | z
        · exact h2 j (by omega) z
        · exact absurd z.symm q2
        · exact absurd z.symm q1
  · rw [hrow j (by omega)]
    by_cases q1 : (j : Int) = eV (fE F u.toNat) i.toNat
    · rw [if_pos q1]; simp only [q1, if_true]
    · by_cases q2 : (j : Int) = eL (fE F u.toNat) i.toNat
      · rw [if_neg q1, if_pos q2]; simp only [if_neg q1, if_pos q2]
      · rw [if_neg q1, if_neg q2]
        simp only [if_neg q1, if_neg q2]
        rcases (asg_dn hi j).mp ha with z | z | z
        · exact h3 j (by omega) z
        · exact absurd z.symm q2
        · exact absurd z.symm q1
  · have q1 : ¬ (j : Int) = eV (fE F u.toNat) i.toNat := fun q => ha ((asg_dn hi j).mpr (Or.inr (Or.inr q.symm)))
    have q2 : ¬ (j : Int) = eL (fE F u.toNat) i.toNat := fun q => ha ((asg_dn hi j).mpr (Or.inr (Or.inl q.symm)))
    simp only [if_neg q1, if_neg q2]
    exact h4 j (by omega) (fun z => ha ((asg_dn hi j).mpr (Or.inl z)))
  · have es : (i + 1).toNat = (i - 1 + 1).toNat + 1 := by omega
    rw [es] at h5
    have h5' : cg (fP F) (sum + (sm (fun j => gw j * ZZ F u.toNat x j) (i - 1 + 1).toNat + gw (i - 1 + 1).toNat * ZZ F u.toNat x (i - 1 + 1).toNat)) (ZZ F u.toNat x (eN (fE F u.toNat) - 1)) := h5
    rw [show i - 1 + 1 = i by omega] at h5' ⊢
    rw [e0] at h5'
    refine cg_trans ?_ h5'
    -- the parts, one after the other
    have stepL : ∀ (a : Int) (v : Int) (g : Nat → Int), (a = -1 ∨ (0 ≤ a ∧ a < i ∧ g a.toNat = 0)) → sm (fun j => (if (j : Int) = a then v else g j) * ZZ F u.toNat x j) i.toNat = sm (fun j => g j * ZZ F u.toNat x j) i.toNat + v * gv (ZZ F u.toNat x) a := by
      intro a v g ha
      rcases ha with ha | ha
      · rw [ha, gv_neg, Int.mul_zero, Int.add_zero]
        exact sm_congr _ (fun j _ => by rw [if_neg (by omega)])
      · have e : (fun (j : Nat) => (if (j : Int) = a then v else g j) * ZZ F u.toNat x j) = fun j => up g a.toNat v j * ZZ F u.toNat x j := by
          funext j
          unfold up
          by_cases q : (j : Int) = a
          · rw [if_pos q, if_pos (by omega)]
          · rw [if_neg q, if_neg (by omega)]
        rw [e, sm_up i.toNat (by omega), ha.2.2, gv_of (by omega), Int.zero_mul]
        omega
    have gL : eL (fE F u.toNat) i.toNat = -1 ∨ (0 ≤ eL (fE F u.toNat) i.toNat ∧ eL (fE F u.toNat) i.toNat < i ∧ gw (eL (fE F u.toNat) i.toNat).toNat = 0) := by
      rcases hL with q | q
      · exact Or.inl q
      · have z := asg_part h hu hi (j := (eL (fE F u.toNat) i.toNat).toNat) (Or.inl (by omega))
        exact Or.inr ⟨q.1, by omega, h4 _ (by omega) z.2⟩
    have gV : eV (fE F u.toNat) i.toNat = -1 ∨ (0 ≤ eV (fE F u.toNat) i.toNat ∧ eV (fE F u.toNat) i.toNat < i ∧ (if ((eV (fE F u.toNat) i.toNat).toNat : Int) = eL (fE F u.toNat) i.toNat then wi * ls % fP F else gw (eV (fE F u.toNat) i.toNat).toNat) = 0) := by
      rcases hV with q | q
      · exact Or.inl q
      · have z := asg_part h hu hi (j := (eV (fE F u.toNat) i.toNat).toNat) (Or.inr (by omega))
        refine Or.inr ⟨q.1, by omega, ?_⟩
        rw [if_neg (by omega)]
        exact h4 _ (by omega) z.2
    rw [stepL _ _ (fun j => if (j : Int) = eL (fE F u.toNat) i.toNat then wi * ls % fP F else gw j) gV, stepL _ _ gw gL]
    have c1 : cg (fP F) (wi * ls % fP F * gv (ZZ F u.toNat x) (eL (fE F u.toNat) i.toNat) + wi * rs % fP F * gv (ZZ F u.toNat x) (eV (fE F u.toNat) i.toNat)) (wi * (ls * gv (ZZ F u.toNat x) (eL (fE F u.toNat) i.toNat) + rs * gv (ZZ F u.toNat x) (eV (fE F u.toNat) i.toNat))) := by
      rw [Int.mul_add, ← Int.mul_assoc, ← Int.mul_assoc]
      exact cg_add (cg_mul (cg_mod _ _) (cg_rfl _ _)) (cg_mul (cg_mod _ _) (cg_rfl _ _))
    have c2 := cg_trans c1 (cg_mul (cg_rfl (fP F) wi) (cg_symm esh))
    refine cg_trans (cg_of_eq ?_) (cg_add (cg_rfl (fP F) sum) (cg_add (cg_rfl (fP F) (sm (fun j => gw j * ZZ F u.toNat x j) i.toNat)) c2))
    omega
theorem WI_x {F : FT} (h : GF F) {u x i sum : Int} {r : RT} (hu : 0 ≤ u ∧ u < 4) (hi : 0 ≤ i ∧ i < eN (fE F u.toNat)) (hv : VI F u x (eN (fE F u.toNat)) r) (hW : WI F u x i sum r) (hk : eK (fE F u.toNat) i.toNat = 120) : WI F u x (i - 1) ((sum + row (nW r) u i.toNat) % fP F) r := by
  have hp := GF_p h
  have hE := h.2 u.toNat (by omega)
  have hEi := hE.2.1 i.toNat (by omega)
  have hLV : eL (fE F u.toNat) i.toNat = -1 ∧ eV (fE F u.toNat) i.toNat = -1 := by unfold WFK at hEi; omega
  obtain ⟨h1, h2, gw, h3, h4, h5⟩ := hW
  have e0 := h3 i.toNat (by omega) (asg_self h hu hi)
  have ez := ZZ_node h hu (i := i.toNat) (by omega) hv
  have e1 : nsl (fP F) (fE F u.toNat) (hh (fP F) (fE F)) 1 (row (nV r) u) (ZZ F u.toNat x) i.toNat = 1 := by unfold nsl; rw [if_pos hk]
  rw [e1] at ez
  have key : ∀ j : Nat, asg (fE F u.toNat) (i - 1) j ↔ asg (fE F u.toNat) i j := by
    intro j
    rw [asg_dn hi j]
    constructor
    · rintro (z | z | z)
      · exact z
      · omega
      · omega
    · exact Or.inl
  refine ⟨emod_rng _ (by omega), fun j hj ha => h2 j (by omega) ((key j).mp ha), gw, fun j hj ha => h3 j (by omega) ((key j).mp ha), fun j hj ha => h4 j (by omega) (fun z => ha ((key j).mpr z)), ?_⟩
  rw [show (i + 1).toNat = i.toNat + 1 by omega] at h5
  have h5' : cg (fP F) (sum + (sm (fun j => gw j * ZZ F u.toNat x j) i.toNat + gw i.toNat * ZZ F u.toNat x i.toNat)) (ZZ F u.toNat x (eN (fE F u.toNat) - 1)) := h5
  rw [e0, ez, Int.mul_one] at h5'
  rw [show i - 1 + 1 = i by omega]
  refine cg_trans ?_ h5'
  exact cg_trans (cg_add (cg_mod _ _) (cg_rfl _ _)) (cg_of_eq (by omega))
theorem WI_end {F : FT} (h : GF F) {u x sum : Int} {r : RT} (hu : 0 ≤ u ∧ u < 4) (hv : VI F u x (eN (fE F u.toNat)) r) (hW : WI F u x (-1) sum r) : sum = hh (fP F) (fE F) u.toNat x := by
  have hp := GF_p h
  have hE := h.2 u.toNat (by omega)
  obtain ⟨h1, h2, gw, h3, h4, h5⟩ := hW
  rw [hh_eq (by omega) hE]
  unfold hf hof
  have hok := hv.1
  rw [show ((eN (fE F u.toNat) : Nat) : Int).toNat = eN (fE F u.toNat) by omega] at hok
  rw [if_pos hok]
  have e : sm (fun j => gw j * ZZ F u.toNat x j) ((-1 : Int) + 1).toNat = 0 := rfl
  rw [e, Int.add_zero] at h5
  exact cg_eq h5 h1 (hns_rng (by omega) (by omega) _ _)
