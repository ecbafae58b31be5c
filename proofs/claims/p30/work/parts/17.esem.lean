/-! expressions as values: how many nodes; kinds, numbers, lefts, rights -/
abbrev EX : Type := Nat × (Nat → Int) × (Nat → Int) × (Nat → Int) × (Nat → Int)
def eN (E : EX) : Nat := E.1
def eK (E : EX) : Nat → Int := E.2.1
def eU (E : EX) : Nat → Int := E.2.2.1
def eL (E : EX) : Nat → Int := E.2.2.2.1
def eV (E : EX) : Nat → Int := E.2.2.2.2
def mkE (n : Nat) (K U L V : Nat → Int) : EX := (n, K, U, L, V)
/-- a place of a row of nodes, 0 where there is none -/
def gv (w : Nat → Int) (i : Int) : Int := if 0 ≤ i ∧ i < 40 then w i.toNat else 0
def inv' (p v : Int) : Int := v ^ (p - 2).toNat % p
/-- the value of a node that is no call -/
def nvn (p : Int) (E : EX) (x : Int) (w : Nat → Int) (k : Nat) : Int :=
  if eK E k = 48 then eU E k % p
  else if eK E k = 120 then x
  else if eK E k = 110 then (0 - gv w (eL E k)) % p
  else if eK E k = 43 then (gv w (eL E k) + gv w (eV E k)) % p
  else if eK E k = 45 then (gv w (eL E k) - gv w (eV E k)) % p
  else if eK E k = 42 then gv w (eL E k) * gv w (eV E k) % p
  else if eK E k = 47 then (if gv w (eV E k) = 0 then -1 else gv w (eL E k) * inv' p (gv w (eV E k)) % p)
  else if eK E k = 94 then gv w (eL E k) ^ (eU E k).toNat % p
  else -1
/-- the value of a node: of a call by cv -/
def nvl (p : Int) (E : EX) (cv : Nat → Int → Int) (x : Int) (w : Nat → Int) (k : Nat) : Int :=
  if eK E k = 99 then cv (eU E k).toNat (gv w (eL E k)) else nvn p E x w k
/-- the values of the first k nodes, and whether none is banned -/
def evs (p : Int) (E : EX) (cv : Nat → Int → Int) (x : Int) : Nat → (Nat → Int) × Bool
  | 0 => (fun _ => 0, true)
  | k + 1 => (up (evs p E cv x k).1 k (nvl p E cv x (evs p E cv x k).1 k), (evs p E cv x k).2 && decide (¬ nvl p E cv x (evs p E cv x k).1 k = -1))
def vof (p : Int) (E : EX) (cv : Nat → Int → Int) (x : Int) : Int := if (evs p E cv x (eN E)).2 = true then (evs p E cv x (eN E)).1 (eN E - 1) else -1
/-- the slope of a node by hinges: w values, z slopes, ch the slopes of calls, sx that of x -/
def nsl (p : Int) (E : EX) (ch : Nat → Int → Int) (sx : Int) (w z : Nat → Int) (k : Nat) : Int :=
  if eK E k = 120 then sx
  else if eK E k = 110 then (0 - gv z (eL E k)) % p
  else if eK E k = 43 then (gv z (eL E k) + gv z (eV E k)) % p
  else if eK E k = 45 then (gv z (eL E k) - gv z (eV E k)) % p
  else if eK E k = 42 then (gv z (eL E k) * gv w (eV E k) + gv w (eL E k) * gv z (eV E k)) % p
  else if eK E k = 47 then ((gv z (eL E k) * gv w (eV E k) - gv w (eL E k) * gv z (eV E k)) % p) * inv' p (gv w (eV E k) * gv w (eV E k) % p) % p
  else if eK E k = 94 then (eU E k * (gv w (eL E k) ^ (eU E k - 1).toNat % p) % p) * gv z (eL E k) % p
  else if eK E k = 99 then ch (eU E k).toNat (gv w (eL E k)) * gv z (eL E k) % p
  else 0
def hns (p : Int) (E : EX) (cv ch : Nat → Int → Int) (x sx : Int) : Nat → Nat → Int
  | 0 => fun _ => 0
  | k + 1 => up (hns p E cv ch x sx k) k (nsl p E ch sx (evs p E cv x k).1 (hns p E cv ch x sx k) k)
def hof (p : Int) (E : EX) (cv ch : Nat → Int → Int) (x sx : Int) : Int := if (evs p E cv x (eN E)).2 = true then hns p E cv ch x sx (eN E) (eN E - 1) else -1
/-- values and slopes of the functions, told by those of lesser numbers -/
def VVt (p : Int) (ES : Nat → EX) : Nat → Nat → Int → Int
  | 0 => fun _ _ => -1
  | d + 1 => fun f x => if f = d then vof p (ES d) (VVt p ES d) x else VVt p ES d f x
def HHt (p : Int) (ES : Nat → EX) : Nat → Nat → Int → Int
  | 0 => fun _ _ => -1
  | d + 1 => fun f x => if f = d then hof p (ES d) (VVt p ES d) (HHt p ES d) x 1 else HHt p ES d f x
def vv (p : Int) (ES : Nat → EX) (f : Nat) (x : Int) : Int := VVt p ES 4 f x
def hh (p : Int) (ES : Nat → EX) (f : Nat) (x : Int) : Int := HHt p ES 4 f x
def hf (p : Int) (ES : Nat → EX) (f : Nat) (x sx : Int) : Int := hof p (ES f) (vv p ES) (hh p ES) x sx
/-- a well-made expression, for a function of number f: each node's parts lie ahead of it -/
def WFK (E : EX) (f : Nat) (k : Nat) : Prop :=
  (eK E k = 48 ∧ 0 ≤ eU E k ∧ eU E k ≤ 999 ∧ eL E k = -1 ∧ eV E k = -1) ∨
  (eK E k = 120 ∧ eU E k = 0 ∧ eL E k = -1 ∧ eV E k = -1) ∨
  (eK E k = 110 ∧ eU E k = 0 ∧ 0 ≤ eL E k ∧ eL E k < k ∧ eV E k = -1) ∨
  ((eK E k = 43 ∨ eK E k = 45 ∨ eK E k = 42 ∨ eK E k = 47) ∧ eU E k = 0 ∧ 0 ≤ eL E k ∧ eL E k < k ∧ 0 ≤ eV E k ∧ eV E k < k ∧ ¬ eL E k = eV E k) ∨
  (eK E k = 94 ∧ 0 ≤ eU E k ∧ eU E k ≤ 9 ∧ 0 ≤ eL E k ∧ eL E k < k ∧ eV E k = -1) ∨
  (eK E k = 99 ∧ 0 ≤ eU E k ∧ eU E k < f ∧ 0 ≤ eL E k ∧ eL E k < k ∧ eV E k = -1)
def WFE (E : EX) (f : Nat) : Prop := (1 ≤ eN E ∧ eN E ≤ 40) ∧ (∀ k, k < eN E → WFK E f k) ∧ (∀ j, j + 1 < eN E → ∃ k, k < eN E ∧ (eL E k = j ∨ eV E k = j) ∧ ∀ i, i < eN E → (eL E i = j ∨ eV E i = j) → i = k)
def PRM (p : Int) : Prop := 2 ≤ p ∧ p ≤ 199 ∧ ∀ d : Int, 2 ≤ d → d < p → ¬ p % d = 0
theorem evs_congr {p : Int} {E : EX} {cv cw : Nat → Int → Int} {x : Int} {f : Nat} (h : ∀ j, j < f → ∀ u, cv j u = cw j u) : ∀ k, (∀ i, i < k → WFK E f i) → evs p E cv x k = evs p E cw x k
  | 0, _ => rfl
  | k + 1, hk => by
    have ih := evs_congr (p := p) (x := x) h k (fun i hi => hk i (by omega))
    have e : nvl p E cv x (evs p E cw x k).1 k = nvl p E cw x (evs p E cw x k).1 k := by
      unfold nvl
      by_cases hc : eK E k = 99
      · rw [if_pos hc, if_pos hc]
        have hw := hk k (by omega)
        unfold WFK at hw
        exact h _ (by omega) _
      · rw [if_neg hc, if_neg hc]
    simp only [evs, ih, e]
theorem vof_congr {p : Int} {E : EX} {cv cw : Nat → Int → Int} {x : Int} {f : Nat} (hE : WFE E f) (h : ∀ j, j < f → ∀ u, cv j u = cw j u) : vof p E cv x = vof p E cw x := by
  unfold vof
  rw [evs_congr h (eN E) hE.2.1]
theorem VVt_stab {p : Int} {ES : Nat → EX} {f : Nat} : ∀ d, f < d → ∀ x, VVt p ES d f x = VVt p ES (f + 1) f x
  | 0, h, _ => absurd h (Nat.not_lt_zero _)
  | d + 1, h, x => by
    by_cases e : f = d
    · subst e; rfl
    · show (if f = d then _ else VVt p ES d f x) = _
      rw [if_neg e]
      exact VVt_stab d (by omega) x
theorem vv_eq {p : Int} {ES : Nat → EX} {f : Nat} (hf : f < 4) (hE : WFE (ES f) f) (x : Int) : vv p ES f x = vof p (ES f) (vv p ES) x := by
  unfold vv
  rw [VVt_stab 4 hf]
  show (if f = f then vof p (ES f) (VVt p ES f) x else _) = _
  rw [if_pos rfl]
  refine vof_congr hE (fun j hj u => ?_)
  rw [VVt_stab f hj, VVt_stab 4 (by omega)]
theorem hns_congr {p : Int} {E : EX} {cv cw ch cg : Nat → Int → Int} {x sx : Int} {f : Nat} (h : ∀ j, j < f → ∀ u, cv j u = cw j u) (h2 : ∀ j, j < f → ∀ u, ch j u = cg j u) : ∀ k, (∀ i, i < k → WFK E f i) → hns p E cv ch x sx k = hns p E cw cg x sx k
  | 0, _ => rfl
  | k + 1, hk => by
    have ih := hns_congr (p := p) (x := x) (sx := sx) h h2 k (fun i hi => hk i (by omega))
    have ev := evs_congr (p := p) (x := x) h k (fun i hi => hk i (by omega))
    have e : ∀ w z, nsl p E ch sx w z k = nsl p E cg sx w z k := by
      intro w z
      unfold nsl
      by_cases hc : eK E k = 99
      · have hw := hk k (by omega)
        unfold WFK at hw
        rw [h2 (eU E k).toNat (by omega)]
      · simp only [if_neg hc]
    simp only [hns, ih, ev, e]
theorem hof_congr {p : Int} {E : EX} {cv cw ch cg : Nat → Int → Int} {x sx : Int} {f : Nat} (hE : WFE E f) (h : ∀ j, j < f → ∀ u, cv j u = cw j u) (h2 : ∀ j, j < f → ∀ u, ch j u = cg j u) : hof p E cv ch x sx = hof p E cw cg x sx := by
  unfold hof
  rw [evs_congr h (eN E) hE.2.1, hns_congr h h2 (eN E) hE.2.1]
theorem HHt_stab {p : Int} {ES : Nat → EX} {f : Nat} : ∀ d, f < d → ∀ x, HHt p ES d f x = HHt p ES (f + 1) f x
  | 0, h, _ => absurd h (Nat.not_lt_zero _)
  | d + 1, h, x => by
    by_cases e : f = d
    · subst e; rfl
    · show (if f = d then _ else HHt p ES d f x) = _
      rw [if_neg e]
      exact HHt_stab d (by omega) x
theorem hh_eq {p : Int} {ES : Nat → EX} {f : Nat} (h4 : f < 4) (hE : WFE (ES f) f) (x : Int) : hh p ES f x = hf p ES f x 1 := by
  unfold hh hf
  rw [HHt_stab 4 h4]
  show (if f = f then hof p (ES f) (VVt p ES f) (HHt p ES f) x 1 else _) = _
  rw [if_pos rfl]
  refine hof_congr hE (fun j hj u => ?_) (fun j hj u => ?_)
  · rw [VVt_stab f hj, vv, VVt_stab 4 (by omega)]
  · rw [HHt_stab f hj, hh, HHt_stab 4 (by omega)]
/-- what stays of the first k values -/
theorem evs_keep {p : Int} {E : EX} {cv : Nat → Int → Int} {x : Int} {j : Nat} : ∀ k, j < k → (evs p E cv x k).1 j = (evs p E cv x (j + 1)).1 j
  | 0, h => absurd h (Nat.not_lt_zero _)
  | k + 1, h => by
    by_cases e : j = k
    · subst e; rfl
    · show up _ k _ j = _
      rw [up_n (by omega)]
      exact evs_keep k (by omega)
theorem evs_ok {p : Int} {E : EX} {cv : Nat → Int → Int} {x : Int} : ∀ k j, j ≤ k → (evs p E cv x k).2 = true → (evs p E cv x j).2 = true
  | 0, j, h, h2 => by rw [show j = 0 by omega]; exact h2
  | k + 1, j, h, h2 => by
    by_cases e : j = k + 1
    · rw [e]; exact h2
    · refine evs_ok k j (by omega) ?_
      have h3 : ((evs p E cv x k).2 && decide (¬ nvl p E cv x (evs p E cv x k).1 k = -1)) = true := h2
      rw [Bool.and_eq_true] at h3
      exact h3.1
theorem evs_nb {p : Int} {E : EX} {cv : Nat → Int → Int} {x : Int} {k : Nat} (h : (evs p E cv x (k + 1)).2 = true) : ¬ nvl p E cv x (evs p E cv x k).1 k = -1 := by
  have h3 : ((evs p E cv x k).2 && decide (¬ nvl p E cv x (evs p E cv x k).1 k = -1)) = true := h
  rw [Bool.and_eq_true] at h3
  exact of_decide_eq_true h3.2
theorem evs_go {p : Int} {E : EX} {cv : Nat → Int → Int} {x : Int} {k : Nat} (h : (evs p E cv x k).2 = true) (h2 : ¬ nvl p E cv x (evs p E cv x k).1 k = -1) : (evs p E cv x (k + 1)).2 = true := by
  show ((evs p E cv x k).2 && decide (¬ nvl p E cv x (evs p E cv x k).1 k = -1)) = true
  rw [h, Bool.true_and]
  exact decide_eq_true h2
theorem evs_bad {p : Int} {E : EX} {cv : Nat → Int → Int} {x : Int} {k n : Nat} (hk : k < n) (h2 : nvl p E cv x (evs p E cv x k).1 k = -1) : ¬ (evs p E cv x n).2 = true := fun h => evs_nb (evs_ok n (k + 1) (by omega) h) h2
