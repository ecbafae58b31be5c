/-! the Reckoner: what is frozen (a State and what hangs on it), and its tables as a value -/
/-- State, Remainders, the four Expressions, their rows, the expressions, depth, unlike, least, the prime -/
abbrev FT : Type := Nat × Nat × (Nat → Nat) × (Nat → Nat → Nat) × (Nat → EX) × (Nat → Int) × (Nat → Int) × (Nat → Int) × Int
def fS (F : FT) : Nat := F.1
def fR (F : FT) : Nat := F.2.1
def fX (F : FT) : Nat → Nat := F.2.2.1
def fK (F : FT) : Nat → Nat → Nat := F.2.2.2.1
def fE (F : FT) : Nat → EX := F.2.2.2.2.1
def fD (F : FT) : Nat → Int := F.2.2.2.2.2.1
def fU (F : FT) : Nat → Int := F.2.2.2.2.2.2.1
def fL (F : FT) : Nat → Int := F.2.2.2.2.2.2.2.1
def fP (F : FT) : Int := F.2.2.2.2.2.2.2.2
def stW (F : FT) : va_W := [(fS F, .inr (7, [.ref (fR F), .ref (fX F 0), .ref (fX F 1), .ref (fX F 2), .ref (fX F 3)])), (fR F, .inr (6, [.int (iI (fP F))]))]
def exW (g : GG) (F : FT) (f : Nat) : va_W := [(fX F f, .inr (1, [.ref (fK F f 1), .ref (fK F f 2), .ref (fK F f 3), .ref (fK F f 4), .int (iI (fD F f)), .int (iI (fU F f)), .int (iI (fL F f))])), (fK F f 1, gI g (eN (fE F f)) (eK (fE F f))), (fK F f 2, gI g (eN (fE F f)) (eU (fE F f))), (fK F f 3, gI g (eN (fE F f)) (eL (fE F f))), (fK F f 4, gI g (eN (fE F f)) (eV (fE F f)))]
def FX (g : GG) (F : FT) (H : Heap) : Prop := va_P g.1 vwCl (stW F) H ∧ ∀ f, f < 4 → va_P g.1 vwCl (exW g F f) H
def fzA (F : FT) (q : Nat) : Prop := q = fS F ∨ q = fR F ∨ ∃ f, f < 4 ∧ (q = fX F f ∨ q = fK F f 1 ∨ q = fK F f 2 ∨ q = fK F f 3 ∨ q = fK F f 4)
theorem va_P.lt9 {D : va_G} {cl : List vw_C} {ws : va_W} {H : Heap} (h : va_P D cl ws H) {k : Nat} {q : Nat × va_E} (hk : ws[k]? = some q) : q.1 < H.size := (h k q hk).lt
theorem FX_lt {g : GG} {F : FT} {H : Heap} (h : FX g F H) {q : Nat} (hq : fzA F q) : q < H.size := by
  rcases hq with rfl | rfl | ⟨f, hf, rfl | rfl | rfl | rfl | rfl⟩
  · exact va_P.lt9 h.1 (k := 0) rfl
  · exact va_P.lt9 h.1 (k := 1) rfl
  · exact va_P.lt9 (h.2 f hf) (k := 0) rfl
  · exact va_P.lt9 (h.2 f hf) (k := 1) rfl
  · exact va_P.lt9 (h.2 f hf) (k := 2) rfl
  · exact va_P.lt9 (h.2 f hf) (k := 3) rfl
  · exact va_P.lt9 (h.2 f hf) (k := 4) rfl
theorem FX_kept {g : GG} {F : FT} {H H1 : Heap} (h : FX g F H) (hk : ∀ q, fzA F q → H1[q]? = H[q]?) : FX g F H1 := by
  refine ⟨h.1.kept (fun k q hq => hk _ ?_), fun f hf => (h.2 f hf).kept (fun k q hq => hk _ ?_)⟩
  · match k, hq with
    | 0, hq => cases hq; exact Or.inl rfl
    | 1, hq => cases hq; exact Or.inr (Or.inl rfl)
    | k + 2, hq => simp [stW] at hq
  · match k, hq with
    | 0, hq => cases hq; exact Or.inr (Or.inr ⟨f, hf, Or.inl rfl⟩)
    | 1, hq => cases hq; exact Or.inr (Or.inr ⟨f, hf, Or.inr (Or.inl rfl)⟩)
    | 2, hq => cases hq; exact Or.inr (Or.inr ⟨f, hf, Or.inr (Or.inr (Or.inl rfl))⟩)
    | 3, hq => cases hq; exact Or.inr (Or.inr ⟨f, hf, Or.inr (Or.inr (Or.inr (Or.inl rfl)))⟩)
    | 4, hq => cases hq; exact Or.inr (Or.inr ⟨f, hf, Or.inr (Or.inr (Or.inr (Or.inr rfl)))⟩)
    | k + 5, hq => simp [exW] at hq
/-- in a method that may not touch what is frozen, it stays -/
theorem fz_out {g : GG} {F : FT} {H0 : Heap} {ws : va_W} {A : Nat → Prop} (hX : FX g F H0) (hD : va_D (fun q => ¬ fzA F q) ws) (hA : A = va_A ws H0.size) : ∀ q, A q → ¬ fzA F q := by
  intro q hq hz
  rw [hA] at hq
  rcases hq with ⟨k, e, hk⟩ | hq
  · exact hD.2 k _ hk hz
  · exact absurd (FX_lt hX hz) (by omega)
theorem fz_stay {g : GG} {F : FT} {A : Nat → Prop} {H0 H : Heap} {locs : List Loc} {ws : va_W} (hX : FX g F H0) (hO : ∀ q, A q → ¬ fzA F q) (hW : gW g A H0 H locs ws) : FX g F H := FX_kept hX (fun q hq => hW.2.2.2.1 q (FX_lt hX hq) (fun h => hO q h hq))
/-- the tables: values, slopes by hinges, slopes by rules (4 rows of 199), of the nodes values, slopes, weights (4 rows of 40) -/
abbrev RT : Type := (Nat → Int) × (Nat → Int) × (Nat → Int) × (Nat → Int) × (Nat → Int) × (Nat → Int)
def rV (r : RT) : Nat → Int := r.1
def rH (r : RT) : Nat → Int := r.2.1
def rR (r : RT) : Nat → Int := r.2.2.1
def nV (r : RT) : Nat → Int := r.2.2.2.1
def nS (r : RT) : Nat → Int := r.2.2.2.2.1
def nW (r : RT) : Nat → Int := r.2.2.2.2.2
def mkR (a b c d e f : Nat → Int) : RT := (a, b, c, d, e, f)
def row (T : Nat → Int) (u : Int) : Nat → Int := fun j => T (u * 40 + j).toNat
theorem gv_get (T : Nat → Int) (u k : Int) : (if 0 ≤ k ∧ k < 40 then T (u * 40 + k).toNat else 0) = gv (row T u) k := by
  unfold gv row
  by_cases h : 0 ≤ k ∧ k < 40
  · rw [if_pos h, if_pos h, show ((k.toNat : Nat) : Int) = k by omega]
  · rw [if_neg h, if_neg h]
theorem gv_of {w : Nat → Int} {i : Int} (h : 0 ≤ i ∧ i < 40) : gv w i = w i.toNat := if_pos h
theorem gv_neg {w : Nat → Int} : gv w (-1) = 0 := if_neg (by omega)
/-- values of the parts of a node -/
theorem gv_rng {w : Nat → Int} {p i : Int} {k : Nat} (hk : k ≤ 40) (hw : ∀ j, j < k → 0 ≤ w j ∧ w j < p) (hp : 0 < p) (hi : i = -1 ∨ (0 ≤ i ∧ i < k)) : 0 ≤ gv w i ∧ gv w i < p := by
  rcases hi with rfl | hi
  · rw [gv_neg]; omega
  · rw [gv_of (by omega)]
    exact hw _ (by omega)
theorem WFK_L {E : EX} {f k : Nat} (h : WFK E f k) : eL E k = -1 ∨ (0 ≤ eL E k ∧ eL E k < k) := by unfold WFK at h; omega
theorem WFK_V {E : EX} {f k : Nat} (h : WFK E f k) : eV E k = -1 ∨ (0 ≤ eV E k ∧ eV E k < k) := by unfold WFK at h; omega
theorem WFK_U {E : EX} {f k : Nat} (h : WFK E f k) (h4 : f < 4) : 0 ≤ eU E k ∧ eU E k ≤ 999 ∧ (eK E k = 94 → eU E k ≤ 9) ∧ (eK E k = 99 → eU E k < f) := by unfold WFK at h; omega
theorem WFK_K {E : EX} {f k : Nat} (h : WFK E f k) : eK E k = 48 ∨ eK E k = 120 ∨ eK E k = 110 ∨ eK E k = 43 ∨ eK E k = 45 ∨ eK E k = 42 ∨ eK E k = 47 ∨ eK E k = 94 ∨ eK E k = 99 := by unfold WFK at h; omega
theorem gv_congr {w z : Nat → Int} {i : Int} {k : Nat} (h : ∀ j, j < k → w j = z j) (hi : i = -1 ∨ (0 ≤ i ∧ i < k)) : gv w i = gv z i := by
  rcases hi with rfl | hi
  · rw [gv_neg, gv_neg]
  · unfold gv
    by_cases e : 0 ≤ i ∧ i < 40
    · rw [if_pos e, if_pos e, h _ (by omega)]
    · rw [if_neg e, if_neg e]
theorem nvn_congr {p : Int} {E : EX} {x : Int} {w z : Nat → Int} {f k : Nat} (hE : WFK E f k) (h : ∀ j, j < k → w j = z j) : nvn p E x w k = nvn p E x z k := by
  unfold nvn
  rw [gv_congr h (WFK_L hE), gv_congr h (WFK_V hE)]
theorem nsl_congr {p : Int} {E : EX} {ch : Nat → Int → Int} {sx : Int} {w w' z z' : Nat → Int} {f k : Nat} (hE : WFK E f k) (h : ∀ j, j < k → w j = w' j) (h2 : ∀ j, j < k → z j = z' j) : nsl p E ch sx w z k = nsl p E ch sx w' z' k := by
  unfold nsl
  rw [gv_congr h (WFK_L hE), gv_congr h (WFK_V hE), gv_congr h2 (WFK_L hE), gv_congr h2 (WFK_V hE)]
theorem inv'_rng {p v : Int} (hp : 0 < p) : 0 ≤ inv' p v ∧ inv' p v < p := emod_rng _ hp
/-- a node's value is a number, or the ban -/
theorem nvn_rng {p : Int} {E : EX} {x : Int} {w : Nat → Int} {k : Nat} (hp : 0 < p) (hx : 0 ≤ x ∧ x < p) : nvn p E x w k = -1 ∨ (0 ≤ nvn p E x w k ∧ nvn p E x w k < p) := by
  unfold nvn
  repeat' split
  all_goals first | exact Or.inl rfl | exact Or.inr (emod_rng _ hp) | exact Or.inr hx
theorem evs_rng {p : Int} {E : EX} {cv : Nat → Int → Int} {x : Int} {f : Nat} (hp : 0 < p) (hx : 0 ≤ x ∧ x < p) (hc : ∀ j u, j < f → 0 ≤ u → u < p → cv j u = -1 ∨ (0 ≤ cv j u ∧ cv j u < p)) : ∀ k, k ≤ 40 → (∀ i, i < k → WFK E f i) → (evs p E cv x k).2 = true → ∀ j, j < k → 0 ≤ (evs p E cv x k).1 j ∧ (evs p E cv x k).1 j < p
  | 0, _, _, _, j, hj => absurd hj (Nat.not_lt_zero _)
  | k + 1, h40, hk, h, j, hj => by
    have h1 := evs_ok (k + 1) k (by omega) h
    have ih := evs_rng hp hx hc k (by omega) (fun i hi => hk i (by omega)) h1
    by_cases e : j = k
    · subst e
      show 0 ≤ up _ j (nvl p E cv x (evs p E cv x j).1 j) j ∧ up _ j (nvl p E cv x (evs p E cv x j).1 j) j < p
      rw [up_s]
      have hb := evs_nb h
      have hw := hk j (by omega)
      unfold nvl at hb ⊢
      by_cases h9 : eK E j = 99
      · rw [if_pos h9] at hb ⊢
        have hu := gv_rng (w := (evs p E cv x j).1) (p := p) (i := eL E j) (k := j) (by omega) (fun i hi => ih i hi) hp (WFK_L hw)
        have hU : 0 ≤ eU E j ∧ eU E j < f := by unfold WFK at hw; omega
        rcases hc (eU E j).toNat (gv (evs p E cv x j).1 (eL E j)) (by omega) hu.1 hu.2 with q | q
        · exact absurd q hb
        · exact q
      · rw [if_neg h9] at hb ⊢
        rcases nvn_rng (p := p) (E := E) (x := x) (w := (evs p E cv x j).1) (k := j) hp hx with q | q
        · exact absurd q hb
        · exact q
    · show 0 ≤ up _ k _ j ∧ up _ k _ j < p
      rw [up_n (by omega)]
      exact ih j (by omega)
theorem vof_rng {p : Int} {E : EX} {cv : Nat → Int → Int} {x : Int} {f : Nat} (hp : 0 < p) (hx : 0 ≤ x ∧ x < p) (hc : ∀ j u, j < f → 0 ≤ u → u < p → cv j u = -1 ∨ (0 ≤ cv j u ∧ cv j u < p)) (hE : WFE E f) : vof p E cv x = -1 ∨ (0 ≤ vof p E cv x ∧ vof p E cv x < p) := by
  unfold vof
  by_cases h : (evs p E cv x (eN E)).2 = true
  · rw [if_pos h]
    have hn := hE.1
    exact Or.inr (evs_rng hp hx hc (eN E) hn.2 hE.2.1 h (eN E - 1) (by omega))
  · rw [if_neg h]; exact Or.inl rfl
theorem vv_rng {p : Int} {ES : Nat → EX} (hp : 0 < p) (hE : ∀ f, f < 4 → WFE (ES f) f) : ∀ f, f < 4 → ∀ x, 0 ≤ x → x < p → vv p ES f x = -1 ∨ (0 ≤ vv p ES f x ∧ vv p ES f x < p) := by
  intro f
  induction f using Nat.strongRecOn with
  | ind f ih =>
    intro hf x h1 h2
    rw [vv_eq hf (hE f hf)]
    exact vof_rng hp ⟨h1, h2⟩ (fun j u hj a b => ih j hj (by omega) u a b) (hE f hf)
