/-! the Builder as a value: kinds, numbers, lefts, rights, depths, likes, size, leastDefinable, loose (count, items), waiting (count, items) -/
def pN (n : Int) : Int := if n < 40 then n + 1 else n
def pF (n : Int) (f : Nat → Int) (x : Int) : Nat → Int := if n < 40 then up f n.toNat x else f
def oN (n : Int) : Int := if 0 < n then n - 1 else n
def tp (n : Int) (f : Nat → Int) : Int := if 0 < n then f (n - 1).toNat else -1
abbrev BT : Type := (Nat → Int) × (Nat → Int) × (Nat → Int) × (Nat → Int) × (Nat → Int) × (Nat → Int) × Int × Int × Int × (Nat → Int) × Int × (Nat → Int)
def bK (B : BT) : Nat → Int := B.1
def bU (B : BT) : Nat → Int := B.2.1
def bL (B : BT) : Nat → Int := B.2.2.1
def bV (B : BT) : Nat → Int := B.2.2.2.1
def bD (B : BT) : Nat → Int := B.2.2.2.2.1
def bE (B : BT) : Nat → Int := B.2.2.2.2.2.1
def bN (B : BT) : Int := B.2.2.2.2.2.2.1
def bZ (B : BT) : Int := B.2.2.2.2.2.2.2.1
def lP (B : BT) : Int := B.2.2.2.2.2.2.2.2.1
def lQ (B : BT) : Nat → Int := B.2.2.2.2.2.2.2.2.2.1
def wP (B : BT) : Int := B.2.2.2.2.2.2.2.2.2.2.1
def wQ (B : BT) : Nat → Int := B.2.2.2.2.2.2.2.2.2.2.2
def mkB (K U L V D E : Nat → Int) (n z lp : Int) (lq : Nat → Int) (wp : Int) (wq : Nat → Int) : BT := (K, U, L, V, D, E, n, z, lp, lq, wp, wq)
section BT
variable {K U L V D E : Nat → Int} {n z lp : Int} {lq : Nat → Int} {wp : Int} {wq : Nat → Int}
theorem bK_mk : bK (mkB K U L V D E n z lp lq wp wq) = K := rfl
theorem bU_mk : bU (mkB K U L V D E n z lp lq wp wq) = U := rfl
theorem bL_mk : bL (mkB K U L V D E n z lp lq wp wq) = L := rfl
theorem bV_mk : bV (mkB K U L V D E n z lp lq wp wq) = V := rfl
theorem bD_mk : bD (mkB K U L V D E n z lp lq wp wq) = D := rfl
theorem bE_mk : bE (mkB K U L V D E n z lp lq wp wq) = E := rfl
theorem bN_mk : bN (mkB K U L V D E n z lp lq wp wq) = n := rfl
theorem bZ_mk : bZ (mkB K U L V D E n z lp lq wp wq) = z := rfl
theorem lP_mk : lP (mkB K U L V D E n z lp lq wp wq) = lp := rfl
theorem lQ_mk : lQ (mkB K U L V D E n z lp lq wp wq) = lq := rfl
theorem wP_mk : wP (mkB K U L V D E n z lp lq wp wq) = wp := rfl
theorem wQ_mk : wQ (mkB K U L V D E n z lp lq wp wq) = wq := rfl
end BT
def bnd (f : Nat → Int) : Prop := ∀ j : Nat, -1 ≤ f j ∧ f j ≤ 65535
def WFB (B : BT) : Prop := (0 ≤ bN B ∧ 0 ≤ lP B ∧ lP B ≤ bN B ∧ 0 ≤ wP B ∧ bN B + wP B ≤ 40 ∧ 0 ≤ bZ B ∧ bZ B ≤ 4) ∧ (∀ i : Nat, (i : Int) < lP B → 0 ≤ lQ B i ∧ lQ B i < bN B) ∧ (∀ j : Nat, 0 ≤ bD B j ∧ bD B j ≤ j + 1) ∧ (∀ j : Nat, 0 ≤ bU B j ∧ bU B j ≤ 999) ∧ bnd (bK B) ∧ bnd (bL B) ∧ bnd (bV B) ∧ bnd (bE B) ∧ bnd (wQ B)
/-- the methods as functions -/
def sClear (B : BT) : BT := mkB (bK B) (bU B) (bL B) (bV B) (bD B) (bE B) 0 0 0 (lQ B) 0 (wQ B)
def sWait (B : BT) (x : Int) : BT := mkB (bK B) (bU B) (bL B) (bV B) (bD B) (bE B) (bN B) (bZ B) (lP B) (lQ B) (pN (wP B)) (pF (wP B) (wQ B) x)
def sWPop (B : BT) : BT := mkB (bK B) (bU B) (bL B) (bV B) (bD B) (bE B) (bN B) (bZ B) (lP B) (lQ B) (oN (wP B)) (wQ B)
def sLPop (B : BT) : BT := mkB (bK B) (bU B) (bL B) (bV B) (bD B) (bE B) (bN B) (bZ B) (oN (lP B)) (lQ B) (wP B) (wQ B)
def wTop (B : BT) : Int := tp (wP B) (wQ B)
def lTop (B : BT) : Int := tp (lP B) (lQ B)
def sAdd (B : BT) (k u a b : Int) : BT := mkB (put0 40 (bK B) (bN B) k) (put0 40 (bU B) (bN B) u) (put0 40 (bL B) (bN B) a) (put0 40 (bV B) (bN B) b) (put0 40 (bD B) (bN B) (1 + max (at0 40 (bD B) a) (at0 40 (bD B) b))) (bE B) (min (bN B + 1) 40) (bZ B) (pN (lP B)) (pF (lP B) (lQ B) (bN B)) (wP B) (wQ B)
def sNeg (B : BT) : BT := sAdd (sLPop (sWPop B)) (wTop B) 0 (lTop B) (-1)
def sFin : Nat → BT → BT
  | 0, B => B
  | k + 1, B => if wTop B = 110 then sFin k (sNeg B) else B
def lvl (c : Int) : Int := if c = 43 then 1 else if c = 45 then 1 else if c = 42 then 2 else if c = 47 then 2 else 0
def sOp (B : BT) : BT := sAdd (sLPop (sWPop (sLPop B))) (wTop B) 0 (lTop (sLPop B)) (lTop B)
def sJoin (v : Int) : Nat → BT → BT
  | 0, B => B
  | k + 1, B => if v ≤ lvl (wTop B) then sJoin v k (sOp B) else B
def sFinA (B : BT) : BT := sFin (wP B).toNat B
def sJoinF (v : Int) (B : BT) : BT := sJoin v (wP B).toNat B
def sAddX (B : BT) : BT := sFinA (sAdd B 120 0 (-1) (-1))
def sAddNum (B : BT) (d : Int) : BT := sFinA (sAdd B 48 d (-1) (-1))
def sDigit (B : BT) (j d : Int) : BT := mkB (bK B) (put0 40 (bU B) j (at0 40 (bU B) j * 10 + d)) (bL B) (bV B) (bD B) (bE B) (bN B) (bZ B) (lP B) (lQ B) (wP B) (wQ B)
def sPower (B : BT) (d : Int) : BT := sAdd (sLPop B) 94 d (lTop B) (-1)
def sSign (B : BT) (c : Int) : BT := sWait (sJoinF (lvl c) B) c
def fnO (c : Int) : Int := if c = 102 then 0 else if c = 103 then 1 else if c = 104 then 2 else if c = 107 then 3 else -1
def sLeast (B : BT) (z : Int) : BT := mkB (bK B) (bU B) (bL B) (bV B) (bD B) (bE B) (bN B) z (lP B) (lQ B) (wP B) (wQ B)
def sCall (B : BT) (f : Int) : BT := sLeast (sAdd (sLPop B) 99 f (lTop B) (-1)) (max (bZ B) (f + 1))
def sClose (B : BT) : BT := sFinA (if fnO (wTop (sJoinF 1 B)) = -1 then sWPop (sJoinF 1 B) else sCall (sWPop (sJoinF 1 B)) (fnO (wTop (sJoinF 1 B))))
/-- facts -/
theorem up_bnd {f : Nat → Int} {k : Nat} {x : Int} {P : Int → Prop} (h : ∀ j, P (f j)) (hx : P x) : ∀ j, P (up f k x j) := by
  intro j
  unfold up
  by_cases e : j = k
  · rw [if_pos e]; exact hx
  · rw [if_neg e]; exact h j
theorem put0_bnd {f : Nat → Int} {n : Nat} {i x : Int} {P : Int → Prop} (h : ∀ j, P (f j)) (hx : P x) : ∀ j, P (put0 n f i x j) := by
  intro j
  unfold put0
  by_cases e : 0 ≤ i ∧ i < n
  · rw [if_pos e]; exact up_bnd h hx j
  · rw [if_neg e]; exact h j
theorem at0_bnd {f : Nat → Int} {n : Nat} {i : Int} {P : Int → Prop} (h : ∀ j, P (f j)) (h0 : P 0) : P (at0 n f i) := by
  unfold at0
  by_cases e : 0 ≤ i ∧ i < n
  · rw [if_pos e]; exact h _
  · rw [if_neg e]; exact h0
theorem tp_bnd {n : Int} {f : Nat → Int} (h : bnd f) : -1 ≤ tp n f ∧ tp n f ≤ 65535 := by
  unfold tp
  by_cases e : 0 < n
  · rw [if_pos e]; exact h _
  · rw [if_neg e]; omega
theorem at_depth {D : Nat → Int} {a n : Int} (h : ∀ j : Nat, 0 ≤ D j ∧ D j ≤ j + 1) (ha : a < n) (hn : 0 ≤ n) : 0 ≤ at0 40 D a ∧ at0 40 D a ≤ n := by
  unfold at0
  by_cases e : 0 ≤ a ∧ a < (40 : Nat)
  · rw [if_pos e]
    have := h a.toNat
    omega
  · rw [if_neg e]; omega
theorem lTop_lt {B : BT} (h : WFB B) : -1 ≤ lTop B ∧ lTop B < bN B ∨ (lTop B = -1) := by
  unfold lTop tp
  by_cases e : 0 < lP B
  · rw [if_pos e]
    have := h.2.1 (lP B - 1).toNat (by omega)
    omega
  · rw [if_neg e]; omega
theorem lTop_r {B : BT} (h : WFB B) : -1 ≤ lTop B ∧ lTop B < bN B ∨ (lTop B = -1 ∧ bN B = 0) := by
  have h0 := h.1
  have := lTop_lt h
  omega
theorem wTop_r {B : BT} (h : WFB B) : -1 ≤ wTop B ∧ wTop B ≤ 65535 := tp_bnd h.2.2.2.2.2.2.2.2
theorem WF_clear {B : BT} (h : WFB B) : WFB (sClear B) := by
  obtain ⟨h1, h2, h3, h4, h5, h6, h7, h8, h9⟩ := h
  exact ⟨⟨Int.le_refl 0, Int.le_refl 0, Int.le_refl 0, Int.le_refl 0, (by decide : (0 : Int) + 0 ≤ 40), Int.le_refl 0, (by decide : (0 : Int) ≤ 4)⟩, fun i hi => absurd (show (i : Int) < 0 from hi) (by omega), h3, h4, h5, h6, h7, h8, h9⟩
theorem WF_wait {B : BT} {x : Int} (h : WFB B) (hx : -1 ≤ x ∧ x ≤ 65535) (hr : bN B + wP B ≤ 39) : WFB (sWait B x) := by
  obtain ⟨h1, h2, h3, h4, h5, h6, h7, h8, h9⟩ := h
  refine ⟨?_, h2, h3, h4, h5, h6, h7, h8, ?_⟩
  · simp only [sWait, bN_mk, lP_mk, wP_mk, bZ_mk, pN]
    rw [if_pos (by omega)]
    omega
  · simp only [sWait, wQ_mk, pF]
    rw [if_pos (by omega)]
    exact up_bnd (P := fun v => -1 ≤ v ∧ v ≤ 65535) h9 hx
theorem WF_wpop {B : BT} (h : WFB B) : WFB (sWPop B) := by
  obtain ⟨h1, h2, h3, h4, h5, h6, h7, h8, h9⟩ := h
  refine ⟨?_, h2, h3, h4, h5, h6, h7, h8, h9⟩
  simp only [sWPop, bN_mk, lP_mk, wP_mk, bZ_mk, oN]
  split <;> omega
theorem WF_lpop {B : BT} (h : WFB B) : WFB (sLPop B) := by
  obtain ⟨h1, h2, h3, h4, h5, h6, h7, h8, h9⟩ := h
  refine ⟨?_, ?_, h3, h4, h5, h6, h7, h8, h9⟩
  · simp only [sLPop, bN_mk, lP_mk, wP_mk, bZ_mk, oN]
    split <;> omega
  · intro i hi
    simp only [sLPop, lP_mk, oN] at hi
    exact h2 i (by split at hi <;> omega)
theorem WF_add {B : BT} {k u a b : Int} (h : WFB B) (hn : bN B + wP B ≤ 39) (hk : -1 ≤ k ∧ k ≤ 65535) (hu : 0 ≤ u ∧ u ≤ 999) (ha : -1 ≤ a ∧ (a < bN B ∨ a = -1)) (hb : -1 ≤ b ∧ (b < bN B ∨ b = -1)) : WFB (sAdd B k u a b) := by
  obtain ⟨h1, h2, h3, h4, h5, h6, h7, h8, h9⟩ := h
  have da := at_depth (a := a) (n := bN B) h3
  have db := at_depth (a := b) (n := bN B) h3
  have e1 : at0 40 (bD B) (-1) = 0 := by unfold at0; rw [if_neg (by omega)]
  have da' : 0 ≤ at0 40 (bD B) a ∧ at0 40 (bD B) a ≤ bN B := by
    rcases ha.2 with q | q
    · exact da q (by omega)
    · rw [q, e1]; omega
  have db' : 0 ≤ at0 40 (bD B) b ∧ at0 40 (bD B) b ≤ bN B := by
    rcases hb.2 with q | q
    · exact db q (by omega)
    · rw [q, e1]; omega
  refine ⟨?_, ?_, ?_, ?_, ?_, ?_, ?_, h8, h9⟩
  · simp only [sAdd, bN_mk, lP_mk, wP_mk, bZ_mk, pN]
    rw [if_pos (by omega)]
    omega
  · intro i hi
    simp only [sAdd, lP_mk, lQ_mk, bN_mk, pN, pF] at hi ⊢
    rw [if_pos (by omega)] at hi ⊢
    unfold up
    by_cases e : i = (lP B).toNat
    · rw [if_pos e]; omega
    · rw [if_neg e]
      have := h2 i (by omega)
      omega
  · intro j
    simp only [sAdd, bD_mk, put0]
    rw [if_pos (by omega)]
    unfold up
    by_cases e : j = (bN B).toNat
    · rw [if_pos e]; omega
    · rw [if_neg e]; exact h3 j
  · simp only [sAdd, bU_mk]; exact put0_bnd (P := fun v => 0 ≤ v ∧ v ≤ 999) h4 hu
  · simp only [sAdd, bK_mk]; exact put0_bnd (P := fun v => -1 ≤ v ∧ v ≤ 65535) h5 hk
  · simp only [sAdd, bL_mk]; exact put0_bnd (P := fun v => -1 ≤ v ∧ v ≤ 65535) h6 (by omega)
  · simp only [sAdd, bV_mk]; exact put0_bnd (P := fun v => -1 ≤ v ∧ v ≤ 65535) h7 (by omega)
theorem wTop_pos {B : BT} (h : 0 ≤ wTop B) : 0 < wP B := by
  unfold wTop tp at h
  by_cases e : 0 < wP B
  · exact e
  · rw [if_neg e] at h; omega
theorem WF_neg {B : BT} (h : WFB B) (hw : wTop B = 110) : WFB (sNeg B) := by
  have h0 := h.1
  have hp := wTop_pos (B := B) (by omega)
  have hl := lTop_r h
  refine WF_add (WF_lpop (WF_wpop h)) ?_ (by omega) (by omega) ?_ (by omega)
  · simp only [sLPop, sWPop, bN_mk, wP_mk, oN]; rw [if_pos hp]; omega
  · simp only [sLPop, sWPop, bN_mk]; omega
theorem WF_fin : ∀ (k : Nat) (B : BT), WFB B → WFB (sFin k B)
  | 0, _, h => h
  | k + 1, B, h => by
    unfold sFin
    split
    · exact WF_fin k _ (WF_neg h ‹_›)
    · exact h
theorem lvl_pos {c : Int} (h : 1 ≤ lvl c) : 0 ≤ c := by
  unfold lvl at h
  split at h
  · omega
  · split at h
    · omega
    · split at h
      · omega
      · split at h <;> omega
theorem WF_op {B : BT} (h : WFB B) (hw : 1 ≤ lvl (wTop B)) : WFB (sOp B) := by
  have h0 := h.1
  have hp := wTop_pos (lvl_pos hw)
  have hl := lTop_r h
  have hl2 := lTop_r (WF_lpop h)
  have hr := wTop_r h
  simp only [show bN (sLPop B) = bN B from rfl] at hl2
  refine WF_add (WF_lpop (WF_wpop (WF_lpop h))) ?_ (by omega) (by omega) ?_ ?_
  · show bN B + oN (wP B) ≤ 39; unfold oN; rw [if_pos hp]; omega
  · simp only [show bN (sLPop (sWPop (sLPop B))) = bN B from rfl]; omega
  · simp only [show bN (sLPop (sWPop (sLPop B))) = bN B from rfl]; omega
theorem WF_join {v : Int} (hv : 1 ≤ v) : ∀ (k : Nat) (B : BT), WFB B → WFB (sJoin v k B)
  | 0, _, h => h
  | k + 1, B, h => by
    unfold sJoin
    split
    · exact WF_join hv k _ (WF_op h (by omega))
    · exact h
theorem dep_rng {B : BT} (h : WFB B) (a : Int) : 0 ≤ at0 40 (bD B) a ∧ at0 40 (bD B) a ≤ 40 := by
  have h3 := h.2.2.1
  unfold at0
  by_cases e : 0 ≤ a ∧ a < (40 : Nat)
  · rw [if_pos e]
    have := h3 a.toNat
    omega
  · rw [if_neg e]; omega
theorem lvl_r (c : Int) : 0 ≤ lvl c ∧ lvl c ≤ 2 := by
  unfold lvl
  split
  · omega
  · split
    · omega
    · split
      · omega
      · split <;> omega
theorem fnO_r (c : Int) : -1 ≤ fnO c ∧ fnO c ≤ 3 := by
  unfold fnO
  split
  · omega
  · split
    · omega
    · split
      · omega
      · split <;> omega
theorem fnO_pos {c : Int} (h : ¬ fnO c = -1) : 0 ≤ c := by
  unfold fnO at h
  split at h
  · omega
  · split at h
    · omega
    · split at h
      · omega
      · split at h <;> omega
theorem sFin_stop {B : BT} (h : ¬ wTop B = 110) : ∀ k, sFin k B = B
  | 0 => rfl
  | k + 1 => by unfold sFin; rw [if_neg h]
theorem sFin_step {B : BT} (h : wTop B = 110) (k : Nat) : sFin (k + 1) B = sFin k (sNeg B) := by
  show (if wTop B = 110 then sFin k (sNeg B) else B) = _
  rw [if_pos h]
theorem sJoin_stop {v : Int} {B : BT} (h : ¬ v ≤ lvl (wTop B)) : ∀ k, sJoin v k B = B
  | 0 => rfl
  | k + 1 => by unfold sJoin; rw [if_neg h]
theorem sJoin_step {v : Int} {B : BT} (h : v ≤ lvl (wTop B)) (k : Nat) : sJoin v (k + 1) B = sJoin v k (sOp B) := by
  show (if v ≤ lvl (wTop B) then sJoin v k (sOp B) else B) = _
  rw [if_pos h]
/-- how much is full: nodes and what waits -/
def fil (B : BT) : Int := bN B + wP B
theorem fil_neg {B : BT} (h : WFB B) (hw : wTop B = 110) : fil (sNeg B) = fil B := by
  have h0 := h.1
  have hp := wTop_pos (B := B) (by omega)
  simp only [fil, sNeg, sAdd, sLPop, sWPop, bN_mk, wP_mk, oN]
  rw [if_pos hp]; omega
theorem fil_fin : ∀ (k : Nat) (B : BT), WFB B → fil (sFin k B) = fil B
  | 0, _, _ => rfl
  | k + 1, B, h => by
    unfold sFin
    split
    · rw [fil_fin k _ (WF_neg h ‹_›), fil_neg h ‹_›]
    · rfl
theorem fil_op {B : BT} (h : WFB B) (hw : 1 ≤ lvl (wTop B)) : fil (sOp B) = fil B := by
  have h0 := h.1
  have hp := wTop_pos (lvl_pos hw)
  skip
  show min (bN B + 1) 40 + oN (wP B) = bN B + wP B; unfold oN; rw [if_pos hp]; omega
theorem fil_join {v : Int} (hv : 1 ≤ v) : ∀ (k : Nat) (B : BT), WFB B → fil (sJoin v k B) = fil B
  | 0, _, _ => rfl
  | k + 1, B, h => by
    unfold sJoin
    split
    · rw [fil_join hv k _ (WF_op h (by omega)), fil_op h (by omega)]
    · rfl
theorem WF_finA {B : BT} (h : WFB B) : WFB (sFinA B) := WF_fin _ _ h
theorem WF_joinF {v : Int} (hv : 1 ≤ v) {B : BT} (h : WFB B) : WFB (sJoinF v B) := WF_join hv _ _ h
theorem fil_finA {B : BT} (h : WFB B) : fil (sFinA B) = fil B := fil_fin _ _ h
theorem fil_joinF {v : Int} (hv : 1 ≤ v) {B : BT} (h : WFB B) : fil (sJoinF v B) = fil B := fil_join hv _ _ h
theorem fil_wpop {B : BT} (h : WFB B) (hp : 0 ≤ wTop B) : fil (sWPop B) ≤ 39 := by
  have h0 := h.1
  have hp := wTop_pos hp
  simp only [fil, sWPop, bN_mk, wP_mk, oN]
  rw [if_pos hp]; omega
theorem WF_least {B : BT} {z : Int} (h : WFB B) (hz : 0 ≤ z ∧ z ≤ 4) : WFB (sLeast B z) := by
  obtain ⟨h1, h2, h3, h4, h5, h6, h7, h8, h9⟩ := h
  refine ⟨?_, h2, h3, h4, h5, h6, h7, h8, h9⟩
  simp only [sLeast, bN_mk, lP_mk, wP_mk, bZ_mk]
  omega
theorem WF_call {B : BT} {f : Int} (h : WFB B) (hn : fil B ≤ 39) (hf : 0 ≤ f ∧ f ≤ 3) : WFB (sCall B f) := by
  have hl := lTop_r h
  have h0 := h.1
  refine WF_least (WF_add (WF_lpop h) hn (by omega) (by omega) ?_ (by omega)) (by omega)
  simp only [show bN (sLPop B) = bN B from rfl]
  omega
theorem WF_close {B : BT} (h : WFB B) : WFB (sClose B) := by
  have hj := WF_joinF (v := 1) (by omega) h
  refine WF_finA ?_
  split
  · exact WF_wpop hj
  · have hr := fnO_r (wTop (sJoinF 1 B))
    exact WF_call (WF_wpop hj) (fil_wpop hj (fnO_pos ‹_›)) (by omega)
theorem WF_addX {B : BT} (h : WFB B) (hn : fil B ≤ 39) : WFB (sAddX B) := WF_finA (WF_add h hn (by omega) (by omega) (by omega) (by omega))
theorem WF_addNum {B : BT} {d : Int} (h : WFB B) (hn : fil B ≤ 39) (hd : 0 ≤ d ∧ d ≤ 9) : WFB (sAddNum B d) := WF_finA (WF_add h hn (by omega) (by omega) (by omega) (by omega))
theorem WF_power {B : BT} {d : Int} (h : WFB B) (hn : fil B ≤ 39) (hd : 0 ≤ d ∧ d ≤ 9) : WFB (sPower B d) := by
  have hl := lTop_r h
  have h0 := h.1
  refine WF_add (WF_lpop h) hn (by omega) (by omega) ?_ (by omega)
  simp only [show bN (sLPop B) = bN B from rfl]
  omega
theorem WF_digit {B : BT} {j d : Int} (h : WFB B) (hj : at0 40 (bU B) j ≤ 99) (hd : 0 ≤ d ∧ d ≤ 9) : WFB (sDigit B j d) := by
  obtain ⟨h1, h2, h3, h4, h5, h6, h7, h8, h9⟩ := h
  have := at0_bnd (n := 40) (i := j) (P := fun v => 0 ≤ v ∧ v ≤ 999) h4 (by omega)
  exact ⟨h1, h2, h3, put0_bnd (P := fun v => 0 ≤ v ∧ v ≤ 999) h4 (by omega), h5, h6, h7, h8, h9⟩
/-- likes -/
abbrev aAl (B : BT) (i j : Int) : Prop := at0 40 (bK B) i = at0 40 (bK B) j ∧ at0 40 (bU B) i = at0 40 (bU B) j ∧ at0 40 (bE B) (at0 40 (bL B) i) = at0 40 (bE B) (at0 40 (bL B) j) ∧ at0 40 (bE B) (at0 40 (bV B) i) = at0 40 (bE B) (at0 40 (bV B) j)
def flk (B : BT) (j : Int) : Nat → Int → Int
  | 0, _ => j
  | k + 1, i => if aAl B i j then i else flk B j k (i + 1)
def flv (B : BT) (j : Int) : Int := flk B j j.toNat 0
theorem flk_step {B : BT} {j i : Int} (k : Nat) (h : ¬ aAl B i j) : flk B j (k + 1) i = flk B j k (i + 1) := by
  show (if aAl B i j then i else _) = _
  rw [if_neg h]
theorem flk_hit {B : BT} {j i : Int} (k : Nat) (h : aAl B i j) : flk B j (k + 1) i = i := by
  show (if aAl B i j then i else _) = _
  rw [if_pos h]
theorem flk_r (B : BT) {j : Int} : ∀ (k : Nat) (i : Int), 0 ≤ i → i ≤ j → i + k ≤ j → 0 ≤ flk B j k i ∧ flk B j k i ≤ j
  | 0, i, h1, h2, h3 => by show 0 ≤ j ∧ j ≤ j; omega
  | k + 1, i, h1, h2, h3 => by
    unfold flk
    split
    · omega
    · exact flk_r B k (i + 1) (by omega) (by omega) (by omega)
theorem flv_r (B : BT) {j : Int} (h : 0 ≤ j) : 0 ≤ flv B j ∧ flv B j ≤ j := flk_r B _ 0 (by omega) h (by omega)
def sLike (B : BT) (j : Int) : BT := mkB (bK B) (bU B) (bL B) (bV B) (bD B) (put0 40 (bE B) j (flv B j)) (bN B) (bZ B) (lP B) (lQ B) (wP B) (wQ B)
def cuU : Nat → BT → Int → Int → BT × Int
  | 0, B, _, u => (B, u)
  | k + 1, B, j, u => cuU k (sLike B j) (j + 1) (if flv B j = j then u + 1 else u)
def sUn (B : BT) : BT := (cuU (bN B).toNat B 0 0).1
def nUn (B : BT) : Int := (cuU (bN B).toNat B 0 0).2
theorem WF_like {B : BT} {j : Int} (h : WFB B) (hj : 0 ≤ j ∧ j ≤ 65535) : WFB (sLike B j) := by
  obtain ⟨h1, h2, h3, h4, h5, h6, h7, h8, h9⟩ := h
  have := flv_r B hj.1
  exact ⟨h1, h2, h3, h4, h5, h6, h7, put0_bnd (P := fun v => -1 ≤ v ∧ v ≤ 65535) h8 (by omega), h9⟩
