/-! the Parser as a value: builder, awaited, open, numberNode; a step: the next value, and whether it takes the sign -/
abbrev PT : Type := BT × Int × Int × Int
def pB (S : PT) : BT := S.1
def pA (S : PT) : Int := S.2.1
def pO (S : PT) : Int := S.2.2.1
def pM (S : PT) : Int := S.2.2.2
def mkP (B : BT) (a o n : Int) : PT := (B, a, o, n)
def tkA (S : PT) (c : Int) : PT × Int :=
  if 48 ≤ c ∧ c ≤ 57 then (mkP (sAddNum (pB S) (c - 48)) 3 (pO S) (bN (pB S)), 1)
  else if c = 120 then (mkP (sAddX (pB S)) 3 (pO S) (pM S), 1)
  else if c = 45 then (mkP (sWait (pB S) 110) (pA S) (pO S) (pM S), 1)
  else if c = 40 then (mkP (sWait (pB S) c) (pA S) (pO S + 1) (pM S), 1)
  else if fnO c = -1 then (S, 0)
  else (mkP (sWait (pB S) c) 1 (pO S) (pM S), 1)
def tkO (S : PT) (c : Int) : PT × Int := if c = 40 then (mkP (pB S) 0 (pO S + 1) (pM S), 1) else (S, 0)
def tkE (S : PT) (c : Int) : PT × Int := if 48 ≤ c ∧ c ≤ 57 then (mkP (sPower (pB S) (c - 48)) 4 (pO S) (pM S), 1) else (S, 0)
def tkD (S : PT) (c : Int) : PT × Int := if pM S = -1 then (S, 0) else if 1 ≤ at0 40 (bU (pB S)) (pM S) ∧ at0 40 (bU (pB S)) (pM S) ≤ 99 then (mkP (sDigit (pB S) (pM S) (c - 48)) (pA S) (pO S) (pM S), 1) else (S, 0)
def tkB (S : PT) (c : Int) : PT × Int :=
  if 48 ≤ c ∧ c ≤ 57 then tkD S c
  else if c = 94 ∧ pA S = 3 then (mkP (pB S) 2 (pO S) (-1), 1)
  else if c = 41 ∧ 0 < pO S then (mkP (sClose (pB S)) 3 (pO S - 1) (-1), 1)
  else if c = 43 ∨ c = 45 ∨ c = 42 ∨ c = 47 then (mkP (sSign (pB S) c) 0 (pO S) (-1), 1)
  else (mkP (pB S) (pA S) (pO S) (-1), 0)
def tk (S : PT) (c : Int) : PT × Int := if pA S = 0 then tkA S c else if pA S = 1 then tkO S c else if pA S = 2 then tkE S c else tkB S c
theorem lvl_ge {c : Int} (h : c = 43 ∨ c = 45 ∨ c = 42 ∨ c = 47) : 1 ≤ lvl c := by rcases h with rfl | rfl | rfl | rfl <;> decide
/-- what holds when i signs have been read -/
def WFP (i : Int) (S : PT) : Prop := WFB (pB S) ∧ fil (pB S) ≤ i ∧ (0 ≤ pA S ∧ pA S ≤ 4 ∧ 0 ≤ pO S ∧ pO S ≤ i ∧ -1 ≤ pM S ∧ pM S ≤ 40)
theorem fil_add {B : BT} {k u a b : Int} (h : fil B ≤ 39) : fil (sAdd B k u a b) ≤ fil B + 1 := by
  simp only [fil, sAdd, bN_mk, wP_mk] at h ⊢
  omega
theorem fil_wait {B : BT} {x : Int} : fil (sWait B x) ≤ fil B + 1 := by
  simp only [fil, sWait, bN_mk, wP_mk, pN]
  split <;> omega
theorem fil_lpop {B : BT} : fil (sLPop B) = fil B := rfl
theorem fil_wpop_le {B : BT} : fil (sWPop B) ≤ fil B := by
  simp only [fil, sWPop, bN_mk, wP_mk, oN]
  split <;> omega
theorem fil_wpop_eq {B : BT} (h : WFB B) (hp : 0 ≤ wTop B) : fil (sWPop B) = fil B - 1 := by
  have h0 := h.1
  have hp := wTop_pos hp
  simp only [fil, sWPop, bN_mk, wP_mk, oN]
  rw [if_pos hp]; omega
theorem fil_least {B : BT} {z : Int} : fil (sLeast B z) = fil B := rfl
theorem fil_close {B : BT} (h : WFB B) : fil (sClose B) ≤ fil B := by
  have hj := WF_joinF (v := 1) (by omega) h
  have e := fil_joinF (v := 1) (by omega) h
  have hr := fnO_r (wTop (sJoinF 1 B))
  unfold sClose
  split
  · rw [fil_finA (WF_wpop hj)]
    have := fil_wpop_le (B := sJoinF 1 B)
    omega
  · have hq := fil_wpop hj (fnO_pos ‹_›)
    have hz := fil_wpop_eq hj (fnO_pos ‹_›)
    rw [fil_finA (WF_call (WF_wpop hj) hq (by omega))]
    unfold sCall
    rw [fil_least]
    have := fil_add (B := sLPop (sWPop (sJoinF 1 B))) (k := 99) (u := fnO (wTop (sJoinF 1 B))) (a := lTop (sWPop (sJoinF 1 B))) (b := -1) (by rw [fil_lpop]; exact hq)
    rw [fil_lpop] at this
    omega
theorem WF_tkD {i : Int} {S : PT} {c : Int} (h : WFP i S) (hi : i ≤ 39) (hc : 48 ≤ c ∧ c ≤ 57) : WFP (i + 1) (tkD S c).1 := by
  obtain ⟨h1, h2, h3⟩ := h
  have hk : WFP (i + 1) S := ⟨h1, by omega, by omega⟩
  unfold tkD
  split
  · exact hk
  · split
    · refine ⟨WF_digit h1 (by omega) (by omega), ?_, ?_⟩
      · show fil (pB S) ≤ i + 1
        omega
      · simp only [mkP, pA, pO, pM] at h3 ⊢
        omega
    · exact hk
theorem WF_tk {i : Int} {S : PT} {c : Int} (h : WFP i S) (hi : i ≤ 39) (hc : 0 ≤ c ∧ c ≤ 65535) : WFP (i + 1) (tk S c).1 := by
  obtain ⟨h1, h2, h3⟩ := id h
  have h10 := h1.1
  have hf : fil (pB S) ≤ 39 := by omega
  have hff : bN (pB S) + wP (pB S) ≤ 39 := hf
  have hk : WFP (i + 1) S := ⟨h1, by omega, by omega⟩
  unfold tk
  split
  · unfold tkA
    split
    · have q := WF_addNum (d := c - 48) h1 hf (by omega)
      refine ⟨q, ?_, ?_⟩
      · show fil (sAddNum (pB S) (c - 48)) ≤ i + 1
        unfold sAddNum
        rw [fil_finA (WF_add h1 hf (by omega) (by omega) (by omega) (by omega))]
        have := fil_add (B := pB S) (k := 48) (u := c - 48) (a := -1) (b := -1) hf
        omega
      · simp only [mkP, pA, pO, pM] at h3 ⊢
        have : bN (pB S) = bN S.1 := rfl
        omega
    · split
      · refine ⟨WF_addX h1 hf, ?_, ?_⟩
        · show fil (sAddX (pB S)) ≤ i + 1
          unfold sAddX
          rw [fil_finA (WF_add h1 hf (by omega) (by omega) (by omega) (by omega))]
          have := fil_add (B := pB S) (k := 120) (u := 0) (a := -1) (b := -1) hf
          omega
        · simp only [mkP, pA, pO, pM] at h3 ⊢
          omega
      · split
        · refine ⟨WF_wait h1 (by omega) hff, ?_, ?_⟩
          · have := fil_wait (B := pB S) (x := 110)
            show fil (sWait (pB S) 110) ≤ i + 1
            omega
          · simp only [mkP, pA, pO, pM] at h3 ⊢
            omega
        · split
          · refine ⟨WF_wait h1 (by omega) hff, ?_, ?_⟩
            · have := fil_wait (B := pB S) (x := c)
              show fil (sWait (pB S) c) ≤ i + 1
              omega
            · simp only [mkP, pA, pO, pM] at h3 ⊢
              omega
          · split
            · exact hk
            · refine ⟨WF_wait h1 (by omega) hff, ?_, ?_⟩
              · have := fil_wait (B := pB S) (x := c)
                show fil (sWait (pB S) c) ≤ i + 1
                omega
              · simp only [mkP, pA, pO, pM] at h3 ⊢
                omega
  · split
    · unfold tkO
      split
      · refine ⟨h1, by show fil (pB S) ≤ i + 1; omega, ?_⟩
        simp only [mkP, pA, pO, pM] at h3 ⊢
        omega
      · exact hk
    · split
      · unfold tkE
        split
        · have q := WF_power (d := c - 48) h1 hf (by omega)
          refine ⟨q, ?_, ?_⟩
          · show fil (sPower (pB S) (c - 48)) ≤ i + 1
            unfold sPower
            have := fil_add (B := sLPop (pB S)) (k := 94) (u := c - 48) (a := lTop (pB S)) (b := -1) (by rw [fil_lpop]; exact hf)
            rw [fil_lpop] at this
            omega
          · simp only [mkP, pA, pO, pM] at h3 ⊢
            omega
        · exact hk
      · unfold tkB
        split
        · exact WF_tkD h hi ‹_›
        · split
          · refine ⟨h1, by show fil (pB S) ≤ i + 1; omega, ?_⟩
            simp only [mkP, pA, pO, pM] at h3 ⊢
            omega
          · split
            · refine ⟨WF_close h1, ?_, ?_⟩
              · have := fil_close h1
                show fil (sClose (pB S)) ≤ i + 1
                omega
              · simp only [mkP, pA, pO, pM] at *
                omega
            · split
              · have hl : 1 ≤ lvl c := lvl_ge (by omega)
                have hj := WF_joinF hl h1
                have ej := fil_joinF hl h1
                have ejj : bN (sJoinF (lvl c) (pB S)) + wP (sJoinF (lvl c) (pB S)) ≤ 39 := by
                  have : fil (sJoinF (lvl c) (pB S)) = bN (sJoinF (lvl c) (pB S)) + wP (sJoinF (lvl c) (pB S)) := rfl
                  omega
                refine ⟨WF_wait hj (by omega) ejj, ?_, ?_⟩
                · have := fil_wait (B := sJoinF (lvl c) (pB S)) (x := c)
                  show fil (sWait (sJoinF (lvl c) (pB S)) c) ≤ i + 1
                  omega
                · simp only [mkP, pA, pO, pM] at h3 ⊢
                  omega
              · refine ⟨h1, by show fil (pB S) ≤ i + 1; omega, ?_⟩
                simp only [mkP, pA, pO, pM] at h3 ⊢
                omega
/-- the reading of a text: signs f, from place i on, k of them left; -2: all are taken -/
def feL (f : Nat → Int) : Nat → Int → PT → PT × Int
  | 0, _, S => (S, -2)
  | k + 1, i, S => if (tk S (f i.toNat)).2 = 0 then ((tk S (f i.toNat)).1, i) else feL f k (i + 1) (tk S (f i.toNat)).1
def feZ (n : Int) (q : PT × Int) : PT × Int := if q.2 = -2 then (if 0 < pO q.1 ∨ (¬ pA q.1 = 3 ∧ ¬ pA q.1 = 4) then (q.1, n) else (mkP (sJoinF 1 (pB q.1)) (pA q.1) (pO q.1) (pM q.1), -1)) else q
def fe0 (B : BT) : PT := mkP (sClear B) 0 0 (-1)
def fe (B : BT) (f : Nat → Int) (n : Int) : PT × Int := feZ n (feL f n.toNat 0 (fe0 B))
theorem WF_fe0 {B : BT} (h : WFB B) : WFP 0 (fe0 B) := ⟨WF_clear h, (by show (0 : Int) + 0 ≤ 0; decide), (by show (0 : Int) ≤ 0 ∧ (0 : Int) ≤ 4 ∧ (0 : Int) ≤ 0 ∧ (0 : Int) ≤ 0 ∧ -1 ≤ (-1 : Int) ∧ (-1 : Int) ≤ 40; decide)⟩
theorem tk_01 (S : PT) (c : Int) : (tk S c).2 = 0 ∨ (tk S c).2 = 1 := by
  unfold tk tkA tkO tkE tkB tkD
  repeat' split
  all_goals first | exact Or.inl rfl | exact Or.inr rfl
theorem feL_stop {f : Nat → Int} {k : Nat} {i : Int} {S : PT} (h : (tk S (f i.toNat)).2 = 0) : feL f (k + 1) i S = ((tk S (f i.toNat)).1, i) := by
  show (if (tk S (f i.toNat)).2 = 0 then _ else _) = _
  rw [if_pos h]
theorem feL_step {f : Nat → Int} {k : Nat} {i : Int} {S : PT} (h : ¬ (tk S (f i.toNat)).2 = 0) : feL f (k + 1) i S = feL f k (i + 1) (tk S (f i.toNat)).1 := by
  show (if (tk S (f i.toNat)).2 = 0 then _ else _) = _
  rw [if_neg h]
theorem tkD_01 (S : PT) (c : Int) : (tkD S c).2 = 0 ∨ (tkD S c).2 = 1 := by
  unfold tkD
  repeat' split
  all_goals first | exact Or.inl rfl | exact Or.inr rfl
theorem tkA_01 (S : PT) (c : Int) : (tkA S c).2 = 0 ∨ (tkA S c).2 = 1 := by
  unfold tkA
  repeat' split
  all_goals first | exact Or.inl rfl | exact Or.inr rfl
theorem tkO_01 (S : PT) (c : Int) : (tkO S c).2 = 0 ∨ (tkO S c).2 = 1 := by
  unfold tkO
  repeat' split
  all_goals first | exact Or.inl rfl | exact Or.inr rfl
theorem tkE_01 (S : PT) (c : Int) : (tkE S c).2 = 0 ∨ (tkE S c).2 = 1 := by
  unfold tkE
  repeat' split
  all_goals first | exact Or.inl rfl | exact Or.inr rfl
theorem tkB_01 (S : PT) (c : Int) : (tkB S c).2 = 0 ∨ (tkB S c).2 = 1 := by
  unfold tkB tkD
  repeat' split
  all_goals first | exact Or.inl rfl | exact Or.inr rfl
