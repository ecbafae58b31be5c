/-! the states that define and setModulus make -/
def setF (F : FT) (sb : Nat) (u : Int) (x : Nat) (k : Nat → Nat) (E : EX) (d un lz : Int) : FT :=
  (sb, fR F, fun f => if u = (f : Int) then x else fX F f, fun f i => if u = (f : Int) then k i else fK F f i, fun f => if u = (f : Int) then E else fE F f, fun f => if u = (f : Int) then d else fD F f, fun f => if u = (f : Int) then un else fU F f, fun f => if u = (f : Int) then lz else fL F f, fP F)
def setP (F : FT) (sb rb : Nat) (p : Int) : FT := (sb, rb, fX F, fK F, fE F, fD F, fU F, fL F, p)
theorem setF_E {F : FT} {sb x : Nat} {u : Int} {k : Nat → Nat} {E : EX} {d un lz : Int} {f : Nat} : fE (setF F sb u x k E d un lz) f = if u = (f : Int) then E else fE F f := rfl
def nstW (F : FT) (sb : Nat) (u : Int) (x : Nat) : Nat × va_E := (sb, .inr (7, [.ref (fR F), .ref (if u = 0 then x else fX F 0), .ref (if u = 1 then x else fX F 1), .ref (if u = 2 then x else fX F 2), .ref (if u = 3 then x else fX F 3)]))
def expW (g : GG) (x : Nat) (k : Nat → Nat) (E : EX) (d un lz : Int) : va_W := [(x, .inr (1, [.ref (k 1), .ref (k 2), .ref (k 3), .ref (k 4), .int (iI d), .int (iI un), .int (iI lz)])), (k 1, gI g (eN E) (eK E)), (k 2, gI g (eN E) (eU E)), (k 3, gI g (eN E) (eL E)), (k 4, gI g (eN E) (eV E))]
theorem exW_set {g : GG} {F : FT} {sb x : Nat} {u : Int} {k : Nat → Nat} {E : EX} {d un lz : Int} {f : Nat} : exW g (setF F sb u x k E d un lz) f = if u = (f : Int) then expW g x k E d un lz else exW g F f := by
  by_cases h : u = (f : Int)
  · rw [if_pos h]
    simp only [exW, expW, setF, fX, fK, fE, fD, fU, fL, if_pos h]
  · rw [if_neg h]
    simp only [exW, setF, fX, fK, fE, fD, fU, fL, if_neg h]
theorem FX_set {g : GG} {F : FT} {sb x : Nat} {u : Int} {k : Nat → Nat} {E : EX} {d un lz : Int} {H : Heap} (h : FX g F H) (h1 : va_P g.1 vwCl [nstW F sb u x] H) (h2 : va_P g.1 vwCl (expW g x k E d un lz) H) : FX g (setF F sb u x k E d un lz) H := by
  refine ⟨fun i q hi => ?_, fun f hf => ?_⟩
  · match i, hi with
    | 0, hi => exact h1 0 q hi
    | 1, hi => exact h.1 1 q hi
    | i + 2, hi => simp [stW] at hi
  · rw [exW_set]
    split
    · exact h2
    · exact h.2 f hf
theorem FX_setP {g : GG} {F : FT} {sb rb : Nat} {p : Int} {H : Heap} (h : FX g F H) (h1 : va_P g.1 vwCl [(sb, .inr (7, [.ref rb, .ref (fX F 0), .ref (fX F 1), .ref (fX F 2), .ref (fX F 3)])), (rb, .inr (6, [.int (iI p)]))] H) : FX g (setP F sb rb p) H := ⟨h1, h.2⟩
theorem GF_set {F : FT} {sb x : Nat} {u : Int} {k : Nat → Nat} {E : EX} {d un lz : Int} (h : GF F) (h1 : WFE E u.toNat) : GF (setF F sb u x k E d un lz) := by
  obtain ⟨g1, g2⟩ := h
  refine ⟨g1, fun f hf => ?_⟩
  rw [setF_E]
  split
  · rw [show f = u.toNat by omega]; exact h1
  · exact g2 f hf
theorem GF_setP {F : FT} {sb rb : Nat} {p : Int} (h : GF F) (hp : PRM p) : GF (setP F sb rb p) := ⟨hp, h.2⟩
theorem RI_fresh {F : FT} {a b c d e f : Nat → Int} (hp : fP F ≤ 199) : RI F (mkR (fillf 796 (-2) a) (fillf 796 (-2) b) (fillf 796 (-2) c) d e f) := by
  intro u x h1 h2 h3 h4
  have hi : (u * 199 + x).toNat < 796 := by omega
  exact ⟨Or.inl (if_pos hi), Or.inl (if_pos hi), Or.inl (if_pos hi)⟩
/-- primes, as both try them -/
theorem prU_char {n : Int} : ∀ (k : Nat) (d : Int), n ≤ d + k → (prU n k d = 1 ↔ (2 ≤ n ∧ ∀ e, d ≤ e → e < n → ¬ n % e = 0)) ∧ (prU n k d = 0 ∨ prU n k d = 1)
  | 0, d, h => by
    show ((if 2 ≤ n then (1 : Int) else 0) = 1 ↔ _) ∧ ((if 2 ≤ n then (1 : Int) else 0) = 0 ∨ (if 2 ≤ n then (1 : Int) else 0) = 1)
    by_cases z : 2 ≤ n
    · rw [if_pos z]; exact ⟨⟨fun _ => ⟨z, fun e a b => by omega⟩, fun _ => rfl⟩, Or.inr rfl⟩
    · rw [if_neg z]; exact ⟨⟨fun y => by omega, fun y => absurd y.1 z⟩, Or.inl rfl⟩
  | k + 1, d, h => by
    show ((if d < n then (if n % d = 0 then 0 else prU n k (d + 1)) else (if 2 ≤ n then (1 : Int) else 0)) = 1 ↔ _) ∧ ((if d < n then (if n % d = 0 then 0 else prU n k (d + 1)) else (if 2 ≤ n then (1 : Int) else 0)) = 0 ∨ (if d < n then (if n % d = 0 then 0 else prU n k (d + 1)) else (if 2 ≤ n then (1 : Int) else 0)) = 1)
    by_cases y : d < n
    · rw [if_pos y]
      by_cases w : n % d = 0
      · rw [if_pos w]
        exact ⟨⟨fun z => by omega, fun z => absurd w (z.2 d (Int.le_refl d) y)⟩, Or.inl rfl⟩
      · rw [if_neg w]
        have ih := prU_char (n := n) k (d + 1) (by omega)
        refine ⟨⟨fun z => ?_, fun z => ih.1.mpr ⟨z.1, fun e a b => z.2 e (by omega) b⟩⟩, ih.2⟩
        have q := ih.1.mp z
        refine ⟨q.1, fun e a b => ?_⟩
        by_cases v : e = d
        · rw [v]; exact w
        · exact q.2 e (by omega) b
    · rw [if_neg y]
      by_cases z : 2 ≤ n
      · rw [if_pos z]; exact ⟨⟨fun _ => ⟨z, fun e a b => by omega⟩, fun _ => rfl⟩, Or.inr rfl⟩
      · rw [if_neg z]; exact ⟨⟨fun y => by omega, fun y => absurd y.1 z⟩, Or.inl rfl⟩
theorem prU_PRM {p : Int} (h : prU p 198 2 = 1) (hp : p ≤ 199) : PRM p := by
  have q := ((prU_char 198 2 (by omega)).1.mp h)
  exact ⟨q.1, hp, q.2⟩
theorem fzA_set {F : FT} {sb x : Nat} {u : Int} {k : Nat → Nat} {E : EX} {d un lz : Int} {q : Nat} (h : fzA (setF F sb u x k E d un lz) q) : fzA F q ∨ q = sb ∨ q = x ∨ q = k 1 ∨ q = k 2 ∨ q = k 3 ∨ q = k 4 := by
  rcases h with h | h | ⟨f, hf, h⟩
  · exact Or.inr (Or.inl h)
  · exact Or.inl (Or.inr (Or.inl h))
  · by_cases e : u = (f : Int)
    · simp only [setF, fX, fK, if_pos e] at h
      omega
    · simp only [setF, fX, fK, if_neg e] at h
      exact Or.inl (Or.inr (Or.inr ⟨f, hf, h⟩))
theorem fzA_setP {F : FT} {sb rb : Nat} {p : Int} {q : Nat} (h : fzA (setP F sb rb p) q) : fzA F q ∨ q = sb ∨ q = rb := by
  rcases h with h | h | ⟨f, hf, h⟩
  · exact Or.inr (Or.inl h)
  · exact Or.inr (Or.inr h)
  · exact Or.inl (Or.inr (Or.inr ⟨f, hf, h⟩))
