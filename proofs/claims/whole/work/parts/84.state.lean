/-! the two states side by side: what an action makes of them -/
theorem gzs_hd {N : NT} {Z : Nat → Int} {u : Int} (hu : 0 ≤ u) : ∀ k : Nat, gzs N Z u k (1 + 81 * u).toNat = nN N
  | 0 => up_s
  | k + 1 => by
    show up (up (gzs N Z u k) (2 + 81 * u + 2 * (k : Int)).toNat _) (3 + 81 * u + 2 * (k : Int)).toNat _ (1 + 81 * u).toNat = _
    rw [up_n (by omega), up_n (by omega)]
    exact gzs_hd hu k
theorem gzs_k {N : NT} {Z : Nat → Int} {u : Int} (hu : 0 ≤ u) {i : Nat} : ∀ k : Nat, i < k → gzs N Z u k (2 + 81 * u + 2 * (i : Int)).toNat = if (i : Int) < nN N then nK N i else 0
  | 0, h => absurd h (Nat.not_lt_zero _)
  | k + 1, h => by
    show up (up (gzs N Z u k) (2 + 81 * u + 2 * (k : Int)).toNat _) (3 + 81 * u + 2 * (k : Int)).toNat _ (2 + 81 * u + 2 * (i : Int)).toNat = _
    rw [up_n (by omega)]
    by_cases e : i = k
    · subst e; exact up_s
    · rw [up_n (by omega)]
      exact gzs_k hu k (by omega)
theorem gzs_u {N : NT} {Z : Nat → Int} {u : Int} (hu : 0 ≤ u) {i : Nat} : ∀ k : Nat, i < k → gzs N Z u k (3 + 81 * u + 2 * (i : Int)).toNat = if (i : Int) < nN N then nU N i else 0
  | 0, h => absurd h (Nat.not_lt_zero _)
  | k + 1, h => by
    show up (up (gzs N Z u k) (2 + 81 * u + 2 * (k : Int)).toNat _) (3 + 81 * u + 2 * (k : Int)).toNat _ (3 + 81 * u + 2 * (i : Int)).toNat = _
    by_cases e : i = k
    · subst e; exact up_s
    · rw [up_n (by omega), up_n (by omega)]
      exact gzs_u hu k (by omega)
theorem gzs_o {N : NT} {Z : Nat → Int} {u : Int} {j : Nat} (hj : (j : Int) < 1 + 81 * u ∨ 81 + 81 * u < j) (hu : 0 ≤ u) : ∀ k : Nat, k ≤ 40 → gzs N Z u k j = Z j
  | 0, _ => up_n (by omega)
  | k + 1, h => by
    show up (up (gzs N Z u k) (2 + 81 * u + 2 * (k : Int)).toNat _) (3 + 81 * u + 2 * (k : Int)).toNat _ j = _
    rw [up_n (by omega), up_n (by omega)]
    exact gzs_o hj hu k (by omega)
/-- the states that define and copy, and setModulus, make -/
def setF (F : FT) (sb : Nat) (u : Int) (x : Nat) (k : Nat → Nat) (E : EX) (d un lz : Int) : FT :=
  (sb, fR F, fun f => if u = (f : Int) then x else fX F f, fun f i => if u = (f : Int) then k i else fK F f i, fun f => if u = (f : Int) then E else fE F f, fun f => if u = (f : Int) then d else fD F f, fun f => if u = (f : Int) then un else fU F f, fun f => if u = (f : Int) then lz else fL F f, fP F)
def setP (F : FT) (sb rb : Nat) (p : Int) : FT := (sb, rb, fX F, fK F, fE F, fD F, fU F, fL F, p)
theorem setF_E {F : FT} {sb x : Nat} {u : Int} {k : Nat → Nat} {E : EX} {d un lz : Int} {f : Nat} : fE (setF F sb u x k E d un lz) f = if u = (f : Int) then E else fE F f := rfl
def nstW (F : FT) (sb : Nat) (u : Int) (x : Nat) : Nat × va_E := (sb, .inr (7, [.ref (fR F), .ref (if u = 0 then x else fX F 0), .ref (if u = 1 then x else fX F 1), .ref (if u = 2 then x else fX F 2), .ref (if u = 3 then x else fX F 3)]))
def expW (g : GG) (x : Nat) (k : Nat → Nat) (E : EX) (d un lz : Int) : va_W := [(x, .inr (1, [.ref (k 1), .ref (k 2), .ref (k 3), .ref (k 4), .int (iI d), .int (iI un), .int (iI lz)])), (k 1, gI g (eN E) (eK E)), (k 2, gI g (eN E) (eU E)), (k 3, gI g (eN E) (eL E)), (k 4, gI g (eN E) (eV E))]
theorem exW_set {g : GG} {F : FT} {sb x : Nat} {u : Int} {k : Nat → Nat} {E : EX} {d un lz : Int} {f : Nat} : exW g (setF F sb u x k E d un lz) f = if u = (f : Int) then expW g x k E d un lz else exW g F f := by
  by_cases h : u = (f : Int)
  · rw [if_pos h]
    simp only [exW, expW, setF, fX, fK, fE, fD, fU, fL, if_pos h]
  · rw [if_neg h]
    simp only [exW, setF, fX, fK, fE, fD, fU, fL, if_neg h]
theorem FX_set {g : GG} {F : FT} {sb x : Nat} {u : Int} {k : Nat → Nat} {E : EX} {d un lz : Int} {H : Heap} (h : FX g F H) (h1 : va_P g.1 vwCl [nstW F sb u x] H) (h2 : va_P g.1 vwCl (expW g x k E d un lz) H) : FX g (setF F sb u x k E d un lz) H := by
  refine ⟨fun i q hi => ?_, fun f hf => ?_⟩
  · match i, hi with
    | 0, hi => exact h1 0 q hi
    | 1, hi => exact h.1 1 q hi
    | i + 2, hi => simp [stW] at hi
  · rw [exW_set]
    split
    · exact h2
    · exact h.2 f hf
theorem FX_setP {g : GG} {F : FT} {sb rb : Nat} {p : Int} {H : Heap} (h : FX g F H) (h1 : va_P g.1 vwCl [(sb, .inr (7, [.ref rb, .ref (fX F 0), .ref (fX F 1), .ref (fX F 2), .ref (fX F 3)])), (rb, .inr (6, [.int (iI p)]))] H) : FX g (setP F sb rb p) H := ⟨h1, h.2⟩
theorem GI_set {F : FT} {sb x : Nat} {u : Int} {k : Nat → Nat} {E : EX} {d un lz : Int} (h : GI F) (h1 : WFE E u.toNat) (h2 : LKP E) (h3 : EOK E d un lz) : GI (setF F sb u x k E d un lz) := by
  obtain ⟨⟨g1, g2⟩, g3, g4⟩ := h
  refine ⟨⟨g1, fun f hf => ?_⟩, fun f hf => ?_, fun f hf => ?_⟩
  · rw [setF_E]
    split
    · rw [show f = u.toNat by omega]; exact h1
    · exact g2 f hf
  · rw [setF_E]
    split
    · exact h2
    · exact g3 f hf
  · by_cases e : u = (f : Int)
    · simp only [setF, fE, fD, fU, fL, if_pos e]; exact h3
    · simp only [setF, fE, fD, fU, fL, if_neg e]; exact g4 f hf
theorem GI_setP {F : FT} {sb rb : Nat} {p : Int} (h : GI F) (hp : PRM p) : GI (setP F sb rb p) := ⟨⟨hp, h.1.2⟩, h.2.1, h.2.2⟩
theorem ZR_set {F : FT} {Z : Nat → Int} {N : NT} {sb x : Nat} {u : Int} {k : Nat → Nat} {E : EX} {d un lz : Int} (hG : GF F) (hz : ZR Z F) (hu : 0 ≤ u ∧ u < 4) (hE : eN E ≤ 40) (hn : nN N = ((eN E : Nat) : Int)) (hk : ∀ i : Nat, i < eN E → nK N i = kc (eK E i) ∧ nU N i = eU E i) : ZR (gzs N Z u 40) (setF F sb u x k E d un lz) := by
  refine ⟨?_, fun v hv => ?_⟩
  · rw [gzs_o (by omega) hu.1 40 (by omega)]
    exact hz.1
  · rw [setF_E]
    by_cases e : u = v
    · subst e
      rw [if_pos (by omega)]
      refine ⟨by rw [gzs_hd hu.1, hn], fun i hi => ?_⟩
      have q := hk i.toNat (by omega)
      have a := gzs_k (N := N) (Z := Z) hu.1 (i := i.toNat) 40 (by omega)
      have b := gzs_u (N := N) (Z := Z) hu.1 (i := i.toNat) 40 (by omega)
      rw [show ((i.toNat : Nat) : Int) = i by omega] at a b
      rw [a, b, if_pos (by omega), if_pos (by omega)]
      exact q
    · rw [if_neg (by omega)]
      have z := hz.2 v hv
      have h40 := (hG.2 v.toNat (by omega)).1
      refine ⟨by rw [gzs_o (by omega) hu.1 40 (by omega)]; exact z.1, fun i hi => ?_⟩
      rw [gzs_o (by omega) hu.1 40 (by omega), gzs_o (by omega) hu.1 40 (by omega)]
      exact z.2 i hi
theorem ZR_setP {F : FT} {Z : Nat → Int} {sb rb : Nat} {p : Int} (hz : ZR Z F) : ZR (up Z 0 p) (setP F sb rb p) := by
  refine ⟨up_s, fun v hv => ?_⟩
  have z := hz.2 v hv
  refine ⟨by rw [up_n (by omega)]; exact z.1, fun i hi => ?_⟩
  rw [up_n (by omega), up_n (by omega)]
  exact z.2 i hi
theorem ZR_congr {F : FT} {Z Y : Nat → Int} (hG : GF F) (hz : ZR Z F) (h : ∀ j, j < 325 → Y j = Z j) : ZR Y F := by
  refine ⟨by rw [h 0 (by omega)]; exact hz.1, fun v hv => ?_⟩
  have z := hz.2 v hv
  have h40 := (hG.2 v.toNat (by omega)).1
  refine ⟨by rw [h _ (by omega)]; exact z.1, fun i hi => ?_⟩
  rw [h _ (by omega), h _ (by omega)]
  exact z.2 i hi
/-- nothing is known in fresh tables -/
theorem RI_fresh {F : FT} {a b c d e f : Nat → Int} (hp : fP F ≤ 199) : RI F (mkR (fillf 796 (-2) a) (fillf 796 (-2) b) (fillf 796 (-2) c) d e f) := by
  intro u x h1 h2 h3 h4
  have hi : (u * 199 + x).toNat < 796 := by omega
  exact ⟨Or.inl (if_pos hi), Or.inl (if_pos hi), Or.inl (if_pos hi)⟩
/-- primes, as both try them -/
theorem prU_char {n : Int} : ∀ (k : Nat) (d : Int), n ≤ d + k → (prU n k d = 1 ↔ (2 ≤ n ∧ ∀ e, d ≤ e → e < n → ¬ n % e = 0)) ∧ (prU n k d = 0 ∨ prU n k d = 1)
  | 0, d, h => by
    show ((if 2 ≤ n then (1 : Int) else 0) = 1 ↔ _) ∧ ((if 2 ≤ n then (1 : Int) else 0) = 0 ∨ (if 2 ≤ n then (1 : Int) else 0) = 1)
    by_cases z : 2 ≤ n
    · rw [if_pos z]; exact ⟨⟨fun _ => ⟨z, fun e a b => by omega⟩, fun _ => rfl⟩, Or.inr rfl⟩
    · rw [if_neg z]; exact ⟨⟨fun y => by omega, fun y => absurd y.1 z⟩, Or.inl rfl⟩
  | k + 1, d, h => by
    show ((if d < n then (if n % d = 0 then 0 else prU n k (d + 1)) else (if 2 ≤ n then (1 : Int) else 0)) = 1 ↔ _) ∧ ((if d < n then (if n % d = 0 then 0 else prU n k (d + 1)) else (if 2 ≤ n then (1 : Int) else 0)) = 0 ∨ (if d < n then (if n % d = 0 then 0 else prU n k (d + 1)) else (if 2 ≤ n then (1 : Int) else 0)) = 1)
    by_cases y : d < n
    · rw [if_pos y]
      by_cases w : n % d = 0
      · rw [if_pos w]
        exact ⟨⟨fun z => by omega, fun z => absurd w (z.2 d (Int.le_refl d) y)⟩, Or.inl rfl⟩
      · rw [if_neg w]
        have ih := prU_char (n := n) k (d + 1) (by omega)
        refine ⟨⟨fun z => ?_, fun z => ih.1.mpr ⟨z.1, fun e a b => z.2 e (by omega) b⟩⟩, ih.2⟩
        have q := ih.1.mp z
        refine ⟨q.1, fun e a b => ?_⟩
        by_cases v : e = d
        · rw [v]; exact w
        · exact q.2 e (by omega) b
    · rw [if_neg y]
      by_cases z : 2 ≤ n
      · rw [if_pos z]; exact ⟨⟨fun _ => ⟨z, fun e a b => by omega⟩, fun _ => rfl⟩, Or.inr rfl⟩
      · rw [if_neg z]; exact ⟨⟨fun y => by omega, fun y => absurd y.1 z⟩, Or.inl rfl⟩
theorem isp_char {v : Int} : ∀ (k : Nat) (d b : Int), b = 0 ∨ b = 1 → (isp v k d b = 1 ↔ (b = 1 ∧ ∀ e, d ≤ e → e < d + k → 0 < v % e))
  | 0, d, b, _ => by
    show b = 1 ↔ _
    exact ⟨fun h => ⟨h, fun e a c => by omega⟩, fun h => h.1⟩
  | k + 1, d, b, hb => by
    show isp v k (d + 1) (if ¬ b = 0 ∧ 0 < v % d then 1 else 0) = 1 ↔ _
    have ih := isp_char (v := v) k (d + 1) (if ¬ b = 0 ∧ 0 < v % d then 1 else 0) (by split <;> simp)
    rw [ih]
    constructor
    · rintro ⟨h1, h2⟩
      by_cases z : ¬ b = 0 ∧ 0 < v % d
      · refine ⟨by omega, fun e a c => ?_⟩
        by_cases y : e = d
        · rw [y]; exact z.2
        · exact h2 e (by omega) (by omega)
      · rw [if_neg z] at h1; omega
    · rintro ⟨h1, h2⟩
      refine ⟨if_pos ⟨by omega, h2 d (Int.le_refl d) (by omega)⟩, fun e a c => h2 e (by omega) (by omega)⟩
theorem prU_PRM {p : Int} (h : prU p 198 2 = 1) (hp : p ≤ 199) : PRM p := by
  have q := ((prU_char 198 2 (by omega)).1.mp h)
  exact ⟨q.1, hp, q.2⟩
theorem prU_isp {p : Int} (hp : 2 ≤ p ∧ p ≤ 199) : prU p 198 2 = 1 ↔ isp p (p - 2).toNat 2 1 = 1 := by
  rw [(prU_char 198 2 (by omega)).1, isp_char (p - 2).toNat 2 1 (Or.inr rfl)]
  constructor
  · rintro ⟨-, h⟩
    refine ⟨rfl, fun e a c => ?_⟩
    have := h e a (by omega)
    have := Int.emod_nonneg p (b := e) (by omega)
    omega
  · rintro ⟨-, h⟩
    refine ⟨hp.1, fun e a c => ?_⟩
    have := h e a (by omega)
    omega
/-- what is recorded -/
def hnx (n : Int) (Fh : Nat → FT) (F : FT) : Nat → FT := fun k => if n < 4 then (if (k : Int) = n then F else Fh k) else (if k < 3 then Fh (k + 1) else F)
def HR (n : Int) (f : Nat → Option Nat) (P : Nat → Int) (Fh : Nat → FT) (Fam : FT → Prop) : Prop := (0 ≤ n ∧ n ≤ 4) ∧ ∀ k : Nat, (k : Int) < n → f k = some (fS (Fh k)) ∧ Fam (Fh k) ∧ GI (Fh k) ∧ ZR (fun j => P (325 * k + j)) (Fh k)
theorem HR_rec {n : Int} {f : Nat → Option Nat} {P Z : Nat → Int} {Fh : Nat → FT} {F : FT} {Fam : FT → Prop} (h : HR n f P Fh Fam) (hF : Fam F) (hG : GI F) (hz : ZR Z F) : HR (if n < 4 then n + 1 else 4) (rec4 n f (fS F)) (recM n P Z) (hnx n Fh F) Fam := by
  obtain ⟨h0, h⟩ := h
  by_cases hn : n < 4
  · rw [if_pos hn]
    refine ⟨by omega, fun k hk => ?_⟩
    have er : rec4 n f (fS F) = up f n.toNat (some (fS F)) := if_pos hn
    have em : recM n P Z = cpo Z P (325 * n).toNat 325 := if_neg (by omega)
    have eh : hnx n Fh F k = if (k : Int) = n then F else Fh k := if_pos hn
    rw [er, em, eh]
    by_cases e : (k : Int) = n
    · rw [if_pos e]
      refine ⟨?_, hF, hG, ZR_congr hG.1 hz (fun j hj => ?_)⟩
      · rw [show k = n.toNat by omega]; exact up_s
      · unfold cpo
        rw [if_pos (by omega), show 325 * k + j - (325 * n).toNat = j by omega]
    · rw [if_neg e]
      have q := h k (by omega)
      refine ⟨by rw [up_n (by omega)]; exact q.1, q.2.1, q.2.2.1, ZR_congr q.2.2.1.1 q.2.2.2 (fun j hj => ?_)⟩
      unfold cpo
      rw [if_neg (by omega)]
  · rw [if_neg hn]
    refine ⟨by omega, fun k hk => ?_⟩
    have er : rec4 n f (fS F) = up (dn3 f) 3 (some (fS F)) := if_neg hn
    have em : recM n P Z = cpo Z (shf P 975) 975 325 := if_pos (by omega)
    have eh : hnx n Fh F k = if k < 3 then Fh (k + 1) else F := if_neg hn
    rw [er, em, eh]
    by_cases e : k < 3
    · rw [if_pos e]
      have q := h (k + 1) (by omega)
      refine ⟨?_, q.2.1, q.2.2.1, ZR_congr q.2.2.1.1 q.2.2.2 (fun j hj => ?_)⟩
      · rw [up_n (by omega)]
        unfold dn3
        rw [if_pos e]
        exact q.1
      · unfold cpo shf
        rw [if_neg (by omega), if_pos (by omega), show 325 * k + j + 325 = 325 * (k + 1) + j by omega]
    · rw [if_neg e]
      refine ⟨?_, hF, hG, ZR_congr hG.1 hz (fun j hj => ?_)⟩
      · rw [show k = 3 by omega]; exact up_s
      · unfold cpo
        rw [if_pos (by omega), show 325 * k + j - 975 = j by omega]
theorem HR_pop {n : Int} {f : Nat → Option Nat} {P : Nat → Int} {Fh : Nat → FT} {Fam : FT → Prop} (h : HR n f P Fh Fam) (hn : 0 < n) : HR (n - 1) f P Fh Fam := ⟨by have := h.1; omega, fun k hk => h.2 k (by omega)⟩
theorem HR_fam {n : Int} {f : Nat → Option Nat} {P : Nat → Int} {Fh : Nat → FT} {Fam Fam' : FT → Prop} (h : HR n f P Fh Fam) (hf : ∀ F, Fam F → Fam' F) : HR n f P Fh Fam' := ⟨h.1, fun k hk => ⟨(h.2 k hk).1, hf _ (h.2 k hk).2.1, (h.2 k hk).2.2⟩⟩
/-- an expression taken by the reference -/
theorem tk_K {N : NT} {Z : Nat → Int} {F : FT} {w : Int} (hz : ZR Z F) (hw : 0 ≤ w ∧ w < 4) : nN (mTake N Z w) = ((eN (fE F w.toNat) : Nat) : Int) ∧ ∀ i : Nat, i < eN (fE F w.toNat) → nK (mTake N Z w) i = kc (eK (fE F w.toNat) i) ∧ nU (mTake N Z w) i = eU (fE F w.toNat) i := by
  have z := hz.2 w hw
  refine ⟨z.1, fun i hi => ?_⟩
  have q := z.2 (i : Int) (by omega)
  rw [show ((i : Int)).toNat = i by omega] at q
  show tkf Z (2 + 81 * w) (nK N) (Z (1 + 81 * w).toNat).toNat i = _ ∧ tkf Z (3 + 81 * w) (nU N) (Z (1 + 81 * w).toNat).toNat i = _
  unfold tkf
  rw [if_pos (by omega), if_pos (by omega)]
  exact q
theorem kc_r (K : Int) : 0 ≤ kc K ∧ kc K ≤ 9 := by
  unfold kc
  repeat' split
  all_goals omega
theorem WZ_take {N : NT} {Z : Nat → Int} {F : FT} {w : Int} (hZ : WZ N) (hG : GF F) (hz : ZR Z F) (hw : 0 ≤ w ∧ w < 4) : WZ (mTake N Z w) := by
  have q := tk_K (N := N) hz hw
  have z := (hz.2 w hw).1
  have hE := hG.2 w.toNat (by omega)
  refine ⟨hZ.1, fun j => ?_, fun j => ?_, hZ.2.2.2⟩
  · by_cases e : j < eN (fE F w.toNat)
    · rw [(q.2 j e).1]
      have := kc_r (eK (fE F w.toNat) j)
      omega
    · show 0 ≤ tkf Z (2 + 81 * w) (nK N) (Z (1 + 81 * w).toNat).toNat j ∧ tkf Z (2 + 81 * w) (nK N) (Z (1 + 81 * w).toNat).toNat j ≤ 999
      unfold tkf
      rw [if_neg (by omega)]
      exact hZ.2.1 j
  · by_cases e : j < eN (fE F w.toNat)
    · rw [(q.2 j e).2]
      have := WFK_U (hE.2.1 j e) (by omega)
      omega
    · show 0 ≤ tkf Z (3 + 81 * w) (nU N) (Z (1 + 81 * w).toNat).toNat j ∧ tkf Z (3 + 81 * w) (nU N) (Z (1 + 81 * w).toNat).toNat j ≤ 999
      unfold tkf
      rw [if_neg (by omega)]
      exact hZ.2.2.1 j
theorem mLe_E {N : NT} {E : EX} (hn : nN N = ((eN E : Nat) : Int)) (hk : ∀ i : Nat, i < eN E → nK N i = kc (eK E i) ∧ nU N i = eU E i) : mLe N = leE E := by
  unfold mLe leE
  rw [hn, show (((eN E : Nat) : Int)).toNat = eN E by omega]
  exact lea_congr _ 0 0 (by omega) (fun j a b => ⟨(hk j (by omega)).1, fun _ => (hk j (by omega)).2⟩)
theorem Good_E {B : BT} {N : NT} (h : Good B N) : nN N = ((eN (EB B) : Nat) : Int) ∧ (∀ i : Nat, i < eN (EB B) → nK N i = kc (eK (EB B) i) ∧ nU N i = eU (EB B) i) ∧ mLe N = bZ B ∧ eN (EB B) ≤ 40 := by
  obtain ⟨⟨h1, h2⟩, h3, h4, h5⟩ := h
  have t1 := h3.1
  have e1 : nN N = ((eN (EB B) : Nat) : Int) := by
    show nN N = (((bN B).toNat : Nat) : Int)
    omega
  have e2 : ∀ i : Nat, i < eN (EB B) → nK N i = kc (eK (EB B) i) ∧ nU N i = eU (EB B) i := fun i hi => h2 i (by have : i < (bN B).toNat := hi; omega)
  refine ⟨e1, e2, ?_, by show (bN B).toNat ≤ 40; omega⟩
  rw [mLe_E e1 e2]
  exact h4.symm
theorem GI_leE {F : FT} (h : GI F) {f : Nat} (hf : f < 4) : fL F f = leE (fE F f) ∧ fD F f = mxs (fE F f) (eN (fE F f)) ∧ fU F f = nus (fE F f) (eN (fE F f)) := ⟨(h.2.2 f hf).2.2, (h.2.2 f hf).1, (h.2.2 f hf).2.1⟩
theorem leE_r {E : EX} {f : Nat} (h : WFE E f) (hf : f < 5) : 0 ≤ leE E ∧ leE E ≤ 1000 := by
  have q : ∀ (k : Nat) (i l : Int), 0 ≤ i → i + k ≤ eN E → 0 ≤ l ∧ l ≤ 1000 → 0 ≤ lea (fun j => kc (eK E j)) (eU E) k i l ∧ lea (fun j => kc (eK E j)) (eU E) k i l ≤ 1000 := by
    intro k
    induction k with
    | zero => intro i l _ _ h; exact h
    | succ k ih =>
      intro i l h0 hi hl
      have w := h.2.1 i.toNat (by omega)
      have hu : 0 ≤ eU E i.toNat ∧ eU E i.toNat ≤ 999 ∨ ¬ kc (eK E i.toNat) = 8 := by
        rcases w with w | w | w | w | w | w
        · exact Or.inl ⟨w.2.1, w.2.2.1⟩
        · exact Or.inl (by omega)
        · exact Or.inl (by omega)
        · exact Or.inl (by omega)
        · exact Or.inl (by omega)
        · exact Or.inl (by omega)
      show 0 ≤ lea _ _ k (i + 1) (if kc (eK E i.toNat) = 8 ∧ l ≤ eU E i.toNat then eU E i.toNat + 1 else l) ∧ lea _ _ k (i + 1) (if kc (eK E i.toNat) = 8 ∧ l ≤ eU E i.toNat then eU E i.toNat + 1 else l) ≤ 1000
      refine ih (i + 1) _ (by omega) (by omega) ?_
      split <;> omega
  exact q (eN E) 0 0 (by omega) (by omega) (by omega)
/-! the steps to a root: within as many places as the modulus has, or never -/
def itr (N : Int → Int) : Nat → Int → Int
  | 0, a => a
  | k + 1, a => itr N k (N a)
theorem itr_add {N : Int → Int} {j : Nat} : ∀ (i : Nat) (a : Int), itr N (i + j) a = itr N j (itr N i a)
  | 0, a => by rw [Nat.zero_add]; rfl
  | i + 1, a => by
    rw [show i + 1 + j = i + j + 1 by omega]
    exact itr_add (N := N) (j := j) i (N a)
def okS (V N : Int → Int) (t : Nat) (a : Int) : Prop := ∀ i, i < t → ¬ itr N i a = -1 ∧ ¬ V (itr N i a) = 0
theorem okS_s {V N : Int → Int} {t : Nat} {a : Int} (h1 : ¬ a = -1) (h2 : ¬ V a = 0) (h : okS V N t (N a)) : okS V N (t + 1) a := by
  intro i hi
  match i, hi with
  | 0, _ => exact ⟨h1, h2⟩
  | i + 1, hi => exact h i (by omega)
theorem sru_char {V N : Int → Int} : ∀ (k : Nat) (i a : Int), (∃ t, t < k ∧ okS V N t a ∧ ¬ itr N t a = -1 ∧ V (itr N t a) = 0 ∧ sru V N k i a = i + (t : Int)) ∨ ((∀ t, t < k → okS V N t a → itr N t a = -1 ∨ ¬ V (itr N t a) = 0) ∧ sru V N k i a = -1)
  | 0, i, a => Or.inr ⟨fun t h => absurd h (Nat.not_lt_zero _), rfl⟩
  | k + 1, i, a => by
    by_cases z : a = -1
    · refine Or.inr ⟨fun t _ ho => ?_, sru_none z⟩
      match t, ho with
      | 0, _ => exact Or.inl z
      | t + 1, ho => exact absurd z (ho 0 (by omega)).1
    · by_cases y : V a = 0
      · exact Or.inl ⟨0, by omega, fun i h => absurd h (Nat.not_lt_zero _), z, y, by rw [sru_hit z y]; omega⟩
      · rw [sru_go z y]
        rcases sru_char (V := V) (N := N) k (i + 1) (N a) with ⟨t, a1, a2, a3, a4, a5⟩ | ⟨a1, a2⟩
        · exact Or.inl ⟨t + 1, by omega, okS_s z y a2, a3, a4, by rw [a5]; omega⟩
        · refine Or.inr ⟨fun t ht ho => ?_, a2⟩
          match t, ht, ho with
          | 0, _, _ => exact Or.inr y
          | t + 1, ht, ho => exact a1 t (by omega) (fun i hi => ho (i + 1) (by omega))
theorem stq_char {V N : Int → Int} : ∀ (k : Nat) (a n : Int), ∃ t, t ≤ k ∧ okS V N t a ∧ stq V N k a n = (itr N t a, n + (t : Int)) ∧ (t = k ∨ itr N t a = -1 ∨ V (itr N t a) = 0)
  | 0, a, n => ⟨0, Nat.le_refl _, fun i h => absurd h (Nat.not_lt_zero _), by rw [show n + ((0 : Nat) : Int) = n by omega]; rfl, Or.inl rfl⟩
  | k + 1, a, n => by
    by_cases z : a = -1 ∨ V a = 0
    · exact ⟨0, by omega, fun i h => absurd h (Nat.not_lt_zero _), by rw [stq_end z, show n + ((0 : Nat) : Int) = n by omega]; rfl, Or.inr z⟩
    · have z1 : ¬ a = -1 := fun y => z (Or.inl y)
      have z2 : ¬ V a = 0 := fun y => z (Or.inr y)
      obtain ⟨t, a1, a2, a3, a4⟩ := stq_char (V := V) (N := N) k (N a) (n + 1)
      refine ⟨t + 1, by omega, okS_s z1 z2 a2, ?_, ?_⟩
      · rw [stq_go z1 z2, a3, show n + 1 + (t : Int) = n + ((t + 1 : Nat) : Int) by omega]
        rfl
      · rcases a4 with a4 | a4
        · exact Or.inl (by omega)
        · exact Or.inr a4
/-- m + 1 places apart, all below p -/
theorem php : ∀ (p m : Nat) (f : Nat → Int), (∀ i, i ≤ m → 0 ≤ f i ∧ f i < p) → (∀ i j, i < j → j ≤ m → ¬ f i = f j) → m + 1 ≤ p
  | 0, m, f, h, _ => by
    have := h 0 (by omega)
    omega
  | p + 1, m, f, h, hd => by
    by_cases e : ∃ i, i ≤ m ∧ f i = p
    · obtain ⟨i0, h0, e0⟩ := e
      by_cases m0 : m = 0
      · omega
      · have q := php p (m - 1) (fun k => if k < i0 then f k else f (k + 1)) (fun i hi => ?_) (fun i j hij hj => ?_)
        · omega
        · split
          · have a := h i (by omega)
            have b := hd i i0 (by omega) h0
            omega
          · have a := h (i + 1) (by omega)
            have b := hd i0 (i + 1) (by omega) (by omega)
            omega
        · split
          · split
            · exact hd i j hij (by omega)
            · exact hd i (j + 1) (by omega) (by omega)
          · rw [if_neg (by omega)]
            exact hd (i + 1) (j + 1) (by omega) (by omega)
    · have q := php p m f (fun i hi => by
        have a := h i hi
        have b : ¬ f i = p := fun z => e ⟨i, hi, z⟩
        omega) hd
      omega
theorem okS_apart {V N : Int → Int} {m : Nat} {a : Int} (h : okS V N m a) (h2 : V (itr N m a) = 0) {i j : Nat} (hij : i < j) (hj : j ≤ m) : ¬ itr N i a = itr N j a := by
  intro e
  have q : itr N (i + (m - j)) a = itr N m a := by
    rw [itr_add, e, ← itr_add, show j + (m - j) = m by omega]
  have z := (h (i + (m - j)) (by omega)).2
  rw [q] at z
  exact z h2
theorem sru_stR {F : FT} (hG : GF F) {u x : Int} (hx : 0 ≤ x ∧ x < fP F) : sru (vv (fP F) (fE F) u.toNat) (nxF F u) (fP F).toNat 0 x = stR F u x := by
  have hp := GF_p hG
  have hr : ∀ t, itr (nxF F u) t x = -1 ∨ (0 ≤ itr (nxF F u) t x ∧ itr (nxF F u) t x < fP F) := by
    intro t
    match t with
    | 0 => exact Or.inr hx
    | t + 1 =>
      have e : itr (nxF F u) (t + 1) x = nxF F u (itr (nxF F u) t x) := by rw [itr_add]; rfl
      rw [e]
      exact nxF_rng hG
  obtain ⟨t, a1, a2, a3, a4⟩ := stq_char (V := vv (fP F) (fE F) u.toNat) (N := nxF F u) 200 x 0
  unfold stR
  rw [a3]
  show _ = if itr (nxF F u) t x = -1 then -1 else if 0 + (t : Int) ≤ 199 then 0 + (t : Int) else -1
  rcases sru_char (V := vv (fP F) (fE F) u.toNat) (N := nxF F u) (fP F).toNat 0 x with ⟨s, b1, b2, b3, b4, b5⟩ | ⟨b1, b2⟩
  · have ts : t = s := by
      by_cases z : s < t
      · exact absurd b4 (a2 s z).2
      · by_cases y : t < s
        · have w := b2 t y
          rcases a4 with c | c | c
          · omega
          · exact absurd c w.1
          · exact absurd c w.2
        · omega
    rw [ts, if_neg b3, if_pos (by omega)]
    exact b5
  · rw [b2]
    by_cases z : itr (nxF F u) t x = -1
    · rw [if_pos z]
    · rw [if_neg z]
      by_cases y : 0 + (t : Int) ≤ 199
      · exfalso
        have c : vv (fP F) (fE F) u.toNat (itr (nxF F u) t x) = 0 := by
          rcases a4 with c | c | c
          · omega
          · exact absurd c z
          · exact c
        have q := php (fP F).toNat t (fun i => itr (nxF F u) i x) (fun i hi => by
          by_cases w : i = t
          · subst w
            have v := hr i
            show 0 ≤ itr (nxF F u) i x ∧ itr (nxF F u) i x < _
            omega
          · have v := hr i
            have v2 := (a2 i (by omega)).1
            show 0 ≤ itr (nxF F u) i x ∧ itr (nxF F u) i x < _
            omega) (fun i j hij hj => okS_apart a2 c hij hj)
        rcases b1 t (by omega) a2 with v | v
        · exact z v
        · exact v c
      · rw [if_neg y]
