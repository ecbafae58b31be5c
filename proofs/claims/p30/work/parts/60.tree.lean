/-! trees: what the class builds out of a text, as an expression (calls of functions left out) -/
def XE (K U L V : Nat → Int) : EX := mkE 0 K U L V
def prt (L V : Nat → Int) (k : Nat) (j : Int) : Prop := L k = j ∨ V k = j
def ary (K : Int) : Int := if K = 43 ∨ K = 45 ∨ K = 42 ∨ K = 47 then 2 else if K = 110 ∨ K = 94 ∨ K = 99 then 1 else 0
theorem WFK_congr {E E' : EX} {f k : Nat} (h1 : eK E' k = eK E k) (h2 : eU E' k = eU E k) (h3 : eL E' k = eL E k) (h4 : eV E' k = eV E k) (w : WFK E f k) : WFK E' f k := by
  unfold WFK at w ⊢
  rw [h1, h2, h3, h4]
  exact w
/-- n nodes, of which lp, told by lq, are parts of none -/
def TRc (n : Int) (K U L V : Nat → Int) (lp : Int) (lq : Nat → Int) : Prop :=
  (0 ≤ n ∧ n ≤ 40 ∧ 0 ≤ lp ∧ lp ≤ n) ∧
  (∀ k : Nat, (k : Int) < n → WFK (XE K U L V) 0 k) ∧
  (∀ i : Nat, (i : Int) < lp → 0 ≤ lq i ∧ lq i < n) ∧
  (∀ i j : Nat, i < j → (j : Int) < lp → lq i < lq j) ∧
  (0 < n → 0 < lp ∧ lq (lp - 1).toNat = n - 1) ∧
  (∀ j : Nat, (j : Int) < n → ((∃ i : Nat, (i : Int) < lp ∧ lq i = j) ∧ ∀ k : Nat, (k : Int) < n → ¬ prt L V k j) ∨ ((∀ i : Nat, (i : Int) < lp → ¬ lq i = j) ∧ ∃ k : Nat, (k : Int) < n ∧ prt L V k j ∧ ∀ i : Nat, (i : Int) < n → prt L V i j → i = k))
theorem ary_r (k : Int) : ary k = 0 ∨ ary k = 1 ∨ ary k = 2 := by
  unfold ary
  split
  · exact Or.inr (Or.inr rfl)
  · split
    · exact Or.inr (Or.inl rfl)
    · exact Or.inl rfl
theorem WFK_mk {K U L V : Nat → Int} {n f : Nat} {k u a b : Int} (h : (k = 48 ∧ 0 ≤ u ∧ u ≤ 999 ∧ a = -1 ∧ b = -1) ∨ (k = 120 ∧ u = 0 ∧ a = -1 ∧ b = -1) ∨ (k = 110 ∧ u = 0 ∧ 0 ≤ a ∧ a < n ∧ b = -1) ∨ ((k = 43 ∨ k = 45 ∨ k = 42 ∨ k = 47) ∧ u = 0 ∧ 0 ≤ a ∧ a < n ∧ 0 ≤ b ∧ b < n ∧ ¬ a = b) ∨ (k = 94 ∧ 0 ≤ u ∧ u ≤ 9 ∧ 0 ≤ a ∧ a < n ∧ b = -1) ∨ (k = 99 ∧ 0 ≤ u ∧ u < f ∧ 0 ≤ a ∧ a < n ∧ b = -1)) : WFK (XE (up K n k) (up U n u) (up L n a) (up V n b)) f n := by
  unfold WFK
  rw [show eK (XE (up K n k) (up U n u) (up L n a) (up V n b)) n = k from up_s, show eU (XE (up K n k) (up U n u) (up L n a) (up V n b)) n = u from up_s, show eL (XE (up K n k) (up U n u) (up L n a) (up V n b)) n = a from up_s, show eV (XE (up K n k) (up U n u) (up L n a) (up V n b)) n = b from up_s]
  exact h
/-- a node more, made of as many loose ones as it has parts -/
theorem TR_add {n lp k u a b : Int} {K U L V lq : Nat → Int} (h : TRc n K U L V lp lq) (hn : n < 40) (hq : ary k ≤ lp)
    (hw : WFK (XE (up K n.toNat k) (up U n.toNat u) (up L n.toNat a) (up V n.toNat b)) 0 n.toNat)
    (h0 : ary k = 0 → a = -1 ∧ b = -1) (h1 : ary k = 1 → a = lq (lp - 1).toNat ∧ b = -1) (h2 : ary k = 2 → b = lq (lp - 1).toNat ∧ a = lq (lp - 2).toNat) :
    TRc (n + 1) (up K n.toNat k) (up U n.toNat u) (up L n.toNat a) (up V n.toNat b) (lp - ary k + 1) (up lq (lp - ary k).toNat n) := by
  obtain ⟨t1, t2, t3, t4, t5, t6⟩ := h
  have hk := ary_r k
  have hab : Unit → (a = -1 ∨ ∃ i : Nat, (i : Int) < lp ∧ lp - ary k ≤ i ∧ lq i = a) ∧ (b = -1 ∨ ∃ i : Nat, (i : Int) < lp ∧ lp - ary k ≤ i ∧ lq i = b) := by
    intro _
    rcases hk with q | q | q
    · exact ⟨Or.inl (h0 q).1, Or.inl (h0 q).2⟩
    · exact ⟨Or.inr ⟨(lp - 1).toNat, by omega, by omega, (h1 q).1.symm⟩, Or.inl (h1 q).2⟩
    · exact ⟨Or.inr ⟨(lp - 2).toNat, by omega, by omega, (h2 q).2.symm⟩, Or.inr ⟨(lp - 1).toNat, by omega, by omega, (h2 q).1.symm⟩⟩
  have hcov : ∀ i : Nat, lp - ary k ≤ i → (i : Int) < lp → a = lq i ∨ b = lq i := by
    intro i hi1 hi2
    rcases hk with q | q | q
    · omega
    · rw [show i = (lp - 1).toNat by omega]; exact Or.inl (h1 q).1
    · by_cases z : (i : Int) = lp - 1
      · rw [show i = (lp - 1).toNat by omega]; exact Or.inr (h2 q).1
      · rw [show i = (lp - 2).toNat by omega]; exact Or.inl (h2 q).2
  have kK : ∀ j : Nat, (j : Int) < n → up K n.toNat k j = K j := fun j hj => up_n (by omega)
  have kU : ∀ j : Nat, (j : Int) < n → up U n.toNat u j = U j := fun j hj => up_n (by omega)
  have kL : ∀ j : Nat, (j : Int) < n → up L n.toNat a j = L j := fun j hj => up_n (by omega)
  have kV : ∀ j : Nat, (j : Int) < n → up V n.toNat b j = V j := fun j hj => up_n (by omega)
  have sL : up L n.toNat a n.toNat = a := up_s
  have sV : up V n.toNat b n.toNat = b := up_s
  generalize up K n.toNat k = K' at *
  generalize up U n.toNat u = U' at *
  generalize up L n.toNat a = L' at *
  generalize up V n.toNat b = V' at *
  have hpo : ∀ (i : Nat) (j : Int), (i : Int) < n → (prt L' V' i j ↔ prt L V i j) := fun i j hi => by unfold prt; rw [kL i hi, kV i hi]
  have hpn : ∀ j : Int, prt L' V' n.toNat j ↔ (a = j ∨ b = j) := fun j => by unfold prt; rw [sL, sV]
  refine ⟨by omega, fun j hj => ?_, fun i hi => ?_, fun i j hij hj => ?_, fun _ => ⟨by omega, ?_⟩, fun j hj => ?_⟩
  · by_cases e : j = n.toNat
    · subst e
      exact hw
    · have hj' : (j : Int) < n := by omega
      exact WFK_congr (E := XE K U L V) (E' := XE K' U' L' V') (kK j hj') (kU j hj') (kL j hj') (kV j hj') (t2 j hj')
  · unfold up
    by_cases e : i = (lp - ary k).toNat
    · rw [if_pos e]; omega
    · rw [if_neg e]
      have := t3 i (by omega)
      omega
  · unfold up
    rw [if_neg (by omega)]
    by_cases e : j = (lp - ary k).toNat
    · rw [if_pos e]
      exact (t3 i (by omega)).2
    · rw [if_neg e]
      exact t4 i j hij (by omega)
  · rw [show (lp - ary k + 1 - 1).toNat = (lp - ary k).toNat by omega, up_s]; omega
  · by_cases jn : (j : Int) = n
    · refine Or.inl ⟨⟨(lp - ary k).toNat, by omega, by rw [up_s]; exact jn.symm⟩, fun k' hk' hp => ?_⟩
      by_cases e : (k' : Int) < n
      · have hp2 := (hpo k' j e).mp hp
        have w := t2 k' e
        have wl := WFK_L w
        have wv := WFK_V w
        have el : eL (XE K U L V) k' = L k' := rfl
        have ev : eV (XE K U L V) k' = V k' := rfl
        unfold prt at hp2
        omega
      · rw [show k' = n.toNat by omega] at hp
        have hq2 := (hpn j).mp hp
        rcases hq2 with q | q
        · rcases (hab ()).1 with y1 | ⟨i2, a1, a2, a3⟩
          · omega
          · have := t3 i2 a1; omega
        · rcases (hab ()).2 with y1 | ⟨i2, a1, a2, a3⟩
          · omega
          · have := t3 i2 a1; omega
    · have hj' : (j : Int) < n := by omega
      rcases t6 j hj' with ⟨⟨i, hi, e⟩, hno⟩ | ⟨hnl, k0, hk0, hp, hu⟩
      · by_cases hm : (i : Int) < lp - ary k
        · refine Or.inl ⟨⟨i, by omega, by rw [up_n (by omega)]; exact e⟩, fun k' hk' hp => ?_⟩
          by_cases z : (k' : Int) < n
          · exact hno k' z ((hpo k' j z).mp hp)
          · rw [show k' = n.toNat by omega] at hp
            rcases (hpn j).mp hp with q | q
            · rcases (hab ()).1 with y1 | ⟨i2, a1, a2, a3⟩
              · omega
              · have := t4 i i2 (by omega) a1; omega
            · rcases (hab ()).2 with y1 | ⟨i2, a1, a2, a3⟩
              · omega
              · have := t4 i i2 (by omega) a1; omega
        · refine Or.inr ⟨fun i' hi' e' => ?_, n.toNat, by omega, (hpn j).mpr ?_, fun i' hi' hp => ?_⟩
          · unfold up at e'
            by_cases z : i' = (lp - ary k).toNat
            · rw [if_pos z] at e'; exact jn e'.symm
            · rw [if_neg z] at e'
              have := t4 i' i (by omega) hi
              omega
          · rcases hcov i (by omega) hi with q | q
            · exact Or.inl (q.trans e)
            · exact Or.inr (q.trans e)
          · by_cases z : (i' : Int) < n
            · exact absurd ((hpo i' j z).mp hp) (hno i' z)
            · omega
      · refine Or.inr ⟨fun i' hi' e' => ?_, k0, by omega, (hpo k0 j hk0).mpr hp, fun i' hi' hp2 => ?_⟩
        · unfold up at e'
          by_cases z : i' = (lp - ary k).toNat
          · rw [if_pos z] at e'; exact jn e'.symm
          · rw [if_neg z] at e'
            exact hnl i' (by omega) e'
        · by_cases z : (i' : Int) < n
          · exact hu i' z ((hpo i' j z).mp hp2)
          · rw [show i' = n.toNat by omega] at hp2
            exfalso
            rcases (hpn j).mp hp2 with q | q
            · rcases (hab ()).1 with y1 | ⟨i2, a1, a2, a3⟩
              · omega
              · exact hnl i2 a1 (a3.trans q)
            · rcases (hab ()).2 with y1 | ⟨i2, a1, a2, a3⟩
              · omega
              · exact hnl i2 a1 (a3.trans q)
theorem put0_up {f : Nat → Int} {n x : Int} (h : 0 ≤ n ∧ n < 40) : put0 40 f n x = up f n.toNat x := by
  unfold put0
  rw [if_pos (by omega)]
theorem lTop_v {B : BT} (h : 0 < lP B) : lTop B = lQ B (lP B - 1).toNat := by
  show tp (lP B) (lQ B) = _
  unfold tp
  rw [if_pos h]
theorem sAdd_eq {K U L V D E lq wq : Nat → Int} {n z lp wp k u a b : Int} (hn : 0 ≤ n ∧ n < 40) (hl : 0 ≤ lp ∧ lp < 40) :
    sAdd (mkB K U L V D E n z lp lq wp wq) k u a b = mkB (up K n.toNat k) (up U n.toNat u) (up L n.toNat a) (up V n.toNat b) (up D n.toNat (1 + max (at0 40 D a) (at0 40 D b))) E (n + 1) z (lp + 1) (up lq lp.toNat n) wp wq := by
  show mkB (put0 40 K n k) (put0 40 U n u) (put0 40 L n a) (put0 40 V n b) (put0 40 D n (1 + max (at0 40 D a) (at0 40 D b))) E (min (n + 1) 40) z (pN lp) (pF lp lq n) wp wq = _
  rw [show min (n + 1) 40 = n + 1 by omega, put0_up hn, put0_up hn, put0_up hn, put0_up hn, put0_up hn, show pN lp = lp + 1 by unfold pN; rw [if_pos (by omega)], show pF lp lq n = up lq lp.toNat n by unfold pF; rw [if_pos (by omega)]]
/-- what is known of an expression that was read -/
def EB (B : BT) : EX := mkE (bN B).toNat (bK B) (bU B) (bL B) (bV B)
def TRE (B : BT) : Prop := TRc (bN B) (bK B) (bU B) (bL B) (bV B) (lP B) (lQ B)
theorem WFK_0 {E : EX} {f k : Nat} (w : WFK E 0 k) : WFK E f k := by
  rcases w with w | w | w | w | w | w
  · exact Or.inl w
  · exact Or.inr (Or.inl w)
  · exact Or.inr (Or.inr (Or.inl w))
  · exact Or.inr (Or.inr (Or.inr (Or.inl w)))
  · exact Or.inr (Or.inr (Or.inr (Or.inr (Or.inl w))))
  · exact absurd w.2.2.1 (by have := w.2.1; omega)
theorem EB_wf {B : BT} {f : Nat} (h : TRE B) (h1 : lP B = 1) : WFE (EB B) f := by
  obtain ⟨t1, t2, t3, t4, t5, t6⟩ := h
  refine ⟨by show 1 ≤ (bN B).toNat ∧ (bN B).toNat ≤ 40; omega, fun k hk => ?_, fun j hj => ?_⟩
  · have hk' : k < (bN B).toNat := hk
    exact WFK_0 (t2 k (by omega))
  · have hj' : j + 1 < (bN B).toNat := hj
    rcases t6 j (by omega) with ⟨⟨i, hi, e⟩, -⟩ | ⟨-, k, hk, hp, hu⟩
    · exfalso
      have := (t5 (by omega)).2
      rw [h1, show ((1 : Int) - 1).toNat = 0 by decide] at this
      rw [show i = 0 by omega] at e
      omega
    · exact ⟨k, by show k < (bN B).toNat; omega, hp, fun i hi hq => hu i (by have : i < (bN B).toNat := hi; omega) hq⟩
/-- no more unlike nodes than nodes -/
theorem cuU_le : ∀ (k : Nat) (B : BT) (j u : Int), (cuU k B j u).2 ≤ u + k
  | 0, _, _, u => by show u ≤ u + ((0 : Nat) : Int); omega
  | k + 1, B, j, u => by
    have ih := cuU_le k (sLike B j) (j + 1) (if flv B j = j then u + 1 else u)
    show (cuU k (sLike B j) (j + 1) (if flv B j = j then u + 1 else u)).2 ≤ _
    have hu : (if flv B j = j then u + 1 else u) ≤ u + 1 := by split <;> omega
    omega
theorem nUn_le {B : BT} (h : 0 ≤ bN B) : nUn B ≤ bN B := by
  have := cuU_le (bN B).toNat B 0 0
  have e : nUn B = (cuU (bN B).toNat B 0 0).2 := rfl
  omega
