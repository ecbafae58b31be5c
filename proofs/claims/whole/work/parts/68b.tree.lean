/-! trees: what the class builds out of a text, as an expression -/
def XE (K U L V : Nat → Int) : EX := mkE 0 K U L V
def prt (L V : Nat → Int) (k : Nat) (j : Int) : Prop := L k = j ∨ V k = j
theorem lks_congr {E E' : EX} : ∀ k : Nat, (∀ j, j < k → eK E j = eK E' j) → lks E k = lks E' k
  | 0, _ => rfl
  | k + 1, h => by
    have ih := lks_congr (E := E) (E' := E') k (fun j hj => h j (by omega))
    simp only [lks, ih, h k (by omega)]
theorem dps_congr {E E' : EX} : ∀ k : Nat, (∀ j, j < k → eL E j = eL E' j ∧ eV E j = eV E' j) → dps E k = dps E' k
  | 0, _ => rfl
  | k + 1, h => by
    have ih := dps_congr (E := E) (E' := E') k (fun j hj => h j (by omega))
    simp only [dps, ih, (h k (by omega)).1, (h k (by omega)).2]
theorem WFK_congr {E E' : EX} {f k : Nat} (h1 : eK E' k = eK E k) (h2 : eU E' k = eU E k) (h3 : eL E' k = eL E k) (h4 : eV E' k = eV E k) (w : WFK E f k) : WFK E' f k := by
  unfold WFK at w ⊢
  rw [h1, h2, h3, h4]
  exact w
/-- the links of node k -/
def lkn (E : EX) (k : Nat) : Prop := ary (eK E k) ≤ (lks E k).1 ∧ (lks E k).1 ≤ k ∧ (ary (eK E k) = 2 → eV E k = (lks E k).2 ((lks E k).1 - 1).toNat ∧ eL E k = (lks E k).2 ((lks E k).1 - 2).toNat) ∧ (ary (eK E k) = 1 → eL E k = (lks E k).2 ((lks E k).1 - 1).toNat)
/-- n nodes, of which lp, told by lq, are parts of none -/
def TRc (n : Int) (K U L V D : Nat → Int) (lp : Int) (lq : Nat → Int) : Prop :=
  (0 ≤ n ∧ n ≤ 40 ∧ 0 ≤ lp ∧ lp ≤ n) ∧
  (∀ k : Nat, (k : Int) < n → WFK (XE K U L V) 4 k ∧ D k = dps (XE K U L V) (k + 1) k ∧ lkn (XE K U L V) k) ∧
  ((lks (XE K U L V) n.toNat).1 = lp ∧ ∀ i : Nat, (i : Int) < lp → (lks (XE K U L V) n.toNat).2 i = lq i ∧ 0 ≤ lq i ∧ lq i < n) ∧
  (∀ i j : Nat, i < j → (j : Int) < lp → lq i < lq j) ∧
  (0 < n → 0 < lp ∧ lq (lp - 1).toNat = n - 1) ∧
  (∀ j : Nat, (j : Int) < n → ((∃ i : Nat, (i : Int) < lp ∧ lq i = j) ∧ ∀ k : Nat, (k : Int) < n → ¬ prt L V k j) ∨ ((∀ i : Nat, (i : Int) < lp → ¬ lq i = j) ∧ ∃ k : Nat, (k : Int) < n ∧ prt L V k j ∧ ∀ i : Nat, (i : Int) < n → prt L V i j → i = k))
theorem ary_r (k : Int) : ary k = 0 ∨ ary k = 1 ∨ ary k = 2 := by
  unfold ary
  split
  · exact Or.inr (Or.inr rfl)
  · split
    · exact Or.inr (Or.inl rfl)
    · exact Or.inl rfl
theorem WFK_mk {K U L V : Nat → Int} {n f : Nat} {k u a b : Int} (h : (k = 48 ∧ 0 ≤ u ∧ u ≤ 999 ∧ a = -1 ∧ b = -1) ∨ (k = 120 ∧ u = 0 ∧ a = -1 ∧ b = -1) ∨ (k = 110 ∧ u = 0 ∧ 0 ≤ a ∧ a < n ∧ b = -1) ∨ ((k = 43 ∨ k = 45 ∨ k = 42 ∨ k = 47) ∧ u = 0 ∧ 0 ≤ a ∧ a < n ∧ 0 ≤ b ∧ b < n ∧ ¬ a = b) ∨ (k = 94 ∧ 0 ≤ u ∧ u ≤ 9 ∧ 0 ≤ a ∧ a < n ∧ b = -1) ∨ (k = 99 ∧ 0 ≤ u ∧ u < f ∧ 0 ≤ a ∧ a < n ∧ b = -1)) : WFK (XE (up K n k) (up U n u) (up L n a) (up V n b)) f n := by
  unfold WFK
  rw [show eK (XE (up K n k) (up U n u) (up L n a) (up V n b)) n = k from up_s, show eU (XE (up K n k) (up U n u) (up L n a) (up V n b)) n = u from up_s, show eL (XE (up K n k) (up U n u) (up L n a) (up V n b)) n = a from up_s, show eV (XE (up K n k) (up U n u) (up L n a) (up V n b)) n = b from up_s]
  exact h
theorem TR_dep {n lp a : Int} {K U L V D lq : Nat → Int} (h : TRc n K U L V D lp lq) (ha : a = -1 ∨ (0 ≤ a ∧ a < n)) : at0 40 D a = dgv (dps (XE K U L V) n.toNat) a := by
  have t1 := h.1
  unfold at0 dgv
  rcases ha with rfl | ha
  · rw [if_neg (by omega), if_pos rfl]
  · rw [if_pos (by omega), if_neg (by omega), (h.2.1 a.toNat (by omega)).2.1]
    exact (dps_keep (XE K U L V) n.toNat (by omega)).symm
/-- a node more, made of as many loose ones as it has parts -/
theorem TR_add {n lp k u a b : Int} {K U L V D lq : Nat → Int} (h : TRc n K U L V D lp lq) (hn : n < 40) (hq : ary k ≤ lp)
    (hw : WFK (XE (up K n.toNat k) (up U n.toNat u) (up L n.toNat a) (up V n.toNat b)) 4 n.toNat)
    (h0 : ary k = 0 → a = -1 ∧ b = -1) (h1 : ary k = 1 → a = lq (lp - 1).toNat ∧ b = -1) (h2 : ary k = 2 → b = lq (lp - 1).toNat ∧ a = lq (lp - 2).toNat) :
    TRc (n + 1) (up K n.toNat k) (up U n.toNat u) (up L n.toNat a) (up V n.toNat b) (up D n.toNat (1 + max (at0 40 D a) (at0 40 D b))) (lp - ary k + 1) (up lq (lp - ary k).toNat n) := by
  have hdep := fun (x : Int) (hx : x = -1 ∨ (0 ≤ x ∧ x < n)) => TR_dep h hx
  obtain ⟨t1, t2, t3, t4, t5, t6⟩ := h
  have hk := ary_r k
  have t3a : (fun _ : Unit => (lks (XE K U L V) n.toNat).1) = (fun _ : Unit => lp) := funext fun _ => t3.1
  replace t3 := t3.2
  have hab : Unit → (a = -1 ∨ ∃ i : Nat, (i : Int) < lp ∧ lp - ary k ≤ i ∧ lq i = a) ∧ (b = -1 ∨ ∃ i : Nat, (i : Int) < lp ∧ lp - ary k ≤ i ∧ lq i = b) := by
    intro _
    rcases hk with q | q | q
    · exact ⟨Or.inl (h0 q).1, Or.inl (h0 q).2⟩
    · exact ⟨Or.inr ⟨(lp - 1).toNat, by omega, by omega, (h1 q).1.symm⟩, Or.inl (h1 q).2⟩
    · exact ⟨Or.inr ⟨(lp - 2).toNat, by omega, by omega, (h2 q).2.symm⟩, Or.inr ⟨(lp - 1).toNat, by omega, by omega, (h2 q).1.symm⟩⟩
  have hcov : ∀ i : Nat, lp - ary k ≤ i → (i : Int) < lp → a = lq i ∨ b = lq i := by
    intro i hi1 hi2
    rcases hk with q | q | q
    · omega
    · rw [show i = (lp - 1).toNat by omega]; exact Or.inl (h1 q).1
    · by_cases z : (i : Int) = lp - 1
      · rw [show i = (lp - 1).toNat by omega]; exact Or.inr (h2 q).1
      · rw [show i = (lp - 2).toNat by omega]; exact Or.inl (h2 q).2
  have har : a = -1 ∨ (0 ≤ a ∧ a < n) := by
    rcases (hab ()).1 with z | ⟨i, hi, -, e⟩
    · exact Or.inl z
    · have := t3 i hi; rw [e] at this; exact Or.inr this.2
  have hbr : b = -1 ∨ (0 ≤ b ∧ b < n) := by
    rcases (hab ()).2 with z | ⟨i, hi, -, e⟩
    · exact Or.inl z
    · have := t3 i hi; rw [e] at this; exact Or.inr this.2
  have hmax : 1 + max (at0 40 D a) (at0 40 D b) = 1 + (if dgv (dps (XE K U L V) n.toNat) b < dgv (dps (XE K U L V) n.toNat) a then dgv (dps (XE K U L V) n.toNat) a else dgv (dps (XE K U L V) n.toNat) b) := by
    rw [hdep a har, hdep b hbr]
    split <;> omega
  rw [hmax]
  clear hmax hdep
  have hyU : ∃ y, (fun _ : Unit => 1 + (if dgv (dps (XE K U L V) n.toNat) b < dgv (dps (XE K U L V) n.toNat) a then dgv (dps (XE K U L V) n.toNat) a else dgv (dps (XE K U L V) n.toNat) b)) = (fun _ : Unit => y) := ⟨_, rfl⟩
  obtain ⟨y, hyU⟩ := hyU
  rw [show 1 + (if dgv (dps (XE K U L V) n.toNat) b < dgv (dps (XE K U L V) n.toNat) a then dgv (dps (XE K U L V) n.toNat) a else dgv (dps (XE K U L V) n.toNat) b) = y from congrFun hyU ()]
  have kK : ∀ j : Nat, (j : Int) < n → up K n.toNat k j = K j := fun j hj => up_n (by omega)
  have kU : ∀ j : Nat, (j : Int) < n → up U n.toNat u j = U j := fun j hj => up_n (by omega)
  have kL : ∀ j : Nat, (j : Int) < n → up L n.toNat a j = L j := fun j hj => up_n (by omega)
  have kV : ∀ j : Nat, (j : Int) < n → up V n.toNat b j = V j := fun j hj => up_n (by omega)
  have sK : up K n.toNat k n.toNat = k := up_s
  have sL : up L n.toNat a n.toNat = a := up_s
  have sV : up V n.toNat b n.toNat = b := up_s
  have sD : up D n.toNat y n.toNat = y := up_s
  have kD : ∀ j : Nat, (j : Int) < n → up D n.toNat y j = D j := fun j hj => up_n (by omega)
  generalize up K n.toNat k = K' at *
  generalize up U n.toNat u = U' at *
  generalize up L n.toNat a = L' at *
  generalize up V n.toNat b = V' at *
  generalize up D n.toNat y = D' at *
  have lk : ∀ j : Nat, j ≤ n.toNat → lks (XE K' U' L' V') j = lks (XE K U L V) j := fun j hj => lks_congr j (fun i hi => kK i (by omega))
  have dp : ∀ j : Nat, j ≤ n.toNat → dps (XE K' U' L' V') j = dps (XE K U L V) j := fun j hj => dps_congr j (fun i hi => ⟨kL i (by omega), kV i (by omega)⟩)
  have hpo : ∀ (i : Nat) (j : Int), (i : Int) < n → (prt L' V' i j ↔ prt L V i j) := fun i j hi => by unfold prt; rw [kL i hi, kV i hi]
  have hpn : ∀ j : Int, prt L' V' n.toNat j ↔ (a = j ∨ b = j) := fun j => by unfold prt; rw [sL, sV]
  refine ⟨by omega, fun j hj => ?_, ⟨?_, fun i hi => ?_⟩, fun i j hij hj => ?_, fun _ => ⟨by omega, ?_⟩, fun j hj => ?_⟩
  · by_cases e : j = n.toNat
    · subst e
      refine ⟨hw, ?_, ?_⟩
      · rw [sD, ← congrFun hyU ()]
        show _ = up (dps (XE K' U' L' V') n.toNat) n.toNat (1 + (if dgv (dps (XE K' U' L' V') n.toNat) (V' n.toNat) < dgv (dps (XE K' U' L' V') n.toNat) (L' n.toNat) then dgv (dps (XE K' U' L' V') n.toNat) (L' n.toNat) else dgv (dps (XE K' U' L' V') n.toNat) (V' n.toNat))) n.toNat
        rw [up_s, dp _ (Nat.le_refl _), sL, sV]
      · unfold lkn
        rw [lk _ (Nat.le_refl _), congrFun t3a (), show eK (XE K' U' L' V') n.toNat = k from sK, show eL (XE K' U' L' V') n.toNat = a from sL, show eV (XE K' U' L' V') n.toNat = b from sV]
        refine ⟨hq, by omega, fun q => ?_, fun q => ?_⟩
        · rw [(t3 (lp - 1).toNat (by omega)).1, (t3 (lp - 2).toNat (by omega)).1]
          exact h2 q
        · rw [(t3 (lp - 1).toNat (by omega)).1]
          exact (h1 q).1
    · have hj' : (j : Int) < n := by omega
      obtain ⟨w, d, l⟩ := t2 j hj'
      refine ⟨WFK_congr (E := XE K U L V) (E' := XE K' U' L' V') (kK j hj') (kU j hj') (kL j hj') (kV j hj') w, ?_, ?_⟩
      · rw [kD j hj', dp (j + 1) (by omega)]; exact d
      · unfold lkn at l ⊢
        rw [lk j (by omega), show eK (XE K' U' L' V') j = K j from kK j hj', show eL (XE K' U' L' V') j = L j from kL j hj', show eV (XE K' U' L' V') j = V j from kV j hj']
        exact l
  · rw [show (n + 1).toNat = n.toNat + 1 by omega]
    show (lks (XE K' U' L' V') n.toNat).1 - ary (K' n.toNat) + 1 = _
    rw [lk _ (Nat.le_refl _), congrFun t3a (), sK]
  · rw [show (n + 1).toNat = n.toNat + 1 by omega]
    show up (lks (XE K' U' L' V') n.toNat).2 ((lks (XE K' U' L' V') n.toNat).1 - ary (K' n.toNat)).toNat ((n.toNat : Nat) : Int) i = _ ∧ _
    rw [lk _ (Nat.le_refl _), congrFun t3a (), sK, show ((n.toNat : Nat) : Int) = n by omega]
    unfold up
    by_cases e : i = (lp - ary k).toNat
    · rw [if_pos e, if_pos e]; exact ⟨rfl, by omega, by omega⟩
    · rw [if_neg e, if_neg e]
      have := t3 i (by omega)
      exact ⟨this.1, this.2.1, by omega⟩
  · unfold up
    rw [if_neg (by omega)]
    by_cases e : j = (lp - ary k).toNat
    · rw [if_pos e]
      exact (t3 i (by omega)).2.2
    · rw [if_neg e]
      exact t4 i j hij (by omega)
  · rw [show (lp - ary k + 1 - 1).toNat = (lp - ary k).toNat by omega, up_s]; omega
  · by_cases jn : (j : Int) = n
    · refine Or.inl ⟨⟨(lp - ary k).toNat, by omega, by rw [up_s]; exact jn.symm⟩, fun k' hk' hp => ?_⟩
      by_cases e : (k' : Int) < n
      · have hp2 := (hpo k' j e).mp hp
        have w := (t2 k' e).1
        have wl := WFK_L w
        have wv := WFK_V w
        have el : eL (XE K U L V) k' = L k' := rfl
        have ev : eV (XE K U L V) k' = V k' := rfl
        unfold prt at hp2
        omega
      · rw [show k' = n.toNat by omega] at hp
        have := (hpn j).mp hp
        omega
    · have hj' : (j : Int) < n := by omega
      rcases t6 j hj' with ⟨⟨i, hi, e⟩, hno⟩ | ⟨hnl, k0, hk0, hp, hu⟩
      · by_cases hm : (i : Int) < lp - ary k
        · refine Or.inl ⟨⟨i, by omega, by rw [up_n (by omega)]; exact e⟩, fun k' hk' hp => ?_⟩
          by_cases z : (k' : Int) < n
          · exact hno k' z ((hpo k' j z).mp hp)
          · rw [show k' = n.toNat by omega] at hp
            rcases (hpn j).mp hp with q | q
            · rcases (hab ()).1 with y1 | ⟨i2, a1, a2, a3⟩
              · omega
              · have := t4 i i2 (by omega) a1; omega
            · rcases (hab ()).2 with y1 | ⟨i2, a1, a2, a3⟩
              · omega
              · have := t4 i i2 (by omega) a1; omega
        · refine Or.inr ⟨fun i' hi' e' => ?_, n.toNat, by omega, (hpn j).mpr ?_, fun i' hi' hp => ?_⟩
          · unfold up at e'
            by_cases z : i' = (lp - ary k).toNat
            · rw [if_pos z] at e'; exact jn e'.symm
            · rw [if_neg z] at e'
              have := t4 i' i (by omega) hi
              omega
          · rcases hcov i (by omega) hi with q | q
            · exact Or.inl (q.trans e)
            · exact Or.inr (q.trans e)
          · by_cases z : (i' : Int) < n
            · exact absurd ((hpo i' j z).mp hp) (hno i' z)
            · omega
      · refine Or.inr ⟨fun i' hi' e' => ?_, k0, by omega, (hpo k0 j hk0).mpr hp, fun i' hi' hp2 => ?_⟩
        · unfold up at e'
          by_cases z : i' = (lp - ary k).toNat
          · rw [if_pos z] at e'; exact jn e'.symm
          · rw [if_neg z] at e'
            exact hnl i' (by omega) e'
        · by_cases z : (i' : Int) < n
          · exact hu i' z ((hpo i' j z).mp hp2)
          · rw [show i' = n.toNat by omega] at hp2
            exfalso
            rcases (hpn j).mp hp2 with q | q
            · rcases (hab ()).1 with y1 | ⟨i2, a1, a2, a3⟩
              · omega
              · exact hnl i2 a1 (a3.trans q)
            · rcases (hab ()).2 with y1 | ⟨i2, a1, a2, a3⟩
              · omega
              · exact hnl i2 a1 (a3.trans q)
theorem TR_digit {n lp v : Int} {K U L V D lq : Nat → Int} (h : TRc n K U L V D lp lq) {j : Nat} (hj : K j = 48) (hv : 0 ≤ v ∧ v ≤ 999) : TRc n K (up U j v) L V D lp lq := by
  have el : ∀ k : Nat, lks (XE K (up U j v) L V) k = lks (XE K U L V) k := fun k => lks_congr k (fun _ _ => rfl)
  have ed : ∀ k : Nat, dps (XE K (up U j v) L V) k = dps (XE K U L V) k := fun k => dps_congr k (fun _ _ => ⟨rfl, rfl⟩)
  obtain ⟨t1, t2, t3, t4, t5, t6⟩ := h
  refine ⟨t1, fun k hk => ?_, by rw [el]; exact t3, t4, t5, t6⟩
  obtain ⟨w, d, l⟩ := t2 k hk
  refine ⟨?_, by rw [ed]; exact d, by unfold lkn at l ⊢; rw [el]; exact l⟩
  by_cases e : k = j
  · subst e
    have hK : eK (XE K U L V) k = 48 := hj
    have q : eL (XE K U L V) k = -1 ∧ eV (XE K U L V) k = -1 := by unfold WFK at w; omega
    exact Or.inl ⟨hj, by show 0 ≤ up U k v k; rw [up_s]; exact hv.1, by show up U k v k ≤ 999; rw [up_s]; exact hv.2, q.1, q.2⟩
  · exact WFK_congr (E := XE K U L V) (E' := XE K (up U j v) L V) rfl (show up U j v k = U k from up_n e) rfl rfl w
theorem put0_up {f : Nat → Int} {n x : Int} (h : 0 ≤ n ∧ n < 40) : put0 40 f n x = up f n.toNat x := by
  unfold put0
  rw [if_pos (by omega)]
def TRE (B : BT) : Prop := TRc (bN B) (bK B) (bU B) (bL B) (bV B) (bD B) (lP B) (lQ B)
theorem TRE_mk {K U L V D E lq wq : Nat → Int} {n z lp wp k u a b : Int} (hn : 0 ≤ n ∧ n < 40) (hl : 0 ≤ lp ∧ lp < 40) (h : TRc (n + 1) (up K n.toNat k) (up U n.toNat u) (up L n.toNat a) (up V n.toNat b) (up D n.toNat (1 + max (at0 40 D a) (at0 40 D b))) (lp + 1) (up lq lp.toNat n)) : TRE (sAdd (mkB K U L V D E n z lp lq wp wq) k u a b) := by
  show TRc (min (n + 1) 40) (put0 40 K n k) (put0 40 U n u) (put0 40 L n a) (put0 40 V n b) (put0 40 D n (1 + max (at0 40 D a) (at0 40 D b))) (pN lp) (pF lp lq n)
  rw [show min (n + 1) 40 = n + 1 by omega, put0_up hn, put0_up hn, put0_up hn, put0_up hn, put0_up hn, show pN lp = lp + 1 by unfold pN; rw [if_pos (by omega)], show pF lp lq n = up lq lp.toNat n by unfold pF; rw [if_pos (by omega)]]
  exact h
theorem TRE_leaf {B : BT} {k u : Int} (h : TRE B) (hn : bN B < 40) (hk : (k = 120 ∧ u = 0) ∨ (k = 48 ∧ 0 ≤ u ∧ u ≤ 999)) : TRE (sAdd B k u (-1) (-1)) := by
  have t1 := h.1
  have e : ary k = 0 := by rcases hk with ⟨rfl, -⟩ | ⟨rfl, -⟩ <;> decide
  have t := TR_add (k := k) (u := u) (a := -1) (b := -1) h hn (by omega) (WFK_mk (by omega)) (fun _ => ⟨rfl, rfl⟩) (fun q => by omega) (fun q => by omega)
  rw [e, Int.sub_zero] at t
  exact TRE_mk (K := bK B) (U := bU B) (L := bL B) (V := bV B) (D := bD B) (E := bE B) (n := bN B) (z := bZ B) (lp := lP B) (lq := lQ B) (wp := wP B) (wq := wQ B) ⟨t1.1, hn⟩ (by omega) t
theorem lTop_v {B : BT} (h : 0 < lP B) : lTop B = lQ B (lP B - 1).toNat := by
  show tp (lP B) (lQ B) = _
  unfold tp
  rw [if_pos h]
theorem TRE_un {B : BT} {k u : Int} (h : TRE B) (hn : bN B < 40) (hl : 1 ≤ lP B) (hk : (k = 110 ∧ u = 0) ∨ (k = 94 ∧ 0 ≤ u ∧ u ≤ 9) ∨ (k = 99 ∧ 0 ≤ u ∧ u ≤ 3)) : TRE (sAdd (sLPop B) k u (lTop B) (-1)) := by
  have t1 := h.1
  have t3 := h.2.2.1.2 (lP B - 1).toNat (by omega)
  have e : ary k = 1 := by rcases hk with ⟨rfl, -⟩ | ⟨rfl, -⟩ | ⟨rfl, -⟩ <;> decide
  have ev := lTop_v (B := B) (by omega)
  have eo : oN (lP B) = lP B - 1 := by unfold oN; rw [if_pos (by omega)]
  have t := TR_add (k := k) (u := u) (a := lTop B) (b := -1) h hn (by omega) (WFK_mk (by omega)) (fun q => by omega) (fun _ => ⟨ev, rfl⟩) (fun q => by omega)
  rw [e] at t
  exact TRE_mk (K := bK B) (U := bU B) (L := bL B) (V := bV B) (D := bD B) (E := bE B) (n := bN B) (z := bZ B) (lp := oN (lP B)) (lq := lQ B) (wp := wP B) (wq := wQ B) ⟨t1.1, hn⟩ (by omega) (by rw [eo]; exact t)
theorem TRE_bin {B : BT} {k : Int} (h : TRE B) (hn : bN B < 40) (hl : 2 ≤ lP B) (hk : k = 43 ∨ k = 45 ∨ k = 42 ∨ k = 47) : TRE (sAdd (sLPop (sLPop B)) k 0 (lTop (sLPop B)) (lTop B)) := by
  have t1 := h.1
  have t3 := h.2.2.1.2 (lP B - 1).toNat (by omega)
  have t3' := h.2.2.1.2 (lP B - 2).toNat (by omega)
  have t4 := h.2.2.2.1 (lP B - 2).toNat (lP B - 1).toNat (by omega) (by omega)
  have e : ary k = 2 := by rcases hk with rfl | rfl | rfl | rfl <;> decide
  have ev := lTop_v (B := B) (by omega)
  have eo : oN (lP B) = lP B - 1 := by unfold oN; rw [if_pos (by omega)]
  have eo2 : oN (lP B - 1) = lP B - 2 := by unfold oN; rw [if_pos (by omega)]; omega
  have ev2 : lTop (sLPop B) = lQ B (lP B - 2).toNat := by
    show tp (oN (lP B)) (lQ B) = _
    rw [eo]
    unfold tp
    rw [if_pos (by omega), show lP B - 1 - 1 = lP B - 2 by omega]
  have t := TR_add (k := k) (u := 0) (a := lTop (sLPop B)) (b := lTop B) h hn (by omega) (WFK_mk (by omega)) (fun q => by omega) (fun q => by omega) (fun _ => ⟨ev, ev2⟩)
  rw [e] at t
  exact TRE_mk (K := bK B) (U := bU B) (L := bL B) (V := bV B) (D := bD B) (E := bE B) (n := bN B) (z := bZ B) (lp := oN (oN (lP B))) (lq := lQ B) (wp := wP B) (wq := wQ B) ⟨t1.1, hn⟩ (by rw [eo, eo2]; omega) (by rw [eo, eo2]; exact t)
/-- the least function that may have the nodes -/
theorem lea_congr {K U K' U' : Nat → Int} : ∀ (k : Nat) (i l : Int), 0 ≤ i → (∀ j : Nat, i ≤ j → (j : Int) < i + k → K j = K' j ∧ (K j = 8 → U j = U' j)) → lea K U k i l = lea K' U' k i l
  | 0, _, _, _, _ => rfl
  | k + 1, i, l, h0, h => by
    have q := h i.toNat (by omega) (by omega)
    have e : (if K i.toNat = 8 ∧ l ≤ U i.toNat then U i.toNat + 1 else l) = (if K' i.toNat = 8 ∧ l ≤ U' i.toNat then U' i.toNat + 1 else l) := by
      by_cases z : K i.toNat = 8
      · rw [← q.1, ← q.2 z]
      · rw [if_neg (fun y => z y.1), if_neg (fun y => z (q.1.trans y.1))]
    show lea K U k (i + 1) _ = lea K' U' k (i + 1) _
    rw [e]
    exact lea_congr k (i + 1) _ (by omega) (fun j a b => h j (by omega) (by omega))
theorem lea_snoc {K U : Nat → Int} : ∀ (k : Nat) (i l : Int), 0 ≤ i → lea K U (k + 1) i l = if K (i + k).toNat = 8 ∧ lea K U k i l ≤ U (i + k).toNat then U (i + k).toNat + 1 else lea K U k i l
  | 0, i, l, _ => by
    rw [show i + ((0 : Nat) : Int) = i by omega]
    rfl
  | k + 1, i, l, h => by
    have ih := lea_snoc (K := K) (U := U) k (i + 1) (if K i.toNat = 8 ∧ l ≤ U i.toNat then U i.toNat + 1 else l) (by omega)
    rw [show i + 1 + (k : Int) = i + ((k + 1 : Nat) : Int) by omega] at ih
    exact ih
def LEA (B : BT) : Prop := bZ B = lea (fun j => kc (bK B j)) (bU B) (bN B).toNat 0 0
theorem LEA_up {K U : Nat → Int} {n k u : Int} (hn : 0 ≤ n) : lea (fun j => kc (up K n.toNat k j)) (up U n.toNat u) (n.toNat + 1) 0 0 = if kc k = 8 ∧ lea (fun j => kc (K j)) U n.toNat 0 0 ≤ u then u + 1 else lea (fun j => kc (K j)) U n.toNat 0 0 := by
  rw [lea_snoc n.toNat 0 0 (by omega), show (0 + ((n.toNat : Nat) : Int)).toNat = n.toNat by omega]
  try dsimp only
  rw [up_s, up_s, lea_congr (K' := fun j => kc (K j)) (U' := U) n.toNat 0 0 (by omega) (fun j a b => ⟨by show kc (up K n.toNat k j) = kc (K j); rw [up_n (by omega)], fun _ => up_n (by omega)⟩)]
theorem LEA_add {B : BT} {k u a b : Int} (h : LEA B) (hn : 0 ≤ bN B ∧ bN B < 40) (hk : ¬ kc k = 8) : LEA (sAdd B k u a b) := by
  show bZ B = lea (fun j => kc (put0 40 (bK B) (bN B) k j)) (put0 40 (bU B) (bN B) u) (min (bN B + 1) 40).toNat 0 0
  rw [put0_up hn, put0_up hn, show (min (bN B + 1) 40).toNat = (bN B).toNat + 1 by omega, LEA_up hn.1, if_neg (fun z => hk z.1)]
  exact h
theorem LEA_call {B : BT} {f : Int} (h : LEA B) (hn : 0 ≤ bN B ∧ bN B < 40) : LEA (sCall B f) := by
  show max (bZ B) (f + 1) = lea (fun j => kc (put0 40 (bK B) (bN B) 99 j)) (put0 40 (bU B) (bN B) f) (min (bN B + 1) 40).toNat 0 0
  rw [put0_up hn, put0_up hn, show (min (bN B + 1) 40).toNat = (bN B).toNat + 1 by omega, LEA_up hn.1]
  have e : lea (fun j => kc (bK B j)) (bU B) (bN B).toNat 0 0 = bZ B := h.symm
  rw [e]
  have e8 : kc 99 = 8 := by decide
  by_cases z : bZ B ≤ f
  · rw [if_pos ⟨e8, z⟩]; omega
  · rw [if_neg (fun y => z y.2)]; omega
theorem LEA_digit {B : BT} {j d : Int} (h : LEA B) (hj : 0 ≤ j ∧ j < 40) (hk : bK B j.toNat = 48) : LEA (sDigit B j d) := by
  show bZ B = lea (fun i => kc (bK B i)) (put0 40 (bU B) j (at0 40 (bU B) j * 10 + d)) (bN B).toNat 0 0
  rw [put0_up hj]
  refine h.trans (lea_congr _ 0 0 (by omega) (fun i a b => ⟨rfl, fun z => ?_⟩))
  by_cases e : i = j.toNat
  · exfalso
    have z' : kc (bK B i) = 8 := z
    rw [e, hk] at z'
    exact absurd z' (by decide)
  · exact (up_n e).symm
