/-! a builder's loose nodes with their values and slopes: a stack machine -/
theorem evs_cgE {p : Int} {E E' : EX} {cv : Nat → Int → Int} {x : Int} : ∀ k : Nat, (∀ j, j < k → eK E j = eK E' j ∧ eU E j = eU E' j ∧ eL E j = eL E' j ∧ eV E j = eV E' j) → evs p E cv x k = evs p E' cv x k
  | 0, _ => rfl
  | k + 1, h => by
    have ih := evs_cgE (p := p) (cv := cv) (x := x) k (fun j hj => h j (by omega))
    obtain ⟨h1, h2, h3, h4⟩ := h k (by omega)
    have e : nvl p E cv x (evs p E' cv x k).1 k = nvl p E' cv x (evs p E' cv x k).1 k := by
      unfold nvl nvn
      rw [h1, h2, h3, h4]
    simp only [evs, ih, e]
theorem hns_cgE {p : Int} {E E' : EX} {cv ch : Nat → Int → Int} {x sx : Int} : ∀ k : Nat, (∀ j, j < k → eK E j = eK E' j ∧ eU E j = eU E' j ∧ eL E j = eL E' j ∧ eV E j = eV E' j) → hns p E cv ch x sx k = hns p E' cv ch x sx k
  | 0, _ => rfl
  | k + 1, h => by
    have ih := hns_cgE (p := p) (cv := cv) (ch := ch) (x := x) (sx := sx) k (fun j hj => h j (by omega))
    have ie := evs_cgE (p := p) (cv := cv) (x := x) k (fun j hj => h j (by omega))
    obtain ⟨h1, h2, h3, h4⟩ := h k (by omega)
    have e : nsl p E ch sx (evs p E' cv x k).1 (hns p E' cv ch x sx k) k = nsl p E' ch sx (evs p E' cv x k).1 (hns p E' cv ch x sx k) k := by
      unfold nsl
      rw [h1, h2, h3, h4]
    simp only [hns, ih, ie, e]
section NV
variable {p : Int} {E : EX} {cv ch : Nat → Int → Int} {x sx : Int} {w z : Nat → Int} {k : Nat}
theorem nv_48 (h : eK E k = 48) : nvl p E cv x w k = eU E k % p := by
  unfold nvl nvn
  rw [h, if_neg (by decide), if_pos rfl]
theorem nv_120 (h : eK E k = 120) : nvl p E cv x w k = x := by
  unfold nvl nvn
  rw [h, if_neg (by decide), if_neg (by decide), if_pos rfl]
theorem nv_110 (h : eK E k = 110) : nvl p E cv x w k = (0 - gv w (eL E k)) % p := by
  unfold nvl nvn
  rw [h, if_neg (by decide), if_neg (by decide), if_neg (by decide), if_pos rfl]
theorem nv_43 (h : eK E k = 43) : nvl p E cv x w k = (gv w (eL E k) + gv w (eV E k)) % p := by
  unfold nvl nvn
  rw [h, if_neg (by decide), if_neg (by decide), if_neg (by decide), if_neg (by decide), if_pos rfl]
theorem nv_45 (h : eK E k = 45) : nvl p E cv x w k = (gv w (eL E k) - gv w (eV E k)) % p := by
  unfold nvl nvn
  rw [h, if_neg (by decide), if_neg (by decide), if_neg (by decide), if_neg (by decide), if_neg (by decide), if_pos rfl]
theorem nv_42 (h : eK E k = 42) : nvl p E cv x w k = gv w (eL E k) * gv w (eV E k) % p := by
  unfold nvl nvn
  rw [h, if_neg (by decide), if_neg (by decide), if_neg (by decide), if_neg (by decide), if_neg (by decide), if_neg (by decide), if_pos rfl]
theorem nv_47 (h : eK E k = 47) : nvl p E cv x w k = if gv w (eV E k) = 0 then -1 else gv w (eL E k) * inv' p (gv w (eV E k)) % p := by
  unfold nvl nvn
  rw [h, if_neg (by decide), if_neg (by decide), if_neg (by decide), if_neg (by decide), if_neg (by decide), if_neg (by decide), if_neg (by decide), if_pos rfl]
theorem nv_94 (h : eK E k = 94) : nvl p E cv x w k = gv w (eL E k) ^ (eU E k).toNat % p := by
  unfold nvl nvn
  rw [h, if_neg (by decide), if_neg (by decide), if_neg (by decide), if_neg (by decide), if_neg (by decide), if_neg (by decide), if_neg (by decide), if_neg (by decide), if_pos rfl]
theorem ns_48 (h : eK E k = 48) : nsl p E ch sx w z k = 0 := by
  unfold nsl
  rw [h, if_neg (by decide), if_neg (by decide), if_neg (by decide), if_neg (by decide), if_neg (by decide), if_neg (by decide), if_neg (by decide), if_neg (by decide)]
theorem ns_120 (h : eK E k = 120) : nsl p E ch sx w z k = sx := by
  unfold nsl
  rw [h, if_pos rfl]
theorem ns_110 (h : eK E k = 110) : nsl p E ch sx w z k = (0 - gv z (eL E k)) % p := by
  unfold nsl
  rw [h, if_neg (by decide), if_pos rfl]
theorem ns_43 (h : eK E k = 43) : nsl p E ch sx w z k = (gv z (eL E k) + gv z (eV E k)) % p := by
  unfold nsl
  rw [h, if_neg (by decide), if_neg (by decide), if_pos rfl]
theorem ns_45 (h : eK E k = 45) : nsl p E ch sx w z k = (gv z (eL E k) - gv z (eV E k)) % p := by
  unfold nsl
  rw [h, if_neg (by decide), if_neg (by decide), if_neg (by decide), if_pos rfl]
theorem ns_42 (h : eK E k = 42) : nsl p E ch sx w z k = (gv z (eL E k) * gv w (eV E k) + gv w (eL E k) * gv z (eV E k)) % p := by
  unfold nsl
  rw [h, if_neg (by decide), if_neg (by decide), if_neg (by decide), if_neg (by decide), if_pos rfl]
theorem ns_47 (h : eK E k = 47) : nsl p E ch sx w z k = ((gv z (eL E k) * gv w (eV E k) - gv w (eL E k) * gv z (eV E k)) % p) * inv' p (gv w (eV E k) * gv w (eV E k) % p) % p := by
  unfold nsl
  rw [h, if_neg (by decide), if_neg (by decide), if_neg (by decide), if_neg (by decide), if_neg (by decide), if_pos rfl]
theorem ns_94 (h : eK E k = 94) : nsl p E ch sx w z k = (eU E k * (gv w (eL E k) ^ (eU E k - 1).toNat % p) % p) * gv z (eL E k) % p := by
  unfold nsl
  rw [h, if_neg (by decide), if_neg (by decide), if_neg (by decide), if_neg (by decide), if_neg (by decide), if_neg (by decide), if_pos rfl]
end NV
/-- values and slopes of the nodes that a row tells, the last one first -/
def lvk (w z Q : Nat → Int) : Nat → List (Int × Int)
  | 0 => []
  | k + 1 => (w (Q k).toNat, z (Q k).toNat) :: lvk w z Q k
theorem lvk_cg {w z Q w' z' Q' : Nat → Int} : ∀ k : Nat, (∀ i, i < k → w' (Q' i).toNat = w (Q i).toNat ∧ z' (Q' i).toNat = z (Q i).toNat) → lvk w' z' Q' k = lvk w z Q k
  | 0, _ => rfl
  | k + 1, h => by
    have ih := lvk_cg (w := w) (z := z) (Q := Q) (w' := w') (z' := z') (Q' := Q') k (fun i hi => h i (by omega))
    have q := h k (by omega)
    simp only [lvk, ih, q.1, q.2]
theorem lvk_cons {w z Q : Nat → Int} {k : Nat} {v s : Int} {l : List (Int × Int)} (h : lvk w z Q (k + 1) = (v, s) :: l) : w (Q k).toNat = v ∧ z (Q k).toNat = s ∧ lvk w z Q k = l := by
  have e : lvk w z Q (k + 1) = (w (Q k).toNat, z (Q k).toNat) :: lvk w z Q k := rfl
  rw [e] at h
  injection h with h1 h2
  injection h1 with h3 h4
  exact ⟨h3, h4, h2⟩
/-- what waits -/
def skc (Q : Nat → Int) : Nat → List Int
  | 0 => []
  | k + 1 => Q k :: skc Q k
def cs (B : BT) : List Int := skc (wQ B) (wP B).toNat
theorem skc_up {Q : Nat → Int} {j : Nat} {v : Int} : ∀ k : Nat, k ≤ j → skc (up Q j v) k = skc Q k
  | 0, _ => rfl
  | k + 1, h => by
    show up Q j v k :: skc (up Q j v) k = Q k :: skc Q k
    rw [up_n (by omega), skc_up k (by omega)]
theorem skc_len (Q : Nat → Int) : ∀ k : Nat, (skc Q k).length = k
  | 0 => rfl
  | k + 1 => by
    show (Q k :: skc Q k).length = k + 1
    rw [List.length_cons, skc_len Q k]
theorem cs_wait {B : BT} {c : Int} (h : 0 ≤ wP B ∧ wP B < 40) : cs (sWait B c) = c :: cs B := by
  show skc (pF (wP B) (wQ B) c) (pN (wP B)).toNat = _
  unfold pN pF
  rw [if_pos h.2, if_pos h.2, show (wP B + 1).toNat = (wP B).toNat + 1 by omega]
  show up (wQ B) (wP B).toNat c (wP B).toNat :: skc (up (wQ B) (wP B).toNat c) (wP B).toNat = c :: skc (wQ B) (wP B).toNat
  rw [up_s, skc_up _ (Nat.le_refl _)]
theorem cs_pos {B : BT} (h : 0 < wP B) : cs B = wTop B :: cs (sWPop B) := by
  have e1 : wTop B = wQ B (wP B - 1).toNat := by
    show tp (wP B) (wQ B) = _
    unfold tp
    rw [if_pos h]
  have e2 : cs (sWPop B) = skc (wQ B) (wP B - 1).toNat := by
    show skc (wQ B) (oN (wP B)).toNat = _
    unfold oN
    rw [if_pos h]
  rw [e1, e2]
  unfold cs
  rw [show (wP B).toNat = (wP B - 1).toNat + 1 by omega]
  rfl
theorem cs_0 {B : BT} (h : wP B ≤ 0) : cs B = [] ∧ wTop B = -1 := by
  refine ⟨?_, ?_⟩
  · unfold cs
    rw [show (wP B).toNat = 0 by omega]
    rfl
  · show tp (wP B) (wQ B) = -1
    unfold tp
    rw [if_neg (by omega)]
theorem cs_cons {B : BT} {c : Int} {l : List Int} (h : cs B = c :: l) : 0 < wP B ∧ wTop B = c ∧ cs (sWPop B) = l := by
  by_cases z : 0 < wP B
  · rw [cs_pos z] at h
    injection h with h1 h2
    exact ⟨z, h1, h2⟩
  · rw [(cs_0 (B := B) (by omega)).1] at h
    cases h
theorem cs_nil {B : BT} (h : cs B = []) (h0 : 0 ≤ wP B) : wP B = 0 ∧ wTop B = -1 := by
  by_cases z : 0 < wP B
  · rw [cs_pos z] at h
    cases h
  · exact ⟨by omega, (cs_0 (by omega)).2⟩
theorem cs_len {B : BT} (h0 : 0 ≤ wP B) : wP B = (cs B).length := by
  unfold cs
  rw [skc_len]
  omega
/-- n nodes, the loose ones with values and slopes vs, what waits ws; no division was banned -/
def IT (p x : Int) (cv ch : Nat → Int → Int) (B : BT) (n : Int) (vs : List (Int × Int)) (ws : List Int) : Prop :=
  TRE B ∧ (bZ B = 0 ∧ bN B = n ∧ 0 ≤ wP B) ∧ cs B = ws ∧ lP B = (vs.length : Nat) ∧
  lvk (evs p (XE (bK B) (bU B) (bL B) (bV B)) cv x n.toNat).1 (hns p (XE (bK B) (bU B) (bL B) (bV B)) cv ch x 1 n.toNat) (lQ B) vs.length = vs ∧
  (evs p (XE (bK B) (bU B) (bL B) (bV B)) cv x n.toNat).2 = true
theorem IT_core {p x : Int} {cv ch : Nat → Int → Int} {K U L V D E lq wq : Nat → Int} {n z lp wp k u a b v s : Int} {vs0 : List (Int × Int)}
    (hn : 0 ≤ n ∧ n < 40) (hz : z = 0) (hw : 0 ≤ wp) (hlp : lp = (vs0.length : Nat)) (hl4 : lp < 40)
    (hq : ∀ i : Nat, (i : Int) < lp → 0 ≤ lq i ∧ lq i < n)
    (hvs : lvk (evs p (XE K U L V) cv x n.toNat).1 (hns p (XE K U L V) cv ch x 1 n.toNat) lq vs0.length = vs0)
    (hok : (evs p (XE K U L V) cv x n.toNat).2 = true)
    (ht : TRc (n + 1) (up K n.toNat k) (up U n.toNat u) (up L n.toNat a) (up V n.toNat b) (lp + 1) (up lq lp.toNat n))
    (hv : nvl p (XE (up K n.toNat k) (up U n.toNat u) (up L n.toNat a) (up V n.toNat b)) cv x (evs p (XE K U L V) cv x n.toNat).1 n.toNat = v) (hv1 : ¬ v = -1)
    (hs : nsl p (XE (up K n.toNat k) (up U n.toNat u) (up L n.toNat a) (up V n.toNat b)) ch 1 (evs p (XE K U L V) cv x n.toNat).1 (hns p (XE K U L V) cv ch x 1 n.toNat) n.toNat = s) :
    IT p x cv ch (sAdd (mkB K U L V D E n z lp lq wp wq) k u a b) (n + 1) ((v, s) :: vs0) (skc wq wp.toNat) := by
  have hag : ∀ j, j < n.toNat → eK (XE (up K n.toNat k) (up U n.toNat u) (up L n.toNat a) (up V n.toNat b)) j = eK (XE K U L V) j ∧ eU (XE (up K n.toNat k) (up U n.toNat u) (up L n.toNat a) (up V n.toNat b)) j = eU (XE K U L V) j ∧ eL (XE (up K n.toNat k) (up U n.toNat u) (up L n.toNat a) (up V n.toNat b)) j = eL (XE K U L V) j ∧ eV (XE (up K n.toNat k) (up U n.toNat u) (up L n.toNat a) (up V n.toNat b)) j = eV (XE K U L V) j := fun j hj => ⟨(up_n (by omega) : up K n.toNat k j = K j), (up_n (by omega) : up U n.toNat u j = U j), (up_n (by omega) : up L n.toNat a j = L j), (up_n (by omega) : up V n.toNat b j = V j)⟩
  have he := evs_cgE (p := p) (cv := cv) (x := x) n.toNat hag
  have hh9 := hns_cgE (p := p) (cv := cv) (ch := ch) (x := x) (sx := 1) n.toNat hag
  rw [sAdd_eq hn (by omega)]
  generalize hE1 : XE (up K n.toNat k) (up U n.toNat u) (up L n.toNat a) (up V n.toNat b) = E1 at *
  have e1 : evs p E1 cv x (n + 1).toNat = (up (evs p (XE K U L V) cv x n.toNat).1 n.toNat v, (evs p (XE K U L V) cv x n.toNat).2 && decide (¬ v = -1)) := by
    rw [show (n + 1).toNat = n.toNat + 1 by omega]
    show (up (evs p E1 cv x n.toNat).1 n.toNat (nvl p E1 cv x (evs p E1 cv x n.toNat).1 n.toNat), (evs p E1 cv x n.toNat).2 && decide (¬ nvl p E1 cv x (evs p E1 cv x n.toNat).1 n.toNat = -1)) = _
    rw [he, hv]
  have e2 : hns p E1 cv ch x 1 (n + 1).toNat = up (hns p (XE K U L V) cv ch x 1 n.toNat) n.toNat s := by
    rw [show (n + 1).toNat = n.toNat + 1 by omega]
    show up (hns p E1 cv ch x 1 n.toNat) n.toNat (nsl p E1 ch 1 (evs p E1 cv x n.toNat).1 (hns p E1 cv ch x 1 n.toNat) n.toNat) = _
    rw [he, hh9, hs]
  refine ⟨ht, ⟨hz, rfl, hw⟩, rfl, ?_, ?_, ?_⟩
  · show lp + 1 = (((v, s) :: vs0).length : Nat)
    rw [List.length_cons]
    omega
  · show lvk (evs p (XE (up K n.toNat k) (up U n.toNat u) (up L n.toNat a) (up V n.toNat b)) cv x (n + 1).toNat).1 (hns p (XE (up K n.toNat k) (up U n.toNat u) (up L n.toNat a) (up V n.toNat b)) cv ch x 1 (n + 1).toNat) (up lq lp.toNat n) ((v, s) :: vs0).length = _
    rw [hE1, e1, e2, List.length_cons]
    show (up (evs p (XE K U L V) cv x n.toNat).1 n.toNat v (up lq lp.toNat n vs0.length).toNat, up (hns p (XE K U L V) cv ch x 1 n.toNat) n.toNat s (up lq lp.toNat n vs0.length).toNat) :: lvk (up (evs p (XE K U L V) cv x n.toNat).1 n.toNat v) (up (hns p (XE K U L V) cv ch x 1 n.toNat) n.toNat s) (up lq lp.toNat n) vs0.length = _
    rw [show lp.toNat = vs0.length by omega, up_s, up_s, up_s, lvk_cg (w := (evs p (XE K U L V) cv x n.toNat).1) (z := hns p (XE K U L V) cv ch x 1 n.toNat) (Q := lq) vs0.length (fun i hi => ?_), hvs]
    have hqi := hq i (by omega)
    rw [up_n (f := lq) (by omega), up_n (by omega), up_n (by omega)]
    exact ⟨rfl, rfl⟩
  · show (evs p (XE (up K n.toNat k) (up U n.toNat u) (up L n.toNat a) (up V n.toNat b)) cv x (n + 1).toNat).2 = true
    rw [hE1, e1]
    show ((evs p (XE K U L V) cv x n.toNat).2 && decide (¬ v = -1)) = true
    rw [hok, decide_eq_true hv1]
    rfl
theorem IT_r {p x : Int} {cv ch : Nat → Int → Int} {B : BT} {n : Int} {vs : List (Int × Int)} {ws : List Int} (h : IT p x cv ch B n vs ws) : 0 ≤ n ∧ n ≤ 40 ∧ (vs.length : Int) ≤ n ∧ wP B = (ws.length : Nat) := by
  obtain ⟨ht, ⟨-, hbn, hw⟩, hc, hl, -, -⟩ := h
  have t1 := ht.1
  have := cs_len hw
  rw [hc] at this
  omega
/-- x, and a number -/
theorem IT_leaf {p x : Int} {cv ch : Nat → Int → Int} {B : BT} {n k u v s : Int} {vs : List (Int × Int)} {ws : List Int} (h : IT p x cv ch B n vs ws) (hn : n < 40) (hk : (k = 120 ∧ u = 0) ∨ (k = 48 ∧ 0 ≤ u ∧ u ≤ 999))
    (hv : ∀ (E : EX) (m : Nat) (w z : Nat → Int), eK E m = k → eU E m = u → nvl p E cv x w m = v ∧ nsl p E ch 1 w z m = s) (hv1 : ¬ v = -1) : IT p x cv ch (sAdd B k u (-1) (-1)) (n + 1) ((v, s) :: vs) ws := by
  obtain ⟨ht, ⟨hz, hbn, hw⟩, hc, hl, hvs, hok⟩ := h
  subst hbn
  subst hc
  have t1 := ht.1
  have e : ary k = 0 := by rcases hk with ⟨rfl, -⟩ | ⟨rfl, -⟩ <;> decide
  have t := TR_add (k := k) (u := u) (a := -1) (b := -1) ht hn (by omega) (WFK_mk (by omega)) (fun _ => ⟨rfl, rfl⟩) (fun q => by omega) (fun q => by omega)
  rw [e, Int.sub_zero] at t
  have q := hv (XE (up (bK B) (bN B).toNat k) (up (bU B) (bN B).toNat u) (up (bL B) (bN B).toNat (-1)) (up (bV B) (bN B).toNat (-1))) (bN B).toNat (evs p (XE (bK B) (bU B) (bL B) (bV B)) cv x (bN B).toNat).1 (hns p (XE (bK B) (bU B) (bL B) (bV B)) cv ch x 1 (bN B).toNat) (up_s : up (bK B) (bN B).toNat k (bN B).toNat = k) (up_s : up (bU B) (bN B).toNat u (bN B).toNat = u)
  exact IT_core (K := bK B) (U := bU B) (L := bL B) (V := bV B) (D := bD B) (E := bE B) (n := bN B) (z := bZ B) (lp := lP B) (lq := lQ B) (wp := wP B) (wq := wQ B) ⟨t1.1, hn⟩ hz hw hl (by omega) (fun i hi => ht.2.2.1 i hi) hvs hok t q.1 hv1 q.2
/-- a sign before an atom, a power -/
theorem IT_un {p x : Int} {cv ch : Nat → Int → Int} {B : BT} {n k u v s v' s' wp : Int} {wq : Nat → Int} {vs : List (Int × Int)} {ws : List Int} (h : IT p x cv ch B n ((v, s) :: vs) ws) (hn : n < 40) (hk : (k = 110 ∧ u = 0) ∨ (k = 94 ∧ 0 ≤ u ∧ u ≤ 9)) (hwp : 0 ≤ wp)
    (hv : ∀ (E : EX) (m : Nat) (w z : Nat → Int), eK E m = k → eU E m = u → gv w (eL E m) = v → gv z (eL E m) = s → nvl p E cv x w m = v' ∧ nsl p E ch 1 w z m = s') (hv1 : ¬ v' = -1) :
    IT p x cv ch (sAdd (mkB (bK B) (bU B) (bL B) (bV B) (bD B) (bE B) (bN B) (bZ B) (oN (lP B)) (lQ B) wp wq) k u (lTop B) (-1)) (n + 1) ((v', s') :: vs) (skc wq wp.toNat) := by
  obtain ⟨ht, ⟨hz, hbn, hw⟩, hc, hl, hvs, hok⟩ := h
  subst hbn
  have t1 := ht.1
  rw [List.length_cons] at hl hvs
  have t3 := ht.2.2.1 vs.length (by omega)
  have e : ary k = 1 := by rcases hk with ⟨rfl, -⟩ | ⟨rfl, -⟩ <;> decide
  have ev := lTop_v (B := B) (by omega)
  have el : (lP B - 1).toNat = vs.length := by omega
  have eo : oN (lP B) = (vs.length : Nat) := by unfold oN; rw [if_pos (by omega)]; omega
  have ea : ary k = 1 → lTop B = lQ B (lP B - 1).toNat ∧ (-1 : Int) = -1 := fun _ => ⟨ev, rfl⟩
  have t := TR_add (k := k) (u := u) (a := lTop B) (b := -1) ht hn (by omega) (WFK_mk (by rw [ev, el]; omega)) (fun q => by omega) ea (fun q => by omega)
  rw [e, show lP B - 1 = ((vs.length : Nat) : Int) by omega] at t
  rw [ev, el] at t ⊢
  obtain ⟨c1, c2, c3⟩ := lvk_cons hvs
  have q := hv (XE (up (bK B) (bN B).toNat k) (up (bU B) (bN B).toNat u) (up (bL B) (bN B).toNat (lQ B vs.length)) (up (bV B) (bN B).toNat (-1))) (bN B).toNat (evs p (XE (bK B) (bU B) (bL B) (bV B)) cv x (bN B).toNat).1 (hns p (XE (bK B) (bU B) (bL B) (bV B)) cv ch x 1 (bN B).toNat) (up_s : up (bK B) (bN B).toNat k (bN B).toNat = k) (up_s : up (bU B) (bN B).toNat u (bN B).toNat = u)
    (by rw [show eL (XE (up (bK B) (bN B).toNat k) (up (bU B) (bN B).toNat u) (up (bL B) (bN B).toNat (lQ B vs.length)) (up (bV B) (bN B).toNat (-1))) (bN B).toNat = lQ B vs.length from up_s, gv_of (by omega)]; exact c1)
    (by rw [show eL (XE (up (bK B) (bN B).toNat k) (up (bU B) (bN B).toNat u) (up (bL B) (bN B).toNat (lQ B vs.length)) (up (bV B) (bN B).toNat (-1))) (bN B).toNat = lQ B vs.length from up_s, gv_of (by omega)]; exact c2)
  exact IT_core (K := bK B) (U := bU B) (L := bL B) (V := bV B) (D := bD B) (E := bE B) (n := bN B) (z := bZ B) (lp := oN (lP B)) (lq := lQ B) (wp := wp) (wq := wq) ⟨t1.1, hn⟩ hz hwp eo (by omega) (fun i hi => ht.2.2.1 i (by omega)) c3 hok (by rw [eo]; exact t) q.1 hv1 q.2
/-- two parts -/
theorem IT_bin {p x : Int} {cv ch : Nat → Int → Int} {B : BT} {n k v1 s1 v2 s2 v' s' wp : Int} {wq : Nat → Int} {vs : List (Int × Int)} {ws : List Int} (h : IT p x cv ch B n ((v2, s2) :: (v1, s1) :: vs) ws) (hn : n < 40) (hk : k = 43 ∨ k = 45 ∨ k = 42 ∨ k = 47) (hwp : 0 ≤ wp)
    (hv : ∀ (E : EX) (m : Nat) (w z : Nat → Int), eK E m = k → gv w (eL E m) = v1 → gv z (eL E m) = s1 → gv w (eV E m) = v2 → gv z (eV E m) = s2 → nvl p E cv x w m = v' ∧ nsl p E ch 1 w z m = s') (hv1 : ¬ v' = -1) :
    IT p x cv ch (sAdd (mkB (bK B) (bU B) (bL B) (bV B) (bD B) (bE B) (bN B) (bZ B) (oN (oN (lP B))) (lQ B) wp wq) k 0 (lTop (sLPop B)) (lTop B)) (n + 1) ((v', s') :: vs) (skc wq wp.toNat) := by
  obtain ⟨ht, ⟨hz, hbn, hw⟩, hc, hl, hvs, hok⟩ := h
  subst hbn
  have t1 := ht.1
  rw [List.length_cons, List.length_cons] at hl hvs
  have t3 := ht.2.2.1 vs.length (by omega)
  have t3' := ht.2.2.1 (vs.length + 1) (by omega)
  have t4 := ht.2.2.2.1 vs.length (vs.length + 1) (by omega) (by omega)
  have e : ary k = 2 := by rcases hk with rfl | rfl | rfl | rfl <;> decide
  have ev := lTop_v (B := B) (by omega)
  have el : (lP B - 1).toNat = vs.length + 1 := by omega
  have el2 : (lP B - 2).toNat = vs.length := by omega
  have eo1 : oN (lP B) = lP B - 1 := by unfold oN; rw [if_pos (by omega)]
  have eo : oN (oN (lP B)) = (vs.length : Nat) := by rw [eo1]; unfold oN; rw [if_pos (by omega)]; omega
  have ev2 : lTop (sLPop B) = lQ B (lP B - 2).toNat := by
    show tp (oN (lP B)) (lQ B) = _
    rw [eo1]
    unfold tp
    rw [if_pos (by omega), show lP B - 1 - 1 = lP B - 2 by omega]
  have ea : ary k = 2 → lTop B = lQ B (lP B - 1).toNat ∧ lTop (sLPop B) = lQ B (lP B - 2).toNat := fun _ => ⟨ev, ev2⟩
  have t := TR_add (k := k) (u := 0) (a := lTop (sLPop B)) (b := lTop B) ht hn (by omega) (WFK_mk (by rw [ev, ev2, el, el2]; omega)) (fun q => by omega) (fun q => by omega) ea
  rw [e, show lP B - 2 = ((vs.length : Nat) : Int) by omega] at t
  rw [ev, ev2, el, el2] at t ⊢
  obtain ⟨c1, c2, c3⟩ := lvk_cons hvs
  obtain ⟨d1, d2, d3⟩ := lvk_cons c3
  have fL9 : eL (XE (up (bK B) (bN B).toNat k) (up (bU B) (bN B).toNat 0) (up (bL B) (bN B).toNat (lQ B vs.length)) (up (bV B) (bN B).toNat (lQ B (vs.length + 1)))) (bN B).toNat = lQ B vs.length := up_s
  have fV9 : eV (XE (up (bK B) (bN B).toNat k) (up (bU B) (bN B).toNat 0) (up (bL B) (bN B).toNat (lQ B vs.length)) (up (bV B) (bN B).toNat (lQ B (vs.length + 1)))) (bN B).toNat = lQ B (vs.length + 1) := up_s
  have q := hv (XE (up (bK B) (bN B).toNat k) (up (bU B) (bN B).toNat 0) (up (bL B) (bN B).toNat (lQ B vs.length)) (up (bV B) (bN B).toNat (lQ B (vs.length + 1)))) (bN B).toNat (evs p (XE (bK B) (bU B) (bL B) (bV B)) cv x (bN B).toNat).1 (hns p (XE (bK B) (bU B) (bL B) (bV B)) cv ch x 1 (bN B).toNat) (up_s : up (bK B) (bN B).toNat k (bN B).toNat = k)
    (by rw [fL9, gv_of (by omega)]; exact d1) (by rw [fL9, gv_of (by omega)]; exact d2) (by rw [fV9, gv_of (by omega)]; exact c1) (by rw [fV9, gv_of (by omega)]; exact c2)
  exact IT_core (K := bK B) (U := bU B) (L := bL B) (V := bV B) (D := bD B) (E := bE B) (n := bN B) (z := bZ B) (lp := oN (oN (lP B))) (lq := lQ B) (wp := wp) (wq := wq) ⟨t1.1, hn⟩ hz hwp eo (by omega) (fun i hi => ht.2.2.1 i (by omega)) d3 hok (by rw [eo]; exact t) q.1 hv1 q.2
