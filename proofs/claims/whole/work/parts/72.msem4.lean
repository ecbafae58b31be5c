/-! shares of the slope, and what the reference knows of the functions -/
theorem shl0 {Sh : Nat → Int} {l r x y : Int} (hl : l = -1) (hr : r = -1) : ∀ j : Nat, Sh j = if (j : Int) = r then x else if (j : Int) = l then y else Sh j := fun j => by
  rw [if_neg (by omega), if_neg (by omega)]
theorem shl1 {Sh : Nat → Int} {l r x y v : Int} (hl : 0 ≤ l) (hr : r = -1) (e : v = y) : ∀ j : Nat, up Sh l.toNat v j = if (j : Int) = r then x else if (j : Int) = l then y else Sh j := fun j => by
  rw [if_neg (by omega)]
  unfold up
  by_cases q : (j : Int) = l
  · rw [if_pos q, if_pos (by omega), e]
  · rw [if_neg q, if_neg (by omega)]
theorem shl2 {Sh : Nat → Int} {l r x y v w : Int} (hl : 0 ≤ l) (hr : 0 ≤ r) (e : v = y) (e2 : w = x) : ∀ j : Nat, up (up Sh l.toNat v) r.toNat w j = if (j : Int) = r then x else if (j : Int) = l then y else Sh j := fun j => by
  unfold up
  by_cases p : (j : Int) = r
  · rw [if_pos p, if_pos (by omega), e2]
  · rw [if_neg p, if_neg (by omega)]
    by_cases q : (j : Int) = l
    · rw [if_pos q, if_pos (by omega), e]
    · rw [if_neg q, if_neg (by omega)]
theorem shl3 {Sh : Nat → Int} {l r x y : Int} (hl : 0 ≤ l) (hr : r = -1) (h0 : Sh l.toNat = 0) (e : y = 0) : ∀ j : Nat, Sh j = if (j : Int) = r then x else if (j : Int) = l then y else Sh j := fun j => by
  rw [if_neg (by omega)]
  by_cases q : (j : Int) = l
  · rw [if_pos q, e, ← h0, show l.toNat = j by omega]
  · rw [if_neg q]
theorem sh_neg {a p : Int} : (0 - a) % p = a * ((0 - 1) % p) % p := cg_emod (cg_symm (cg_trans (cg_mul (cg_rfl p a) (cg_mod p (0 - 1))) (cg_of_eq (by omega))))
theorem sh_div {a u y p : Int} : (0 - a * u % p * y) % p = a * ((0 - u) % p * y % p) % p := by
  refine cg_emod (cg_trans (b := 0 - a * u * y) (cg_sub (cg_rfl p 0) (cg_mul (cg_mod p (a * u)) (cg_rfl p y))) ?_)
  refine cg_symm (cg_trans (cg_mul (cg_rfl p a) (cg_mod2 (cg_mul (cg_mod p (0 - u)) (cg_rfl p y)))) (cg_of_eq ?_))
  rw [Int.sub_mul, Int.zero_mul, Int.mul_sub, Int.mul_zero, Int.mul_assoc]
theorem sh_div2 {a v y p : Int} : a * (v * y % p) % p = a * (v * y) % p := cg_emod (cg_mul (cg_rfl p a) (cg_mod p (v * y)))
/-- shares in the form that the class has them in -/
def WQ (F : FT) (u x i sum : Int) (Wv Sh : Nat → Int) : Prop := WI F u x i sum (RQ u Wv Wv Sh) ∧ ∀ j : Nat, (j : Int) ≤ i → ¬ asg (fE F u.toNat) i j → Sh j = 0
def shP (F : FT) (u : Int) (Wv Sh S2 : Nat → Int) (k : Nat) : Prop := ∀ j : Nat, S2 j = if (j : Int) = eV (fE F u.toNat) k then Sh k * rsh F u.toNat Wv k % fP F else if (j : Int) = eL (fE F u.toNat) k then Sh k * lsh F u.toNat Wv k % fP F else Sh j
theorem WQ_0 {F : FT} (h : GF F) {u x : Int} {Wv Sh : Nat → Int} {i : Int} (hu : 0 ≤ u ∧ u < 4) (hi : i = (eN (fE F u.toNat) : Int) - 1) (hw : ∀ j : Nat, (j : Int) ≤ i → Sh j = if (j : Int) = i then 1 else 0) : WQ F u x i 0 Wv Sh := by
  have hn := (h.2 u.toNat (by omega)).1
  refine ⟨WI_init h hu hi (by rw [RQ_W hu.1, hw _ (by omega), if_pos (by omega)]), fun j hj ha => ?_⟩
  rw [hw j hj, if_neg (fun q => ha (Or.inl (by omega)))]
theorem WQ_dn {F : FT} (h : GF F) {u x i sum : Int} {Wv Sh S2 : Nat → Int} (hu : 0 ≤ u ∧ u < 4) (hi : 0 ≤ i ∧ i < eN (fE F u.toNat)) (hv : VI F u x (eN (fE F u.toNat)) (RQ u Wv Wv Sh)) (hW : WQ F u x i sum Wv Sh) (hk : ¬ eK (fE F u.toNat) i.toNat = 120) (hp : shP F u Wv Sh S2 i.toNat) : WQ F u x (i - 1) sum Wv S2 := by
  refine ⟨WI_dn h (r := RQ u Wv Wv Sh) hu hi hv hW.1 hk (fun j hj => ?_), fun j hj ha => ?_⟩
  · rw [RQ_W hu.1, RQ_W hu.1, RQ_V hu.1]
    exact hp j
  · have q1 : ¬ (j : Int) = eV (fE F u.toNat) i.toNat := fun q => ha ((asg_dn hi j).mpr (Or.inr (Or.inr q.symm)))
    have q2 : ¬ (j : Int) = eL (fE F u.toNat) i.toNat := fun q => ha ((asg_dn hi j).mpr (Or.inr (Or.inl q.symm)))
    rw [hp j, if_neg q1, if_neg q2]
    exact hW.2 j (by omega) (fun z => ha ((asg_dn hi j).mpr (Or.inl z)))
theorem WQ_x {F : FT} (h : GF F) {u x i sum : Int} {Wv Sh S2 : Nat → Int} (hu : 0 ≤ u ∧ u < 4) (hi : 0 ≤ i ∧ i < eN (fE F u.toNat)) (hv : VI F u x (eN (fE F u.toNat)) (RQ u Wv Wv Sh)) (hW : WQ F u x i sum Wv Sh) (hk : eK (fE F u.toNat) i.toNat = 120) (hp : shP F u Wv Sh S2 i.toNat) : WQ F u x (i - 1) ((sum + S2 i.toNat) % fP F) Wv S2 := by
  have hE := (h.2 u.toNat (by omega)).2.1 i.toNat (by omega)
  have hLV : eL (fE F u.toNat) i.toNat = -1 ∧ eV (fE F u.toNat) i.toNat = -1 := by unfold WFK at hE; omega
  have e : S2 = Sh := by
    funext j
    rw [hp j, if_neg (by omega), if_neg (by omega)]
  rw [e]
  have q := WI_x h (r := RQ u Wv Wv Sh) hu hi hv hW.1 hk
  rw [RQ_W hu.1] at q
  refine ⟨q, fun j hj ha => hW.2 j (by omega) (fun z => ha ((asg_dn hi j).mpr (Or.inl z)))⟩
theorem VI_RQ {F : FT} {u x i : Int} {Wv S H S' H' : Nat → Int} (h : VI F u x i (RQ u Wv S H)) : VI F u x i (RQ u Wv S' H') := h
/-- what is so at a node, where nothing is banned -/
theorem VI_ok {F : FT} (h : GF F) {u x k : Int} {Wv S H : Nat → Int} (hu : 0 ≤ u ∧ u < 4) (hk : 0 ≤ k ∧ k < eN (fE F u.toNat)) (hv : VI F u x (eN (fE F u.toNat)) (RQ u Wv S H)) : ¬ nvl (fP F) (fE F u.toNat) (vv (fP F) (fE F)) x Wv k.toNat = -1 := by
  have hE := (h.2 u.toNat (by omega)).2.1 k.toNat (by omega)
  have hok := hv.1
  rw [show ((eN (fE F u.toNat) : Nat) : Int).toNat = eN (fE F u.toNat) by omega] at hok
  have hnb := evs_nb (evs_ok (eN (fE F u.toNat)) (k.toNat + 1) (by omega) hok)
  have hW : ∀ j : Nat, j < k.toNat → (evs (fP F) (fE F u.toNat) (vv (fP F) (fE F)) x k.toNat).1 j = Wv j := fun j hj => by
    have q := hv.2 j (by omega)
    rw [RQ_V hu.1, show ((eN (fE F u.toNat) : Nat) : Int).toNat = eN (fE F u.toNat) by omega, evs_keep (eN (fE F u.toNat)) (by omega)] at q
    rw [q, evs_keep k.toNat hj]
  intro q
  apply hnb
  rw [← q]
  unfold nvl
  rw [gv_congr hW (WFK_L hE), nvn_congr hE hW]
theorem VI_div {F : FT} {u x k : Int} {Wv : Nat → Int} (h : ¬ nvl (fP F) (fE F u.toNat) (vv (fP F) (fE F)) x Wv k.toNat = -1) (e : eK (fE F u.toNat) k.toNat = 47) : ¬ gv Wv (eV (fE F u.toNat) k.toNat) = 0 := by
  intro q
  apply h
  unfold nvl nvn
  repeat (first | rw [if_pos (by omega)] | rw [if_neg (by omega)])
theorem VI_cal {F : FT} {u x k : Int} {Wv : Nat → Int} (h : ¬ nvl (fP F) (fE F u.toNat) (vv (fP F) (fE F)) x Wv k.toNat = -1) (e : eK (fE F u.toNat) k.toNat = 99) : ¬ vv (fP F) (fE F) (eU (fE F u.toNat) k.toNat).toNat (gv Wv (eL (fE F u.toNat) k.toNat)) = -1 := by
  intro q
  apply h
  unfold nvl
  rw [if_pos e]
  exact q
/-- the tables, and the rows for nodes, of the reference -/
abbrev KT : Type := (Nat → Int) × (Nat → Int) × (Nat → Int) × (Nat → Int) × (Nat → Int) × (Nat → Int) × (Nat → Int) × (Nat → Int) × (Nat → Int)
def kV (K : KT) : Nat → Int := K.1
def kH (K : KT) : Nat → Int := K.2.1
def kR (K : KT) : Nat → Int := K.2.2.1
def kW (K : KT) : Nat → Int := K.2.2.2.1
def kS (K : KT) : Nat → Int := K.2.2.2.2.1
def kL (K : KT) : Nat → Int := K.2.2.2.2.2.1
def kE (K : KT) : Nat → Int := K.2.2.2.2.2.2.1
def kX (K : KT) : Nat → Int := K.2.2.2.2.2.2.2.1
def kT (K : KT) : Nat → Int := K.2.2.2.2.2.2.2.2
def mkK (a b c d e f g x t : Nat → Int) : KT := (a, b, c, d, e, f, g, x, t)
def TB1 (F : FT) (j x : Int) (V H R : Nat → Int) : Prop := V (199 * j + x).toNat = vv (fP F) (fE F) j.toNat x ∧ H (199 * j + x).toNat = hh (fP F) (fE F) j.toNat x ∧ R (199 * j + x).toNat = hh (fP F) (fE F) j.toNat x
def TBx (F : FT) (j x : Int) (V H R : Nat → Int) : Prop := TB F j V H R ∧ ∀ y : Int, 0 ≤ y → y < x → TB1 F j y V H R
theorem TBx_0 {F : FT} {j : Int} {V H R : Nat → Int} (h : TB F j V H R) : TBx F j 0 V H R := ⟨h, fun y a b => absurd a (by omega)⟩
theorem TBx_nx {F : FT} (h : GF F) {j x v t s : Int} {V H R : Nat → Int} (hj : 0 ≤ j) (hx : 0 ≤ x ∧ x < fP F) (hT : TBx F j x V H R) (ev : v = vv (fP F) (fE F) j.toNat x) (et : t = hh (fP F) (fE F) j.toNat x) (es : s = hh (fP F) (fE F) j.toNat x) : TBx F j (x + 1) (up V (199 * j + x).toNat v) (up H (199 * j + x).toNat t) (up R (199 * j + x).toNat s) := by
  have hp := GF_p h
  refine ⟨fun i y a b c d => ?_, fun y a b => ?_⟩
  · have q := hT.1 i y a b c d
    rw [up_n (by omega), up_n (by omega), up_n (by omega)]
    exact q
  · unfold TB1
    by_cases e : y = x
    · rw [e, up_s, up_s, up_s]
      exact ⟨ev, et, es⟩
    · have q := hT.2 y a (by omega)
      unfold TB1 at q
      rw [up_n (by omega), up_n (by omega), up_n (by omega)]
      exact q
theorem TBx_end {F : FT} {j : Int} {V H R : Nat → Int} (h : TBx F j (fP F) V H R) : TB F (j + 1) V H R := by
  intro i y a b c d
  by_cases e : i = j
  · rw [e]; exact h.2 y c d
  · exact h.1 i y a (by omega) c d
theorem nx_eq {x v i p : Int} : (x - v * i) % p = (x - v * i % p) % p := cg_emod (cg_sub (cg_rfl p x) (cg_symm (cg_mod p (v * i))))
