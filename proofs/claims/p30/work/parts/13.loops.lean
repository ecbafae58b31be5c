/-! own layer: joins, loops, the library's max and min -/
section QLOOPS
variable {p : Program} {l : Launch} {e : Env} {R : Room} {s : State} {m : MethodId} {args : Array Value} {below : List Frame} {meth : Method} {c : Code} {H : Heap} {locs : List Loc} {cells slots : Nat} {Q : State → Prop}
variable {cc : ByteArray} {nL pc index : Nat} {Ts : List Cond} {own : String} {ls : Array Slot} {rest : List Value} {g : GG} {A : Nat → Prop} {H0 : Heap}
theorem q_cut {α : Type} (F : α → JFrame) (P : α → Prop) (cont : ∀ z, P z → W p l e R s m args below meth c H locs cells slots Q (F z)) {gf : JFrame} (br : (∀ z, P z → W p l e R s m args below meth c H locs cells slots Q (F z)) → W p l e R s m args below meth c H locs cells slots Q gf) : W p l e R s m args below meth c H locs cells slots Q gf := br cont
/-- a join behind which world and locals may differ -/
theorem q_cutW {α : Type} (pc1 : Nat) (st1 : α → List Value) (P : α → Prop) (Wd : α → va_W) (Lv : α → List (Nat × Value)) (cont : ∀ a, P a → ∀ (H : Heap) (locs : List Loc) (ls : Array Slot), gW g A H0 H locs (Wd a) → lv_has ls nL (Lv a) → W p l e R s m args below meth c H locs cells slots Q (F0 m pc1 ls (st1 a))) {gf : JFrame} (br : (∀ a, P a → ∀ (H : Heap) (locs : List Loc) (ls : Array Slot), gW g A H0 H locs (Wd a) → lv_has ls nL (Lv a) → W p l e R s m args below meth c H locs cells slots Q (F0 m pc1 ls (st1 a))) → W p l e R s m args below meth c H locs cells slots Q gf) : W p l e R s m args below meth c H locs cells slots Q gf := br cont
theorem q_loop {α : Type} (Inv : α → Prop) (meas : α → Nat) (Wd : α → va_W) (Lv : α → List (Nat × Value))
    (step : ∀ a, Inv a → (∀ (b : α) (H : Heap) (locs : List Loc) (ls : Array Slot), Inv b → meas b < meas a → gW g A H0 H locs (Wd b) → lv_has ls nL (Lv b) → W p l e R s m args below meth c H locs cells slots Q (F0 m pc ls [])) → ∀ (H : Heap) (locs : List Loc) (ls : Array Slot), gW g A H0 H locs (Wd a) → lv_has ls nL (Lv a) → W p l e R s m args below meth c H locs cells slots Q (F0 m pc ls []))
    (a : α) (h0 : Inv a) (hW : gW g A H0 H locs (Wd a)) (hl : lv_has ls nL (Lv a)) : W p l e R s m args below meth c H locs cells slots Q (F0 m pc ls []) := by
  have key : ∀ (n : Nat) (a : α), meas a < n → Inv a → ∀ (H : Heap) (locs : List Loc) (ls : Array Slot), gW g A H0 H locs (Wd a) → lv_has ls nL (Lv a) → W p l e R s m args below meth c H locs cells slots Q (F0 m pc ls []) := by
    intro n
    induction n with
    | zero => intro a h; exact absurd h (Nat.not_lt_zero _)
    | succ n ih => intro a h hi; exact step a hi (fun b H locs ls hb hm hw hl => ih b (by omega) hb H locs ls hw hl)
  exact key (meas a + 1) a (Nat.lt_succ_self _) h0 H locs ls hW hl
theorem q_loopP {α : Type} (Inv : α → Prop) (meas : α → Nat) (Lv : α → List (Nat × Value))
    (step : ∀ a, Inv a → (∀ (b : α) (ls : Array Slot), Inv b → meas b < meas a → lv_has ls nL (Lv b) → W p l e R s m args below meth c H locs cells slots Q (F0 m pc ls [])) → ∀ (ls : Array Slot), lv_has ls nL (Lv a) → W p l e R s m args below meth c H locs cells slots Q (F0 m pc ls []))
    (a : α) (h0 : Inv a) (hl : lv_has ls nL (Lv a)) : W p l e R s m args below meth c H locs cells slots Q (F0 m pc ls []) := by
  have key : ∀ (n : Nat) (a : α), meas a < n → Inv a → ∀ (ls : Array Slot), lv_has ls nL (Lv a) → W p l e R s m args below meth c H locs cells slots Q (F0 m pc ls []) := by
    intro n
    induction n with
    | zero => intro a h; exact absurd h (Nat.not_lt_zero _)
    | succ n ih => intro a h hi; exact step a hi (fun b ls hb hm hl => ih b (by omega) hb ls hl)
  exact key (meas a + 1) a (Nat.lt_succ_self _) h0 ls hl
theorem iI_max {a b : Int} (h : (-2147483648 ≤ a ∧ a < 2147483648) ∧ (-2147483648 ≤ b ∧ b < 2147483648)) : (if iI a < iI b then iI b else iI a) = iI (max a b) := by
  by_cases hc : a < b
  · rw [if_pos ((iI_lt h).mpr hc), Int.max_eq_right (by omega)]
  · rw [if_neg (fun q => hc ((iI_lt h).mp q)), Int.max_eq_left (by omega)]
theorem iI_min {a b : Int} (h : (-2147483648 ≤ a ∧ a < 2147483648) ∧ (-2147483648 ≤ b ∧ b < 2147483648)) : (if iI b < iI a then iI b else iI a) = iI (min a b) := by
  by_cases hc : b < a
  · rw [if_pos ((iI_lt ⟨h.2, h.1⟩).mpr hc), Int.min_eq_right (by omega)]
  · rw [if_neg (fun q => hc ((iI_lt ⟨h.2, h.1⟩).mp q)), Int.min_eq_left (by omega)]
theorem q_mmax (S0 : CallFix p m c cc nL s args Ts own) {a b : Int} (h : (-2147483648 ≤ a ∧ a < 2147483648) ∧ (-2147483648 ≤ b ∧ b < 2147483648)) (h1 : Cond.methodLink own index Lib.Math.max.name ∈ Ts) (h2 : Cond.static Lib.Math.max.name ∈ Ts) (h3 : Cond.initialized "java/lang/Math" ∈ Ts) (h4 : Cond.code Lib.Math.max.name Lib.Math.max.code 2 (some .int) ∈ Ts) (hsize : ls.size = nL) (hfr : 1 ≤ R.frames) (hlo : (rest.map fun v => v.category).sum + 13 ≤ R.locals) (hc : cells ≤ R.cells) (hs : slots ≤ R.slots) (hdg : decode cc pc = .ok (.invokestatic index, 3))
    (kk : W p l e R s m args below meth c H locs cells slots Q (F0 m (pc + 3) ls (.int (iI (max a b)) :: rest))) : W p l e R s m args below meth c H locs cells slots Q (F0 m pc ls (.int (iI b) :: .int (iI a) :: rest)) :=
  va_mmax S0.1 S0.2.1 (S0.2.2.1.trans hsize.symm) S0.2.2.2.1 (S0.2.2.2.2 _ h1) (S0.2.2.2.2 _ h2) (S0.2.2.2.2 _ h3) (S0.2.2.2.2 _ h4) hfr hlo hc hs hdg (by rw [iI_max h]; exact kk)
theorem q_mmin (S0 : CallFix p m c cc nL s args Ts own) {a b : Int} (h : (-2147483648 ≤ a ∧ a < 2147483648) ∧ (-2147483648 ≤ b ∧ b < 2147483648)) (h1 : Cond.methodLink own index Lib.Math.min.name ∈ Ts) (h2 : Cond.static Lib.Math.min.name ∈ Ts) (h3 : Cond.initialized "java/lang/Math" ∈ Ts) (h4 : Cond.code Lib.Math.min.name Lib.Math.min.code 2 (some .int) ∈ Ts) (hsize : ls.size = nL) (hfr : 1 ≤ R.frames) (hlo : (rest.map fun v => v.category).sum + 13 ≤ R.locals) (hc : cells ≤ R.cells) (hs : slots ≤ R.slots) (hdg : decode cc pc = .ok (.invokestatic index, 3))
    (kk : W p l e R s m args below meth c H locs cells slots Q (F0 m (pc + 3) ls (.int (iI (min a b)) :: rest))) : W p l e R s m args below meth c H locs cells slots Q (F0 m pc ls (.int (iI b) :: .int (iI a) :: rest)) :=
  va_mmin S0.1 S0.2.1 (S0.2.2.1.trans hsize.symm) S0.2.2.2.1 (S0.2.2.2.2 _ h1) (S0.2.2.2.2 _ h2) (S0.2.2.2.2 _ h3) (S0.2.2.2.2 _ h4) hfr hlo hc hs hdg (by rw [iI_min h]; exact kk)
end QLOOPS
section QARR
variable {p : Program} {l : Launch} {e : Env} {R : Room} {s : State} {m : MethodId} {args : Array Value} {below : List Frame} {meth : Method} {c : Code} {H : Heap} {locs : List Loc} {cells slots : Nat} {Q : State → Prop}
variable {cc : ByteArray} {nL pc index : Nat} {Ts : List Cond} {own : String} {ls : Array Slot} {rest : List Value} {g : GG} {A : Nat → Prop} {H0 : Heap} {ws : va_W} {a a0 : Nat}
theorem q_cloneI (S0 : CallFix p m c cc nL s args Ts own) (hK : gK g s) (hA : ∀ q, H0.size ≤ q → A q) (hW : gW g A H0 H locs ws) (h1 : Cond.methodLink own index ⟨"[I", "clone", "()Ljava/lang/Object;"⟩ ∈ Ts) (h2 : Cond.sameMethod "[I" "java/lang/Object" "clone" "()Ljava/lang/Object;" ∈ Ts) (h3 : Cond.native ⟨"java/lang/Object", "clone", "()Ljava/lang/Object;"⟩ ∈ Ts) (h4 : Cond.instanceMethod ⟨"java/lang/Object", "clone", "()Ljava/lang/Object;"⟩ ∈ Ts) (h5 : Cond.selects "[I" ⟨"[I", "clone", "()Ljava/lang/Object;"⟩ ⟨"java/lang/Object", "clone", "()Ljava/lang/Object;"⟩ ∈ Ts)
    (q0 : Nat) {n : Nat} {f : Nat → Int} (he : ws[q0]? = some (a, gI g n f)) (hsize : ls.size = nL) (hfr : 1 ≤ R.frames) (hlo : (rest.map fun v => v.category).sum + 14 ≤ R.locals) (hc : cells + 1 ≤ R.cells) (hs : slots + n ≤ R.slots) (hdg : decode cc pc = .ok (.invokevirtual index, 3))
    (kk : ∀ (q : Nat) (H1 : Heap), gW g A H0 H1 locs (ws ++ [(q, gI g n f)]) → W p l e R s m args below meth c H1 locs (cells + 1) (slots + n) Q (F0 m (pc + 3) ls (.ref q :: rest))) : W p l e R s m args below meth c H locs cells slots Q (F0 m pc ls (.ref a :: rest)) :=
  va_clone (D := g.1) (cl := vwCl) (tys := gT g) S0.1 S0.2.1 (S0.2.2.1.trans hsize.symm) S0.2.2.2.1 (S0.2.2.2.2 _ h1) (S0.2.2.2.2 _ h2) (S0.2.2.2.2 _ h3) (S0.2.2.2.2 _ h4) (S0.2.2.2.2 _ h5) (hK.2.1 15 _ rfl) hK.1 hW.1 hW.2.1 hW.2.2 hA q0 0 (x := (n, .inl (fun j => iI (f j)))) he rfl (hK.1.2 0 _ rfl).2 (fun i v hv => by
    have hi : i < n := by
      have := (Array.getElem?_eq_some_iff.mp hv).1
      rw [vp_cell_i, arrV_size] at this
      exact this
    rw [vp_cell_i, arrV_read _ _ hi] at hv
    cases hv
    rfl) hfr hlo hc hs hdg (fun q H1 _ h1 h2 h3 => kk q H1 ⟨h1, h2, h3⟩)
theorem cell_cut (g : GG) (n : Nat) (f h : Nat → Int) (e : ∀ j, j < n → f j = h j) {D : va_G} {cl : List vw_C} {a : Nat} {H : Heap} (hh : va_at D cl (a, gI g n f) H) : va_at D cl (a, gI g n h) H := by
  have e2 : vp_cell g.2.1 (n, .inl (fun j => iI (f j))) = vp_cell g.2.1 (n, .inl (fun j => iI (h j))) := by
    rw [vp_cell_i, vp_cell_i]
    unfold arrV
    congr 1
    apply Array.ext
    · simp
    · intro i h1 h2
      simp at h1 h2 ⊢
      rw [e i h1]
  show H[a]? = some (vp_cell g.2.1 (n, .inl (fun j => iI (h j))))
  rw [← e2]
  exact hh
/-- a row's content may be told otherwise, where it doesn't differ -/
theorem gW.cut {locs : List Loc} (hW : gW g A H0 H locs ws) (k : Nat) {n : Nat} {f : Nat → Int} (hk : ws[k]? = some (a, gI g n f)) (h : Nat → Int) (e : ∀ j, j < n → f j = h j) : gW g A H0 H locs (ws.set k (a, gI g n h)) := by
  refine ⟨fun j q hj => ?_, hW.2.1.set hk, hW.2.2⟩
  rcases Nat.lt_or_ge k ws.length with hlt | hge
  · by_cases hjk : k = j
    · subst hjk
      rw [List.getElem?_set_self hlt] at hj
      cases hj
      exact cell_cut g n f h e (hW.1 k _ hk)
    · rw [List.getElem?_set_ne hjk] at hj
      exact hW.1 j q hj
  · rw [List.getElem?_eq_none hge] at hk
    cases hk
theorem q_copyI (S0 : CallFix p m c cc nL s args Ts own) (hK : gK g s) (hW : gW g A H0 H locs ws) (h1 : Cond.methodLink own index arraycopyName ∈ Ts) (h2 : Cond.native arraycopyName ∈ Ts) (h3 : Cond.static arraycopyName ∈ Ts) (h4 : Cond.initialized "java/lang/System" ∈ Ts)
    (q0 q1 : Nat) {n0 n1 : Nat} {f h : Nat → Int} (he0 : ws[q0]? = some (a0, gI g n0 f)) (he1 : ws[q1]? = some (a, gI g n1 h)) {z : Int} (hz : 0 ≤ z ∧ z ≤ n0 ∧ z ≤ n1 ∧ z < 2147483648) (hsize : ls.size = nL) (hfr : 1 ≤ R.frames) (hlo : (rest.map fun v => v.category).sum + (nativeFrameWords "java/lang/System" "arraycopy" 5 + 11) ≤ R.locals) (hdg : decode cc pc = .ok (.invokestatic index, 3))
    (kk : ∀ (H1 : Heap) (locs1 : List Loc), gW g A H0 H1 locs1 (ws.set q1 (a, gI g n1 (fun j => if j < z.toNat then f j else h j))) → W p l e R s m args below meth c H1 locs1 cells slots Q (F0 m (pc + 3) ls rest)) : W p l e R s m args below meth c H locs cells slots Q (F0 m pc ls (.int (iI z) :: .int (iI 0) :: .ref a :: .int (iI 0) :: .ref a0 :: rest)) := by
  have c0 : (iI 0).toNatClampNeg = 0 := iI_cl (by decide) (by decide)
  have cz : (iI z).toNatClampNeg = z.toNat := iI_cl hz.1 hz.2.2.2
  have n0' : ¬ iI 0 < 0 := by rw [iI_0, iI_lt (by decide)]; omega
  have nz' : ¬ iI z < 0 := by rw [iI_0, iI_lt ⟨⟨by omega, hz.2.2.2⟩, by decide⟩]; omega
  refine va_copyi (D := g.1) (cl := vwCl) (tys := gT g) S0.1 S0.2.1 (S0.2.2.1.trans hsize.symm) S0.2.2.2.1 (S0.2.2.2.2 _ h1) (S0.2.2.2.2 _ h2) (S0.2.2.2.2 _ h3) (S0.2.2.2.2 _ h4) hK.1 hW.1 hW.2.1 hW.2.2 q0 q1 0 0 he0 he1 rfl rfl rfl n0' n0' nz' (by rw [c0, cz]; omega) (by rw [c0, cz]; omega) (fun i _ => rfl) hfr hlo hdg (fun H1 locs1 k1 k2 k3 => kk H1 locs1 ?_)
  rw [c0, cz] at k1 k2
  have e : va_cpy (fun j => iI (f j)) (fun j => iI (h j)) 0 0 z.toNat = fun j => iI ((fun j => if j < z.toNat then f j else h j) j) := by
    funext j
    unfold va_cpy
    by_cases hj : j < z.toNat
    · rw [if_pos ⟨Nat.zero_le _, by omega⟩]; simp [hj]
    · rw [if_neg (by omega)]; simp [hj]
  rw [e] at k1 k2
  exact ⟨k1, k2, k3⟩
theorem q_castI (S0 : CallFix p m c cc nL s args Ts own) (hK : gK g s) (hP : va_P g.1 vwCl ws H) (h1 : Cond.classLink own index "[I" ∈ Ts) (q0 : Nat) {n : Nat} {f : Nat → Int} (he : ws[q0]? = some (a, gI g n f)) (hdg : decode cc pc = .ok (.checkcast index, 3))
    (k : W p l e R s m args below meth c H locs cells slots Q (F0 m (pc + 3) ls (.ref a :: rest))) : W p l e R s m args below meth c H locs cells slots Q (F0 m pc ls (.ref a :: rest)) :=
  va_castA (D := g.1) (cl := vwCl) S0.1 S0.2.1 S0.2.2.2.1 (S0.2.2.2.2 _ h1) hP q0 (x := (n, .inl (fun j => iI (f j)))) he (hK.1.2 0 _ rfl).2 hdg k
end QARR
