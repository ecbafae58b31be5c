/-! own layer: joins, loops, the library's max and min -/
section QLOOPS
variable {p : Program} {l : Launch} {e : Env} {R : Room} {s : State} {m : MethodId} {args : Array Value} {below : List Frame} {meth : Method} {c : Code} {H : Heap} {locs : List Loc} {cells slots : Nat} {Q : State → Prop}
variable {cc : ByteArray} {nL pc index : Nat} {Ts : List Cond} {own : String} {ls : Array Slot} {rest : List Value} {g : GG} {A : Nat → Prop} {H0 : Heap}
theorem q_cut {α : Type} (F : α → JFrame) (P : α → Prop) (cont : ∀ z, P z → W p l e R s m args below meth c H locs cells slots Q (F z)) {gf : JFrame} (br : (∀ z, P z → W p l e R s m args below meth c H locs cells slots Q (F z)) → W p l e R s m args below meth c H locs cells slots Q gf) : W p l e R s m args below meth c H locs cells slots Q gf := br cont
/-- a join behind which world and locals may differ -/
theorem q_cutW {α : Type} (pc1 : Nat) (st1 : α → List Value) (P : α → Prop) (Wd : α → va_W) (Lv : α → List (Nat × Value)) (cont : ∀ a, P a → ∀ (H : Heap) (locs : List Loc) (ls : Array Slot), gW g A H0 H locs (Wd a) → lv_has ls nL (Lv a) → W p l e R s m args below meth c H locs cells slots Q (F0 m pc1 ls (st1 a))) {gf : JFrame} (br : (∀ a, P a → ∀ (H : Heap) (locs : List Loc) (ls : Array Slot), gW g A H0 H locs (Wd a) → lv_has ls nL (Lv a) → W p l e R s m args below meth c H locs cells slots Q (F0 m pc1 ls (st1 a))) → W p l e R s m args below meth c H locs cells slots Q gf) : W p l e R s m args below meth c H locs cells slots Q gf := br cont
theorem q_loop {α : Type} (Inv : α → Prop) (meas : α → Nat) (Wd : α → va_W) (Lv : α → List (Nat × Value))
    (step : ∀ a, Inv a → (∀ (b : α) (H : Heap) (locs : List Loc) (ls : Array Slot), Inv b → meas b < meas a → gW g A H0 H locs (Wd b) → lv_has ls nL (Lv b) → W p l e R s m args below meth c H locs cells slots Q (F0 m pc ls [])) → ∀ (H : Heap) (locs : List Loc) (ls : Array Slot), gW g A H0 H locs (Wd a) → lv_has ls nL (Lv a) → W p l e R s m args below meth c H locs cells slots Q (F0 m pc ls []))
    (a : α) (h0 : Inv a) (hW : gW g A H0 H locs (Wd a)) (hl : lv_has ls nL (Lv a)) : W p l e R s m args below meth c H locs cells slots Q (F0 m pc ls []) := by
  have key : ∀ (n : Nat) (a : α), meas a < n → Inv a → ∀ (H : Heap) (locs : List Loc) (ls : Array Slot), gW g A H0 H locs (Wd a) → lv_has ls nL (Lv a) → W p l e R s m args below meth c H locs cells slots Q (F0 m pc ls []) := by
    intro n
    induction n with
    | zero => intro a h; exact absurd h (Nat.not_lt_zero _)
    | succ n ih => intro a h hi; exact step a hi (fun b H locs ls hb hm hw hl => ih b (by omega) hb H locs ls hw hl)
  exact key (meas a + 1) a (Nat.lt_succ_self _) h0 H locs ls hW hl
theorem q_loopP {α : Type} (Inv : α → Prop) (meas : α → Nat) (Lv : α → List (Nat × Value))
    (step : ∀ a, Inv a → (∀ (b : α) (ls : Array Slot), Inv b → meas b < meas a → lv_has ls nL (Lv b) → W p l e R s m args below meth c H locs cells slots Q (F0 m pc ls [])) → ∀ (ls : Array Slot), lv_has ls nL (Lv a) → W p l e R s m args below meth c H locs cells slots Q (F0 m pc ls []))
    (a : α) (h0 : Inv a) (hl : lv_has ls nL (Lv a)) : W p l e R s m args below meth c H locs cells slots Q (F0 m pc ls []) := by
  have key : ∀ (n : Nat) (a : α), meas a < n → Inv a → ∀ (ls : Array Slot), lv_has ls nL (Lv a) → W p l e R s m args below meth c H locs cells slots Q (F0 m pc ls []) := by
    intro n
    induction n with
    | zero => intro a h; exact absurd h (Nat.not_lt_zero _)
    | succ n ih => intro a h hi; exact step a hi (fun b ls hb hm hl => ih b (by omega) hb ls hl)
  exact key (meas a + 1) a (Nat.lt_succ_self _) h0 ls hl
theorem iI_max {a b : Int} (h : (-2147483648 ≤ a ∧ a < 2147483648) ∧ (-2147483648 ≤ b ∧ b < 2147483648)) : (if iI a < iI b then iI b else iI a) = iI (max a b) := by
  by_cases hc : a < b
  · rw [if_pos ((iI_lt h).mpr hc), Int.max_eq_right (by omega)]
  · rw [if_neg (fun q => hc ((iI_lt h).mp q)), Int.max_eq_left (by omega)]
theorem iI_min {a b : Int} (h : (-2147483648 ≤ a ∧ a < 2147483648) ∧ (-2147483648 ≤ b ∧ b < 2147483648)) : (if iI b < iI a then iI b else iI a) = iI (min a b) := by
  by_cases hc : b < a
  · rw [if_pos ((iI_lt ⟨h.2, h.1⟩).mpr hc), Int.min_eq_right (by omega)]
  · rw [if_neg (fun q => hc ((iI_lt ⟨h.2, h.1⟩).mp q)), Int.min_eq_left (by omega)]
theorem q_mmax (S0 : CallFix p m c cc nL s args Ts own) {a b : Int} (h : (-2147483648 ≤ a ∧ a < 2147483648) ∧ (-2147483648 ≤ b ∧ b < 2147483648)) (h1 : Cond.methodLink own index Lib.Math.max.name ∈ Ts) (h2 : Cond.static Lib.Math.max.name ∈ Ts) (h3 : Cond.initialized "java/lang/Math" ∈ Ts) (h4 : Cond.code Lib.Math.max.name Lib.Math.max.code 2 (some .int) ∈ Ts) (hsize : ls.size = nL) (hfr : 1 ≤ R.frames) (hlo : (rest.map fun v => v.category).sum + 13 ≤ R.locals) (hc : cells ≤ R.cells) (hs : slots ≤ R.slots) (hdg : decode cc pc = .ok (.invokestatic index, 3))
    (kk : W p l e R s m args below meth c H locs cells slots Q (F0 m (pc + 3) ls (.int (iI (max a b)) :: rest))) : W p l e R s m args below meth c H locs cells slots Q (F0 m pc ls (.int (iI b) :: .int (iI a) :: rest)) :=
  va_mmax S0.1 S0.2.1 (S0.2.2.1.trans hsize.symm) S0.2.2.2.1 (S0.2.2.2.2 _ h1) (S0.2.2.2.2 _ h2) (S0.2.2.2.2 _ h3) (S0.2.2.2.2 _ h4) hfr hlo hc hs hdg (by rw [iI_max h]; exact kk)
theorem q_mmin (S0 : CallFix p m c cc nL s args Ts own) {a b : Int} (h : (-2147483648 ≤ a ∧ a < 2147483648) ∧ (-2147483648 ≤ b ∧ b < 2147483648)) (h1 : Cond.methodLink own index Lib.Math.min.name ∈ Ts) (h2 : Cond.static Lib.Math.min.name ∈ Ts) (h3 : Cond.initialized "java/lang/Math" ∈ Ts) (h4 : Cond.code Lib.Math.min.name Lib.Math.min.code 2 (some .int) ∈ Ts) (hsize : ls.size = nL) (hfr : 1 ≤ R.frames) (hlo : (rest.map fun v => v.category).sum + 13 ≤ R.locals) (hc : cells ≤ R.cells) (hs : slots ≤ R.slots) (hdg : decode cc pc = .ok (.invokestatic index, 3))
    (kk : W p l e R s m args below meth c H locs cells slots Q (F0 m (pc + 3) ls (.int (iI (min a b)) :: rest))) : W p l e R s m args below meth c H locs cells slots Q (F0 m pc ls (.int (iI b) :: .int (iI a) :: rest)) :=
  va_mmin S0.1 S0.2.1 (S0.2.2.1.trans hsize.symm) S0.2.2.2.1 (S0.2.2.2.2 _ h1) (S0.2.2.2.2 _ h2) (S0.2.2.2.2 _ h3) (S0.2.2.2.2 _ h4) hfr hlo hc hs hdg (by rw [iI_min h]; exact kk)
end QLOOPS
