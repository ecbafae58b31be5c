/-! own layer: ints as integers, worlds in one bundle, contracts that return (qMet), contracts that only read (qPure) -/
abbrev vwCl : List vw_C := [(RX0, TX0, 10), (RX1, TX1, 7), (RX2, TX2, 2), (RX3, TX3, 2), (RX4, TX4, 4), (RX5, TX5, 7), (RX6, TX6, 1), (RX7, TX7, 5), (RX8, TX8, 2), (RX9, TX9, 2), (RX10, TX10, 5)]
section QNUM
/-- the integer z as an int, and as a long -/
def iI (z : Int) : Int32 := Int32.ofInt z
def lI (z : Int) : Int64 := Int64.ofInt z
theorem iI_add (a b : Int) : iI a + iI b = iI (a + b) := (Int32.ofInt_add a b).symm
theorem iI_sub (a b : Int) : iI a - iI b = iI (a - b) := (Int32.ofInt_sub a b).symm
theorem iI_mul (a b : Int) : iI a * iI b = iI (a * b) := (Int32.ofInt_mul a b).symm
theorem iI_neg (a : Int) : -iI a = iI (-a) := (Int32.ofInt_neg a).symm
theorem iI_t {z : Int} (h1 : -2147483648 ≤ z) (h2 : z < 2147483648) : (iI z).toInt = z := Int32.toInt_ofInt_of_le (by omega) (by omega)
theorem iI_lt {a b : Int} (h : (-2147483648 ≤ a ∧ a < 2147483648) ∧ (-2147483648 ≤ b ∧ b < 2147483648)) : iI a < iI b ↔ a < b := by
  rw [Int32.lt_iff_toInt_lt, iI_t h.1.1 h.1.2, iI_t h.2.1 h.2.2]
theorem iI_le {a b : Int} (h : (-2147483648 ≤ a ∧ a < 2147483648) ∧ (-2147483648 ≤ b ∧ b < 2147483648)) : iI a ≤ iI b ↔ a ≤ b := by
  rw [Int32.le_iff_toInt_le, iI_t h.1.1 h.1.2, iI_t h.2.1 h.2.2]
theorem iI_eq {a b : Int} (h : (-2147483648 ≤ a ∧ a < 2147483648) ∧ (-2147483648 ≤ b ∧ b < 2147483648)) : iI a = iI b ↔ a = b := by
  rw [← Int32.toInt_inj, iI_t h.1.1 h.1.2, iI_t h.2.1 h.2.2]
theorem iI_0 : (0 : Int32) = iI 0 := rfl
theorem iI_of (x : Int32) : x = iI x.toInt := (Int32.ofInt_toInt x).symm
theorem iI_rng (x : Int32) : -2147483648 ≤ x.toInt ∧ x.toInt < 2147483648 := ⟨by have := x.le_toInt; omega, by have := x.toInt_lt; omega⟩
theorem iI_cl {z : Int} (h1 : 0 ≤ z) (h2 : z < 2147483648) : (iI z).toNatClampNeg = z.toNat := Int32.toNatClampNeg_ofInt_of_le (by omega) (by omega)
theorem iI_in {z : Int} {n : Nat} (h1 : 0 ≤ z) (h2 : z < n) (h3 : z < 2147483648) : vp_in (iI z) n := by
  intro q
  rcases q with q | q
  · rw [iI_0, iI_lt ⟨⟨by omega, h3⟩, by decide⟩] at q
    omega
  · rw [iI_cl h1 h3] at q
    omega
theorem iI_nat (n : Nat) : Int32.ofNat n = iI (n : Int) := by
  apply Int32.toBitVec.inj
  simp [iI]
theorem iI_div {a b : Int} (ha : -2147483648 ≤ a ∧ a < 2147483648) (hb : 0 < b ∧ b < 2147483648) : iI a / iI b = iI (a.tdiv b) :=
  (Int32.ofInt_tdiv (by show (-2147483648 : Int) ≤ a; omega) (by show a ≤ (2147483647 : Int); omega) (by show (-2147483648 : Int) ≤ b; omega) (by show b ≤ (2147483647 : Int); omega)).symm
theorem iI_rem {a b : Int} (ha : -2147483648 ≤ a ∧ a < 2147483648) (hb : 0 < b ∧ b < 2147483648) : iI a - iI a / iI b * iI b = iI (a.tmod b) := by
  rw [iI_div ha hb, iI_mul, iI_sub, Int.tmod_def, Int.mul_comm]
end QNUM
section QCELL
/-- where the classes lie, and the arrays' classes: int, char, State, byte -/
abbrev GG : Type := va_G × ClassId × ClassId × ClassId × ClassId
def gT (g : GG) : List (ClassId × FieldType) := [(g.2.1, .int), (g.2.2.1, .char), (g.2.2.2.1, .object "HingeNumbers$State"), (g.2.2.2.2, .byte)]
def gI (g : GG) (n : Nat) (f : Nat → Int) : va_E := .inl (g.2.1, n, .inl (fun j => iI (f j)))
def gC (g : GG) (n : Nat) (f : Nat → Int) : va_E := .inl (g.2.2.1, n, .inl (fun j => iI (f j)))
def gR (g : GG) (n : Nat) (f : Nat → Option Nat) : va_E := .inl (g.2.2.2.1, n, .inr (.inr (.inr (.inr f))))
def gJ (g : GG) (n : Nat) (f : Nat → Int) : va_E := .inl (g.2.2.2.2, n, .inr (.inl (fun j => lI (f j))))
/-- a function with one place changed -/
def up {α : Type} (f : Nat → α) (k : Nat) (v : α) : Nat → α := fun j => if j = k then v else f j
theorem up_s {α : Type} {f : Nat → α} {k : Nat} {v : α} : up f k v k = v := if_pos rfl
theorem up_n {α : Type} {f : Nat → α} {k j : Nat} {v : α} (h : j ≠ k) : up f k v j = f j := if_neg h
theorem up_upd (f : Nat → Int) (k : Nat) (v : Int) : upd (fun j => iI (f j)) k (iI v) = fun j => iI (up f k v j) := by
  funext j
  by_cases h : j = k <;> simp [upd, up, h]
/-- the links across the nest -/
def nestW : List Cond := [.methodLinkNest RX8 38 yX10_put "HingeNumbers", .methodLinkNest RX8 34 yX10_at "HingeNumbers", .methodLinkNest RX4 81 yX10_functionOf "HingeNumbers", .methodLinkNest RX4 11 yX0_init "HingeNumbers", .methodLinkNest RX1 37 yX10_at "HingeNumbers", .methodLinkNest RX0 80 yX10_functionOf "HingeNumbers", .methodLinkNest RX0 65 yX10_put "HingeNumbers", .methodLinkNest RX0 61 yX10_at "HingeNumbers", .methodLinkNest RX0 39 yX3_init "HingeNumbers", .methodLinkNest RX10 9 yX9_init "HingeNumbers", .methodLinkNest RX10 25 yX2_init "HingeNumbers", .methodLinkNest RX10 18 yX4_init "HingeNumbers", .methodLinkNest RX10 150 yX5_ruleSlope "HingeNumbers", .methodLinkNest RX10 147 yX5_hingeSlope "HingeNumbers", .methodLinkNest RX10 143 yX5_value "HingeNumbers", .castable "[I" "java/lang/Cloneable"]
/-- the classes as the tables have them, and the nest's links -/
def gK (g : GG) (U : State) : Prop := va_K g.1 vwCl (gT g) U ∧ (∀ (k : Nat) (w : Cond), nestW[k]? = some w → va_Nw w U) ∧ va_AO "HingeNumbers$State" U
theorem nest_tab : ∀ w ∈ nestW, w.onTables = true := by
  intro w h
  simp only [nestW, List.mem_cons, List.not_mem_nil, or_false] at h
  rcases h with h | h | h | h | h | h | h | h | h | h | h | h | h | h | h | h <;> subst h <;> rfl
theorem nest_warm {s U : State} (hW : s.WarmedH U.vm) : ∀ w ∈ nestW, va_Nw w s → va_Nw w U := by
  intro w h
  simp only [nestW, List.mem_cons, List.not_mem_nil, or_false] at h
  rcases h with h | h | h | h | h | h | h | h | h | h | h | h | h | h | h | h <;> subst h <;> first | exact va_Nw.warmM hW | exact va_Nw.warmC hW
theorem gK.warm {g : GG} {s U : State} (h : gK g s) (hW : s.WarmedH U.vm) : gK g U := ⟨va_K.moved hW.alike h.1, fun k w hk => nest_warm hW w (List.mem_of_getElem? hk) (h.2.1 k w hk), h.2.2.moved hW.alike⟩
theorem gK.same {g : GG} {s U : State} (h : gK g s) (e : s.vm = U.vm) : gK g U := ⟨va_K.moved (u := s) (U := U) (by rw [e]; exact Vm.Alike.refl U.vm) h.1, fun k w hk => (h.2.1 k w hk).same (nest_tab w (List.mem_of_getElem? hk)) e, h.2.2.moved (by rw [e]; exact Vm.Alike.refl U.vm)⟩
/-- the world: its cells, apart, and what was not touched -/
def gW (g : GG) (A : Nat → Prop) (H0 H : Heap) (locs : List Loc) (ws : va_W) : Prop := va_P g.1 vwCl ws H ∧ va_D A ws ∧ va_S A H0 H locs
theorem sub_place {ws ws' : va_W} {is : List Nat} (hs : is.map (fun i => ws[i]?) = ws'.map some) {k : Nat} {q : Nat × va_E} (hk : ws'[k]? = some q) : ∃ i : Nat, is[k]? = some i ∧ ws[i]? = some q := by
  have h : (is.map (fun i => ws[i]?))[k]? = some (some q) := by rw [hs, List.getElem?_map, hk]; rfl
  rw [List.getElem?_map] at h
  cases hi : is[k]? with
  | none => rw [hi] at h; cases h
  | some i => rw [hi] at h; exact ⟨i, rfl, Option.some.inj h⟩
theorem subP {D : va_G} {cl : List vw_C} {ws ws' : va_W} {H : Heap} (h : va_P D cl ws H) (is : List Nat) (hs : is.map (fun i => ws[i]?) = ws'.map some) : va_P D cl ws' H := fun k q hk => by
  obtain ⟨i, -, hi⟩ := sub_place hs hk
  exact h i q hi
theorem gW.sub {g : GG} {A : Nat → Prop} {H0 H : Heap} {locs : List Loc} {ws ws' : va_W} (h : gW g A H0 H locs ws) (is : List Nat) (hn : va_nd is = true) (hs : is.map (fun i => ws[i]?) = ws'.map some) : gW g A H0 H locs ws' := ⟨subP h.1 is hs, h.2.1.sub is hn hs, h.2.2⟩
theorem gW.to {g : GG} {A : Nat → Prop} {H0 H : Heap} {locs : List Loc} {ws ws' : va_W} (h : gW g A H0 H locs ws) (e : ws = ws') : gW g A H0 H locs ws' := e ▸ h
end QCELL
section QMET
/-- a method that writes its world's cells, and may make new ones; X: what else of the heap it asks; Z: what its cells' places are not -/
def qPre (g : GG) (av : List Value) (ws : va_W) (Z : Nat → Prop) (X : Heap → Prop) (sz : Nat) : Array Value → State → Prop := va_Pc av (fun U => U.heap.size = sz ∧ va_P g.1 vwCl ws U.heap ∧ gK g U ∧ va_D Z ws ∧ X U.heap)
def qPost {S : Type} (g : GG) (res : S → Option Value) (w : S → va_W) (post : S → Prop) (A : Nat → Prop) : Array Value → State → Outcome → State → Prop := fun _ st oc t => (∃ u : S, post u ∧ oc = .returned (res u) ∧ va_P g.1 vwCl (w u) t.heap ∧ va_D A (w u)) ∧ va_F A st t
def qMet (l : Launch) (y : MethodName) (Ts : List Cond) (rm : Room) (g : GG) (av : List Value) (ws : va_W) (Z : Nat → Prop) (X : Heap → Prop) {S : Type} (res : S → Option Value) (w : S → va_W) (post : S → Prop) (mc ms : Nat) : Prop :=
  ∀ sz : Nat, Met l y Ts rm (qPre g av ws Z X sz) (qPost g res w post (va_A ws sz)) mc ms (va_A ws sz)
/-- a method that only reads -/
def qPreP (g : GG) (av : List Value) (ws : va_W) (X : Heap → Prop) : Array Value → State → Prop := va_Pc av (fun U => va_P g.1 vwCl ws U.heap ∧ gK g U ∧ X U.heap)
def qPostP (v : Option Value) : Array Value → State → Outcome → State → Prop := fun _ st oc t => oc = .returned v ∧ t.heap = st.heap
def qPure (l : Launch) (y : MethodName) (Ts : List Cond) (rm : Room) (g : GG) (av : List Value) (ws : va_W) (X : Heap → Prop) (v : Option Value) : Prop :=
  Met l y Ts rm (qPreP g av ws X) (qPostP v) 0 0 (fun _ => False)
theorem blind_qPre {g : GG} {av : List Value} {ws : va_W} {Z : Nat → Prop} {X : Heap → Prop} {sz : Nat} : FrameBlind (qPre g av ws Z X sz) := fun a U f mk q => by
  obtain ⟨q0, q1, qP, qK, qD, qX⟩ := q
  exact ⟨q0, q1, qP, qK.same rfl, qD, qX⟩
theorem blind_qPreP {g : GG} {av : List Value} {ws : va_W} {X : Heap → Prop} : FrameBlind (qPreP g av ws X) := fun a U f mk q => by
  obtain ⟨q0, qP, qK, qX⟩ := q
  exact ⟨q0, qP, qK.same rfl, qX⟩
variable {p : Program} {l : Launch} {e : Env} {R : Room} {s : State} {m : MethodId} {args : Array Value} {below : List Frame} {meth : Method} {c : Code} {H : Heap} {locs : List Loc} {cells slots : Nat} {Q : State → Prop}
variable {y : MethodName} {bytes cc : ByteArray} {maxL nL mc ms n index pc : Nat} {ret : Option FieldType} {wsY Ts : List Cond} {rm : Room} {own C host : String} {b : Addr} {As rest st0 : List Value} {ls : Array Slot} {a : Array Value}
variable {g : GG} {A0 : Nat → Prop} {ws wc wr : va_W} {Z : Nat → Prop} {X : Heap → Prop} {S : Type} {res : S → Option Value} {w : S → va_W} {post : S → Prop} {v : Option Value}
/-- behind a call that writes -/
theorem q_call (hr : va_Run p l e R s m args below meth c H locs cells slots mc ms (F0 m pc ls st0) rest (qPost g res w post (va_A wc H.size) a) (va_A wc H.size))
    (hW : gW g A0 s.heap H locs ws) (hA : ∀ q, s.heap.size ≤ q → A0 q) (isC isR : List Nat) (hC : isC.map (fun i => ws[i]?) = wc.map some) (hR : isR.map (fun i => ws[i]?) = wr.map some) (hn : va_nd isR = true) (hdis : ∀ i ∈ isR, i ∉ isC)
    (kk : ∀ (u : S) (H1 : Heap) (locs1 : List Loc), post u → gW g A0 s.heap H1 locs1 (wr ++ w u) → W p l e R s m args below meth c H1 locs1 (cells + mc) (slots + ms) Q (F0 m (pc + 3) ls ((res u).toList ++ rest))) : W p l e R s m args below meth c H locs cells slots Q (F0 m pc ls st0) := by
  intro T hT X9
  obtain ⟨v, st₀, t, T', L, h0, X', hL, e1, e2, ⟨⟨u, hp, hv, hP1, hD1⟩, hF⟩, st⟩ := hr T hT X9
  obtain ⟨hP, hD, hS⟩ := hW
  have hFr := va_free (wc := wc) hD hS hA isC hC
  obtain ⟨k1, k2, k3⟩ := vx_keep h0 e1 hS (fun q _ h => hFr q h) (fun q h => hFr q h) hL hF
  rw [e1] at k2
  obtain ⟨hPn, hDn⟩ := va_join (wr := wr) (w1 := w u) hP hD isC isR hC hR hn hdis k2 hFr hP1 hD1
  cases hv
  obtain ⟨t2, a1, b1⟩ := kk u T'.heap (locs ++ L) hp ⟨by rw [e1]; exact hPn, hDn, k3⟩ T' rfl X'
  exact ⟨t2, st t2 a1, b1⟩
/-- behind a call that only reads -/
theorem q_callP (hr : va_Run p l e R s m args below meth c H locs cells slots 0 0 (F0 m pc ls st0) rest (qPostP v a) (fun _ => False))
    (kk : W p l e R s m args below meth c H locs cells slots Q (F0 m (pc + 3) ls (v.toList ++ rest))) : W p l e R s m args below meth c H locs cells slots Q (F0 m pc ls st0) := by
  intro T hT X9
  obtain ⟨v1, st₀, t, T', L, h0, X', hL, e1, e2, ⟨hv, hh⟩, st⟩ := hr T hT X9
  cases hv
  obtain ⟨t2, a1, b1⟩ := kk T' (by rw [e1, hh, h0]) (Stand.forget X' (fun q h => (hL q h).elim))
  exact ⟨t2, st t2 a1, b1⟩
theorem q_preS (hK : gK g s) (hP : va_P g.1 vwCl wc H) (hD : va_D Z wc) (hX : X H) : PreS s H (qPre g As wc Z X H.size) As := ⟨blind_qPre, fun U hU hW => ⟨rfl, by rw [hU], by rw [hU]; exact hP, hK.warm hW, hD, by rw [hU]; exact hX⟩⟩
theorem q_preV (hK : gK g s) (hP : va_P g.1 vwCl wc H) (hD : va_D Z wc) (hX : X H) (hrec : ∃ cell : Cell, H[b]? = some cell ∧ cell.vm.isStatics = false ∧ s.vm.findClass C = some cell.cls) : PreV s H C b (qPre g (.ref b :: As) wc Z X H.size) As := ⟨blind_qPre, hrec, fun U hU hW => ⟨rfl, by rw [hU], by rw [hU]; exact hP, hK.warm hW, hD, by rw [hU]; exact hX⟩⟩
theorem q_prePS (hK : gK g s) (hP : va_P g.1 vwCl wc H) (hX : X H) : PreS s H (qPreP g As wc X) As := ⟨blind_qPreP, fun U hU hW => ⟨rfl, by rw [hU]; exact hP, hK.warm hW, by rw [hU]; exact hX⟩⟩
theorem q_prePV (hK : gK g s) (hP : va_P g.1 vwCl wc H) (hX : X H) (hrec : ∃ cell : Cell, H[b]? = some cell ∧ cell.vm.isStatics = false ∧ s.vm.findClass C = some cell.cls) : PreV s H C b (qPreP g (.ref b :: As) wc X) As := ⟨blind_qPreP, hrec, fun U hU hW => ⟨rfl, by rw [hU]; exact hP, hK.warm hW, by rw [hU]; exact hX⟩⟩
/-- a method's body, from its entry -/
theorem q_ofW {ws' : List Cond} {av : List Value} (hM : ∀ sz, va_D Z ws → va_D (va_A ws sz) ws) (hy : plainName y.cls = true) (hw : Ts = Cond.code y cc maxL ret :: ws') (hlen : (lg_sl av).length ≤ maxL)
    (body : ∀ (p : Program) (e : Env) (s : State) (m : MethodId) (args : Array Value) (below : List Frame) (meth : Method) (c : Code) (A : Nat → Prop) (ls : Array Slot), CallFix p m c cc maxL s args Ts y.cls → meth.sig.returnType = ret → meth.locks = false → meth.name = y.name → gK g s → (∀ q, s.heap.size ≤ q → A q) → A = va_A ws s.heap.size → gW g A s.heap s.heap [] ws → va_D Z ws → X s.heap → lv_has ls maxL (lv_args 0 av) →
      W p l e rm s m args below meth c s.heap [] 0 0 (MQ below (qPost g res w post A) args s mc ms A) (F0 m 0 ls [])) : qMet l y Ts rm g av ws Z X res w post mc ms := by
  intro sz
  refine Met.ofW (cc := cc) (maxL := maxL) (ret := ret) hy hw ?_
  intro p e s m args below meth c s₁ B hml hv
  obtain ⟨rfl, hsz, hP, hK, hD0, hX⟩ := hv
  subst hsz
  rw [lg_entry_eq]
  exact body p e s m _ below meth c _ _ ⟨B.exec, B.bytes, hml, findClass_of_methodNamed B.named, atoms_spec (ws := Ts) B.pre⟩ B.returns B.notSynchronized (name_of_methodNamed B.named B.method).1 hK (fun q h => Or.inr h) rfl ⟨hP, hM _ hD0, va_S.rf⟩ hD0 hX (lv_entry av hlen)
theorem q_ofP {ws' : List Cond} {av : List Value} (hy : plainName y.cls = true) (hw : Ts = Cond.code y cc maxL ret :: ws') (hlen : (lg_sl av).length ≤ maxL)
    (body : ∀ (p : Program) (e : Env) (s : State) (m : MethodId) (args : Array Value) (below : List Frame) (meth : Method) (c : Code) (ls : Array Slot), CallFix p m c cc maxL s args Ts y.cls → meth.sig.returnType = ret → meth.locks = false → gK g s → va_P g.1 vwCl ws s.heap → X s.heap → lv_has ls maxL (lv_args 0 av) →
      W p l e rm s m args below meth c s.heap [] 0 0 (MQ below (qPostP v) args s 0 0 (fun _ => False)) (F0 m 0 ls [])) : qPure l y Ts rm g av ws X v := by
  refine Met.ofW (cc := cc) (maxL := maxL) (ret := ret) hy hw ?_
  intro p e s m args below meth c s₁ B hml hv
  obtain ⟨rfl, hP, hK, hX⟩ := hv
  rw [lg_entry_eq]
  exact body p e s m _ below meth c _ ⟨B.exec, B.bytes, hml, findClass_of_methodNamed B.named, atoms_spec (ws := Ts) B.pre⟩ B.returns B.notSynchronized hK hP hX (lv_entry av hlen)
end QMET
