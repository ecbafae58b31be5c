/-! own layer: the law's own methods, and the law's frame -/
section QLOWN
theorem nI_iI (n : Nat) : nI n = iI (n : Int) := iI_nat n
theorem i2c_v {z : Int} (h : 0 ≤ z ∧ z < 65536) : ((iI z).toUInt32 % 65536).toInt32 = iI z := by
  obtain ⟨n, rfl⟩ := Int.eq_ofNat_of_zero_le h.1
  rw [pk_char]
  have e : (iI (n : Int)).toBitVec.toNat = n := by
    rw [← nI_iI]
    show n % 2 ^ 32 = n
    omega
  rw [e, Nat.mod_eq_of_lt (by omega)]
  exact nI_iI n
/-- what is left of an int without its sign -/
def lo0 (v : Int) : Int := (iI v &&& iI 2147483647).toInt
theorem lo0_r (v : Int) : 0 ≤ lo0 v ∧ lo0 v < 2147483648 := by
  have h : (iI v &&& iI 2147483647).toBitVec.toNat ≤ 2147483647 := by
    rw [Int32.toBitVec_and, BitVec.toNat_and]
    exact Nat.le_trans Nat.and_le_right (Nat.le_of_ble_eq_true rfl)
  have e : (iI v &&& iI 2147483647).toInt = ((iI v &&& iI 2147483647).toBitVec.toNat : Int) := BitVec.toInt_eq_toNat_of_lt (by omega)
  unfold lo0
  omega
def lo (v n : Int) : Int := lo0 v % n
theorem lo_r {v n : Int} (h : 0 < n) : 0 ≤ lo v n ∧ lo v n < n := emod_rng _ h
def shr9 (g k : Int) : Int := (iI g >>> (iI k &&& 31)).toInt
theorem shr9_r (g k : Int) : -2147483648 ≤ shr9 g k ∧ shr9 g k < 2147483648 := iI_rng _
/-- a cell of the script -/
def cel (L : Nat) (xs : Nat → Int32) (z : Int) : Int := if z < L then (xs z.toNat).toInt else 32452867 * z + 15485863
variable {p : Program} {l : Launch} {e : Env} {R : Room} {s : State} {m : MethodId} {args : Array Value} {below : List Frame} {meth : Method} {c : Code} {H : Heap} {locs : List Loc} {cells slots : Nat} {Q : State → Prop}
variable {y : MethodName} {bytes cc : ByteArray} {maxL nL mc ms n index pc : Nat} {ret : Option FieldType} {wsY ws' Ts : List Cond} {rm : Room} {own C E : String} {b : Addr} {As rest st0 : List Value} {ls : Array Slot} {a : Array Value}
variable {g : GG} {A0 : Nat → Prop} {ws wc wr : va_W} {Z : Nat → Prop} {X : Heap → Prop} {S : Type} {res : S → Option Value} {w : S → va_W} {post : S → Prop} {hh : List (Nat × Nat × Nat × Nat)}
theorem met_of_vx {l : Launch} {y : MethodName} {ws : List Cond} {rm : Room} {Pc : Array Value → State → Prop} {Qc : Array Value → State → Outcome → State → Prop} {mc ms : Nat} {free : Addr → Prop} (h : vx_Met l y ws rm Pc Qc (fun _ _ _ => False) mc ms free) : Met l y ws rm Pc Qc mc ms free := by
  intro p e ha hc hk s m args below hf happ hP hR
  obtain ⟨k, o, h1, h2, h3, hQ⟩ := h p e ha hc hk s m args below hf happ hP hR
  refine ⟨k, o, h1, h2, h3, ?_⟩
  rcases hQ with hQ | ⟨q, -, E, ce, L, hx, -⟩
  · exact hQ
  · exact hx.elim
/-- a method with a table of its own, in which nothing is thrown -/
theorem q_ofWH0 {av : List Value} (hM : ∀ sz, va_D Z ws → va_D (va_A ws sz) ws) (hy : plainName y.cls = true) (hw : Ts = Cond.codeWith y cc maxL ret hh :: ws') (hlen : (lg_sl av).length ≤ maxL)
    (body : ∀ (p : Program) (e : Env) (s : State) (m : MethodId) (args : Array Value) (below : List Frame) (meth : Method) (c : Code) (A : Nat → Prop) (ls : Array Slot), CallFix p m c cc maxL s args Ts y.cls → meth.sig.returnType = ret → meth.locks = false → gK g s → (∀ q, s.heap.size ≤ q → A q) → A = va_A ws s.heap.size → gW g A s.heap s.heap [] ws → va_D Z ws → X s.heap → lv_has ls maxL (lv_args 0 av) →
      W p l e rm s m args below meth c s.heap [] 0 0 (MQ below (qPost g res w post A) args s mc ms A) (F0 m 0 ls [])) : qMet l y Ts rm g av ws Z X res w post mc ms := by
  intro sz
  refine met_of_vx (vx_ofWH (cc := cc) (maxL := maxL) (ret := ret) (hh := hh) hy hw ?_)
  intro p e s m args below meth c s₁ B hml hv
  obtain ⟨rfl, hsz, hP, hK, hD0, hX⟩ := hv
  subst hsz
  rw [lg_entry_eq]
  exact vx_ret (body p e s m _ below meth c _ _ ⟨B.exec, B.bytes, hml, findClass_of_methodNamed B.named, atoms_spec (ws := Ts) B.pre⟩ B.returns B.notSynchronized hK (fun q h => Or.inr h) rfl ⟨hP, hM _ hD0, va_S.rf⟩ hD0 hX (lv_entry av hlen))
/-- the world with frozen States beside it -/
def gLw (g : GG) (Fam : FT → Prop) (A : Nat → Prop) (H0 H : Heap) (locs : List Loc) (ws : va_W) : Prop := gW g A H0 H locs ws ∧ va_D (fun q => ¬ fzF Fam q) ws ∧ FFx g Fam H
theorem gLw.sub {g : GG} {Fam : FT → Prop} {A : Nat → Prop} {H0 H : Heap} {locs : List Loc} {ws ws' : va_W} (h : gLw g Fam A H0 H locs ws) (is : List Nat) (hn : va_nd is = true) (hs : is.map (fun i => ws[i]?) = ws'.map some) : gLw g Fam A H0 H locs ws' := ⟨h.1.sub is hn hs, h.2.1.sub is hn hs, h.2.2⟩
theorem gLw.to {g : GG} {Fam : FT → Prop} {A : Nat → Prop} {H0 H : Heap} {locs : List Loc} {ws ws' : va_W} (h : gLw g Fam A H0 H locs ws) (e : ws = ws') : gLw g Fam A H0 H locs ws' := e ▸ h
theorem sub_mem {ws wc : va_W} {is : List Nat} (hs : is.map (fun i => ws[i]?) = wc.map some) {q : Nat × va_E} (hq : q ∈ wc) : q ∈ ws := by
  obtain ⟨k, hk⟩ := List.getElem?_of_mem hq
  obtain ⟨i, -, hi⟩ := sub_place hs hk
  exact List.mem_of_getElem? hi
theorem va_D.mem {A : Nat → Prop} {ws : va_W} (h : va_D A ws) {q : Nat × va_E} (hq : q ∈ ws) : A q.1 := by
  obtain ⟨k, hk⟩ := List.getElem?_of_mem hq
  exact h.2 k q hk
/-- what a call leaves -/
theorem gLw_call {g : GG} {Fam : FT → Prop} {A0 : Nat → Prop} {H0 H H1 : Heap} {locs L : List Loc} {ws wc wr w1 : va_W} (h : gLw g Fam A0 H0 H locs ws) (hA : ∀ q, H0.size ≤ q → A0 q) (isC isR : List Nat) (hC : isC.map (fun i => ws[i]?) = wc.map some) (hR : isR.map (fun i => ws[i]?) = wr.map some) (hn : va_nd isR = true) (hdis : ∀ i ∈ isR, i ∉ isC)
    (k2 : ∀ q : Nat, q < H.size → ¬ va_A wc H.size q → H1[q]? = H[q]?) (k3 : va_S A0 H0 H1 (locs ++ L)) (hP1 : va_P g.1 vwCl w1 H1) (hD1 : va_D (va_A wc H.size) w1) : gLw g Fam A0 H0 H1 (locs ++ L) (wr ++ w1) := by
  obtain ⟨⟨hP, hD, hS⟩, hZ, hF⟩ := h
  have hFr := va_free (wc := wc) hD hS hA isC hC
  obtain ⟨hPn, hDn⟩ := va_join (wr := wr) (w1 := w1) hP hD isC isR hC hR hn hdis k2 hFr hP1 hD1
  have hfr : ∀ q, va_A wc H.size q → ¬ fzF Fam q := by
    intro q hq hz
    rcases hq with ⟨k, e, hk⟩ | hq
    · exact hZ.mem (sub_mem hC (List.mem_of_getElem? hk)) hz
    · obtain ⟨F, h1, h2⟩ := hz
      exact absurd (FX_lt (hF F h1) h2) (by omega)
  refine ⟨⟨hPn, hDn, k3⟩, ⟨hDn.1, fun k q hk => ?_⟩, fun F h1 => FX_kept (hF F h1) (fun q hq => k2 q (FX_lt (hF F h1) hq) (fun z => hfr q z ⟨F, h1, hq⟩))⟩
  rcases List.mem_append.mp (List.mem_of_getElem? hk) with hm | hm
  · exact hZ.mem (sub_mem hR hm)
  · exact hfr q.1 (hD1.mem hm)
variable {Fam : FT → Prop}
theorem q_lcall (hr : va_Run p l e R s m args below meth c H locs cells slots mc ms (F0 m pc ls st0) rest (qPost g res w post (va_A wc H.size) a) (va_A wc H.size))
    (hL : gLw g Fam A0 s.heap H locs ws) (hA : ∀ q, s.heap.size ≤ q → A0 q) (isC isR : List Nat) (hC : isC.map (fun i => ws[i]?) = wc.map some) (hR : isR.map (fun i => ws[i]?) = wr.map some) (hn : va_nd isR = true) (hdis : ∀ i ∈ isR, i ∉ isC)
    (kk : ∀ (u : S) (H1 : Heap) (locs1 : List Loc), post u → gLw g Fam A0 s.heap H1 locs1 (wr ++ w u) → W p l e R s m args below meth c H1 locs1 (cells + mc) (slots + ms) Q (F0 m (pc + 3) ls ((res u).toList ++ rest))) : W p l e R s m args below meth c H locs cells slots Q (F0 m pc ls st0) := by
  intro T hT X9
  obtain ⟨v, st₀, t, T', L, h0, X', hL1, e1, e2, ⟨⟨u, hp, hv, hP1, hD1⟩, hF⟩, st⟩ := hr T hT X9
  have hFr := va_free (wc := wc) hL.1.2.1 hL.1.2.2 hA isC hC
  obtain ⟨k1, k2, k3⟩ := vx_keep h0 e1 hL.1.2.2 (fun q _ h => hFr q h) (fun q h => hFr q h) hL1 hF
  cases hv
  obtain ⟨t2, a1, b1⟩ := kk u T'.heap (locs ++ L) hp (gLw_call hL hA isC isR hC hR hn hdis k2 k3 (by rw [e1]; exact hP1) hD1) T' rfl X'
  exact ⟨t2, st t2 a1, b1⟩
/-- a method of the object is called -/
theorem q_lV (S0 : CallFix p m c cc nL s args Ts own) (hK : gK g s) (hA : ∀ q, s.heap.size ≤ q → A0 q) (hL : gLw g Fam A0 s.heap H locs ws) (hM : qMet l y wsY rm g (.ref b :: As) wc Z X res w post mc ms) (hG : GoodIn Ts (wsV own index C y wsY)) (hw : wsY = Cond.code y bytes maxL ret :: ws') (hrc : rm.cells = mc) (hrs : rm.slots = ms)
    (hd : y.cls = C ∧ y.cls ≠ "java/lang/invoke/MethodHandle" ∧ y.cls ≠ "java/lang/invoke/VarHandle" ∧ (parseMethodDescriptor y.desc).map (fun d => d.parameters.length) = some n) (hR : rm.frames + 1 ≤ R.frames ∧ 8 + (maxL + 11) + rm.locals ≤ R.locals)
    (isC isR : List Nat) (hC : isC.map (fun i => ws[i]?) = wc.map some) (hnC : va_nd isC = true) (hR2 : isR.map (fun i => ws[i]?) = wr.map some) (hn : va_nd isR = true) (hdis : ∀ i ∈ isR, i ∉ isC)
    (hrec : ∃ cell : Cell, H[b]? = some cell ∧ cell.vm.isStatics = false ∧ s.vm.findClass C = some cell.cls) (hZ : ∀ q, ¬ fzF Fam q → Z q) (hX : X H) (hst : st0 = As.reverse ++ .ref b :: rest) (hnA : As.length = n) (hsize : ls.size = nL) (hcat : (rest.map fun v => v.category).sum ≤ 8) (hf : cells + mc ≤ R.cells ∧ slots + ms ≤ R.slots) (hdg : decode cc pc = .ok (.invokevirtual index, 3))
    (kk : ∀ (u : S) (H1 : Heap) (locs1 : List Loc), post u → gLw g Fam A0 s.heap H1 locs1 (wr ++ w u) → W p l e R s m args below meth c H1 locs1 (cells + mc) (slots + ms) Q (F0 m (pc + 3) ls ((res u).toList ++ rest))) : W p l e R s m args below meth c H locs cells slots Q (F0 m pc ls st0) :=
  q_lcall (va_runV S0 (hM H.size) (cwV n S0.2.2.2.2 hG hw hrc hrs hd hR) (q_preV hK (subP hL.1.1 isC hC) ((hL.2.1.sub isC hnC hC).weaken (fun _ q _ h => hZ _ h)) hX hrec) rfl hnA hsize hst (lv_room hcat) hdg hf) hL hA isC isR hC hR2 hn hdis kk
/-- a static method of the law's own is called -/
theorem q_lSm (S0 : CallFix p m c cc nL s args Ts own) (hK : gK g s) (hA : ∀ q, s.heap.size ≤ q → A0 q) (hL : gLw g Fam A0 s.heap H locs ws) (hM : qMet l y wsY rm g As wc Z X res w post mc ms) (hG : GoodIn Ts (va_wsS own index y wsY)) (hw : wsY = Cond.code y bytes maxL ret :: ws') (hrc : rm.cells = mc) (hrs : rm.slots = ms)
    (hd : y.cls ≠ "java/lang/invoke/MethodHandle" ∧ y.cls ≠ "java/lang/invoke/VarHandle" ∧ (parseMethodDescriptor y.desc).map (fun d => d.parameters.length) = some n) (hR : rm.frames + 1 ≤ R.frames ∧ 8 + (maxL + 11) + rm.locals ≤ R.locals)
    (isC isR : List Nat) (hC : isC.map (fun i => ws[i]?) = wc.map some) (hnC : va_nd isC = true) (hR2 : isR.map (fun i => ws[i]?) = wr.map some) (hn : va_nd isR = true) (hdis : ∀ i ∈ isR, i ∉ isC)
    (hZ : ∀ q, ¬ fzF Fam q → Z q) (hX : X H) (hst : st0 = As.reverse ++ rest) (hnA : As.length = n) (hsize : ls.size = nL) (hcat : (rest.map fun v => v.category).sum ≤ 8) (hf : cells + mc ≤ R.cells ∧ slots + ms ≤ R.slots) (hdg : decode cc pc = .ok (.invokestatic index, 3))
    (kk : ∀ (u : S) (H1 : Heap) (locs1 : List Loc), post u → gLw g Fam A0 s.heap H1 locs1 (wr ++ w u) → W p l e R s m args below meth c H1 locs1 (cells + mc) (slots + ms) Q (F0 m (pc + 3) ls ((res u).toList ++ rest))) : W p l e R s m args below meth c H locs cells slots Q (F0 m pc ls st0) :=
  q_lcall (va_runS S0 (hM H.size) (va_cwS n S0.2.2.2.2 hG hw hrc hrs hd hR) (q_preS hK (subP hL.1.1 isC hC) ((hL.2.1.sub isC hnC hC).weaken (fun _ q _ h => hZ _ h)) hX) rfl hnA hsize hst (lv_room hcat) hdg hf) hL hA isC isR hC hR2 hn hdis kk
/-- one with a table of its own -/
theorem q_lSw (S0 : CallFix p m c cc nL s args Ts own) (hK : gK g s) (hA : ∀ q, s.heap.size ≤ q → A0 q) (hL : gLw g Fam A0 s.heap H locs ws) (hM : qMet l y wsY rm g As wc Z X res w post mc ms) (hG : GoodIn Ts (va_wsS own index y wsY)) (hw : wsY = Cond.codeWith y bytes maxL ret hh :: ws') (hrc : rm.cells = mc) (hrs : rm.slots = ms)
    (hd : y.cls ≠ "java/lang/invoke/MethodHandle" ∧ y.cls ≠ "java/lang/invoke/VarHandle" ∧ (parseMethodDescriptor y.desc).map (fun d => d.parameters.length) = some n) (hR : rm.frames + 1 ≤ R.frames ∧ 8 + (maxL + 11) + rm.locals ≤ R.locals)
    (isC isR : List Nat) (hC : isC.map (fun i => ws[i]?) = wc.map some) (hnC : va_nd isC = true) (hR2 : isR.map (fun i => ws[i]?) = wr.map some) (hn : va_nd isR = true) (hdis : ∀ i ∈ isR, i ∉ isC)
    (hZ : ∀ q, ¬ fzF Fam q → Z q) (hX : X H) (hst : st0 = As.reverse ++ rest) (hnA : As.length = n) (hsize : ls.size = nL) (hcat : (rest.map fun v => v.category).sum ≤ 8) (hf : cells + mc ≤ R.cells ∧ slots + ms ≤ R.slots) (hdg : decode cc pc = .ok (.invokestatic index, 3))
    (kk : ∀ (u : S) (H1 : Heap) (locs1 : List Loc), post u → gLw g Fam A0 s.heap H1 locs1 (wr ++ w u) → W p l e R s m args below meth c H1 locs1 (cells + mc) (slots + ms) Q (F0 m (pc + 3) ls ((res u).toList ++ rest))) : W p l e R s m args below meth c H locs cells slots Q (F0 m pc ls st0) :=
  q_lcall (vx_runSW S0 (hM H.size) (vx_cwSW n S0.2.2.2.2 hG hw hrc hrs hd hR) (q_preS hK (subP hL.1.1 isC hC) ((hL.2.1.sub isC hnC hC).weaken (fun _ q _ h => hZ _ h)) hX) rfl hnA hsize hst (lv_room hcat) hdg hf) hL hA isC isR hC hR2 hn hdis kk
/-- an int into a row of the law's -/
theorem q_liast (S0 : CallFix p m c cc nL s args Ts own) (hK : gK g s) (hL : gLw g Fam A0 s.heap H locs ws) (q0 : Nat) {k a9 : Nat} {f : Nat → Int} (he : ws[q0]? = some (a9, gI g k f)) {z x : Int} (hz : 0 ≤ z ∧ z < k ∧ z < 2147483648) (hdg : decode cc pc = .ok (.iastore, 1))
    (kk : ∀ (H1 : Heap) (locs1 : List Loc), gLw g Fam A0 s.heap H1 locs1 (ws.set q0 (a9, gI g k (up f z.toNat x))) → W p l e R s m args below meth c H1 locs1 cells slots Q (F0 m (pc + 1) ls rest)) : W p l e R s m args below meth c H locs cells slots Q (F0 m pc ls (.int (iI x) :: .int (iI z) :: .ref a9 :: rest)) := by
  have hin := iI_in (n := k) hz.1 hz.2.1 hz.2.2
  have hcl := iI_cl hz.1 hz.2.2
  obtain ⟨hW, hD, hF⟩ := hL
  refine W.iast S0.1 S0.2.1 (hW.1 q0 _ he) ((hK.1.2 0 _ rfl).1 k (fun j => .int (iI (f j)))) (fun q => by cases q) (by show ¬ (iI z < 0 ∨ (arrV _ _ _).slots.size ≤ _); rw [arrV_size]; exact hin) rfl rfl hdg fun H1 e1 z1 oq => ?_
  have hc : H1[a9]? = some (vp_cell g.2.1 (k, .inl (fun j => iI (up f z.toNat x j)))) := by
    rw [e1]
    show some ((vp_cell g.2.1 (k, .inl (fun j => iI (f j)))).setSlot (iI z).toNatClampNeg (.int (iI x))) = _
    rw [vp_cell_i, vp_cell_i, arrV_store, hcl]
    congr 2
    funext q
    by_cases hq : q = z.toNat
    · subst hq
      simp [updV, up]
    · simp [updV, up, hq]
  exact kk H1 _ ⟨⟨hW.1.set hW.2.1 he hc oq, hW.2.1.set he, hW.2.2.put z1 oq (hW.2.1.2 q0 _ he)⟩, hD.set he, fun F hF1 => FX_kept (hF F hF1) (fun q hq => oq q (fun h => hD.2 q0 _ he ⟨F, hF1, by rw [← h]; exact hq⟩))⟩
/-- a new row of the law's -/
theorem q_lnewI (S0 : CallFix p m c cc nL s args Ts own) (hK : gK g s) (hA : ∀ q, s.heap.size ≤ q → A0 q) (hL : gLw g Fam A0 s.heap H locs ws) (harr : Cond.arrayClass .int ∈ Ts) {N : Nat} {z : Int} (hz : z = N ∧ z < 100000) (hcells : cells + 1 ≤ R.cells) (hslots : slots + N ≤ R.slots) (hdg : decode cc pc = .ok (.newarray .int, 2))
    (kk : ∀ (q : Nat) (H1 : Heap), gLw g Fam A0 s.heap H1 locs (ws ++ [(q, gI g N (fun _ => 0))]) → W p l e R s m args below meth c H1 locs (cells + 1) (slots + N) Q (F0 m (pc + 2) ls (.ref q :: rest))) : W p l e R s m args below meth c H locs cells slots Q (F0 m pc ls (.int (iI z) :: rest)) := by
  obtain ⟨rfl, hz⟩ := hz
  obtain ⟨hW, hD, hF⟩ := hL
  refine va_newaK (atype := .int) (N := N) S0.1 S0.2.1 (S0.2.2.2.2 _ harr) rfl hdg rfl ?_ (by rw [iI_cl (by omega) (by omega)]; omega) (by show N * 4 ≤ 536870912; omega) hcells hslots rfl fun H1 cA e1 z1 o1 hAr hNm => ?_
  · rw [iI_0, iI_lt ⟨⟨by omega, by omega⟩, by decide⟩]; omega
  · have e : cA = g.2.1 := Option.some.inj (hNm.symm.trans (hK.1.2 0 _ rfl).2)
    subst e
    have hk : ∀ (k : Nat) (x : Nat × va_E), ws[k]? = some x → H1[x.1]? = H[x.1]? := fun k x hx => o1 x.1 ((hW.1 k x hx).lt)
    have hfz : ¬ fzF Fam H.size := by
      rintro ⟨F, h1, h2⟩
      exact absurd (FX_lt (hF F h1) h2) (Nat.lt_irrefl _)
    refine kk H.size H1 ⟨⟨(hW.1.kept hk).app (fun k x hx => ?_), hW.2.1.push hW.1 rfl (hA _ hW.2.2.1), ⟨Nat.le_trans hW.2.2.1 (by omega), fun x h1 h2 => (o1 x (Nat.lt_of_lt_of_le h1 hW.2.2.1)).trans (hW.2.2.2.1 x h1 h2), hW.2.2.2.2⟩⟩, hD.push hW.1 rfl hfz, fun F hF1 => FX_kept (hF F hF1) (fun q hq => o1 q (FX_lt (hF F hF1) hq))⟩
    have hz2 : k < 1 := (List.getElem?_eq_some_iff.mp hx).1
    rw [show k = 0 by omega] at hx
    cases hx
    show H1[H.size]? = some (vp_cell g.2.1 (N, .inl (fun _ => iI 0)))
    exact e1
/-- a new State becomes a frozen one -/
theorem gLw_freeze {g : GG} {Fam : FT → Prop} {A : Nat → Prop} {H0 H : Heap} {locs : List Loc} {ws wk wn : va_W} (h : gLw g Fam A H0 H locs ws) (isK isN : List Nat) (hK : isK.map (fun i => ws[i]?) = wk.map some) (hnK : va_nd isK = true) (hN : isN.map (fun i => ws[i]?) = wn.map some) (hdis : ∀ i ∈ isK, i ∉ isN) {F F' : FT} (hF : Fam F) (hX : FX g F' H) (hz : ∀ q, fzA F' q → fzA F q ∨ ∃ e, (q, e) ∈ wn) : gLw g (fun G => Fam G ∨ G = F') A H0 H locs wk := by
  have hsub := h.sub isK hnK hK
  refine ⟨hsub.1, ⟨hsub.2.1.1, fun k q hk => ?_⟩, fun G hG => ?_⟩
  · rintro ⟨G, hG, hq⟩
    have hold : ∀ G, Fam G → fzA G q.1 → False := fun G h1 h2 => hsub.2.1.2 k q hk ⟨G, h1, h2⟩
    rcases hG with hG | rfl
    · exact hold G hG hq
    · rcases hz q.1 hq with y | ⟨e, he⟩
      · exact hold F hF y
      · obtain ⟨i, hi1, hi2⟩ := sub_place hK hk
        obtain ⟨j, hj⟩ := List.getElem?_of_mem he
        obtain ⟨j2, hj1, hj2⟩ := sub_place hN hj
        have := h.1.2.1.1 i j2 q (q.1, e) hi2 hj2 rfl
        exact hdis i (List.mem_of_getElem? hi1) (by rw [this]; exact List.mem_of_getElem? hj1)
  · rcases hG with hG | rfl
    · exact h.2.2 G hG
    · exact hX
/-- the first frozen State -/
theorem gLw_first {g : GG} {A : Nat → Prop} {H0 H : Heap} {locs : List Loc} {ws wk wn : va_W} (h : gW g A H0 H locs ws) (isK isN : List Nat) (hK : isK.map (fun i => ws[i]?) = wk.map some) (hnK : va_nd isK = true) (hN : isN.map (fun i => ws[i]?) = wn.map some) (hdis : ∀ i ∈ isK, i ∉ isN) {F' : FT} (hX : FX g F' H) (hz : ∀ q, fzA F' q → ∃ e, (q, e) ∈ wn) : gLw g (fun G => G = F') A H0 H locs wk := by
  have hsub := h.sub isK hnK hK
  refine ⟨hsub, ⟨hsub.2.1.1, fun k q hk => ?_⟩, fun G hG => by rw [hG]; exact hX⟩
  rintro ⟨G, hG, hq⟩
  rw [hG] at hq
  obtain ⟨e, he⟩ := hz q.1 hq
  obtain ⟨i, hi1, hi2⟩ := sub_place hK hk
  obtain ⟨j, hj⟩ := List.getElem?_of_mem he
  obtain ⟨j2, hj1, hj2⟩ := sub_place hN hj
  have := h.2.1.1 i j2 q (q.1, e) hi2 hj2 rfl
  exact hdis i (List.mem_of_getElem? hi1) (by rw [this]; exact List.mem_of_getElem? hj1)
/-- a cell of the script: the contract, and its call -/
def qPreC (g : GG) (b0 L : Nat) (xs : Nat → Int32) (z : Int) : Array Value → State → Prop := va_Pc [.ref b0, .int (iI z)] (fun U => gK g U ∧ va_X b0 L xs U U.heap ∧ b0 < U.heap.size)
theorem blind_qPreC {g : GG} {b0 L : Nat} {xs : Nat → Int32} {z : Int} : FrameBlind (qPreC g b0 L xs z) := fun a U f mk q => by
  obtain ⟨q0, qK, qX, ql⟩ := q
  exact ⟨q0, qK.same rfl, qX.moved (u := U) (Vm.Alike.refl U.vm), ql⟩
def LC (p : Program) (l : Launch) (s : State) (m : MethodId) (b0 L : Nat) (xs : Nat → Int32) (meth : Method) (c : Code) (g : GG) : Prop := CallFix p m c code 12 s #[.ref b0] wsL_law RL ∧ meth.locks = false ∧ va_X b0 L xs s s.heap ∧ b0 < s.heap.size ∧ gK g s ∧ L ≤ 260
end QLOWN
