/-! own layer: methods that throw, and their callers -/
section QTHR
def exI : String := "java/lang/IndexOutOfBoundsException"
def exS : String := "java/lang/IllegalStateException"
def exA : String := "java/lang/IllegalArgumentException"
abbrev exN : List String := ["java/lang/RuntimeException", "java/lang/Exception"]
/-- the words of throws that are no good words -/
def thrW : List Cond := [.castable exI exI, .castable exS exS, .castable exA exA, .declares ⟨"java/lang/RuntimeException", "<init>", "(Ljava/lang/String;)V"⟩, .declares ⟨"java/lang/Exception", "<init>", "(Ljava/lang/String;)V"⟩, .declares ⟨"java/lang/Throwable", "<init>", "(Ljava/lang/String;)V"⟩]
def strW : List (Nat × String) := [(51, "the text is not valid"), (60, "the text uses a function whose number is not less"), (90, "the expression uses a function whose number is not less"), (98, "the modulus must be a prime from 2 to 199"), (112, "the text is full"), (124, "no state is recorded"), (132, "there is no snapshot"), (184, "there is no such function"), (187, "x is out of range")]
theorem thr_tab : ∀ w ∈ thrW, w.onTables = true := by
  intro w h
  simp only [thrW, List.mem_cons, List.not_mem_nil, or_false] at h
  rcases h with h | h | h | h | h | h <;> subst h <;> rfl
theorem thr_warm {s U : State} (hW : s.WarmedH U.vm) : ∀ w ∈ thrW, va_Nw w s → va_Nw w U := by
  intro w h
  simp only [thrW, List.mem_cons, List.not_mem_nil, or_false] at h
  rcases h with h | h | h | h | h | h <;> subst h <;> first | exact va_Nw.warmC hW | exact va_Nw.warmD hW
/-- what a throw asks of the machine's state -/
def gE (A : Nat → Prop) (U : State) : Prop := (vx_Zq Bundle.tN "UNASSIGNED_STACK" Bundle.steD A U U.heap ∧ vx_Zq Bundle.tN "SUPPRESSED_SENTINEL" Bundle.listD A U U.heap) ∧ (∀ (k : Nat) (w : Cond), thrW[k]? = some w → va_Nw w U) ∧ (∀ (k : Nat) (q : Nat × String), strW[k]? = some q → ∃ a, vk_R RX10 q.1 q.2 a U) ∧ (va_Nc exS exI U ∧ va_Nc exA exI U)
theorem gE.to {A B : Nat → Prop} {s U : State} {H : Heap} {locs : List Loc} (h : gE A s) (hW : s.WarmedH U.vm) (hU : U.heap = H) (hS : va_S A s.heap H locs) (hAB : ∀ q, B q → A q) : gE B U := by
  obtain ⟨⟨h1, h2⟩, h3, h4, h5, h6⟩ := h
  refine ⟨⟨?_, ?_⟩, fun k w hk => thr_warm hW w (List.mem_of_getElem? hk) (h3 k w hk), fun k q hk => ?_, h5.moved hW.alike, h6.moved hW.alike⟩
  · rw [hU]; exact ((h1.moved hW.alike).kept hS.2.1).narrow hAB
  · rw [hU]; exact ((h2.moved hW.alike).kept hS.2.1).narrow hAB
  · obtain ⟨a, ha⟩ := h4 k q hk
    exact ⟨a, ha.warm hW⟩
theorem gE.same {B : Nat → Prop} {U V : State} (h : gE B U) (e : U.vm = V.vm) (e2 : V.heap = U.heap) : gE B V := by
  have hal : U.vm.Alike V.vm := by rw [e]; exact Vm.Alike.refl V.vm
  obtain ⟨⟨h1, h2⟩, h3, h4, h5, h6⟩ := h
  refine ⟨⟨?_, ?_⟩, fun k w hk => (h3 k w hk).same (thr_tab w (List.mem_of_getElem? hk)) e, fun k q hk => ?_, h5.moved hal, h6.moved hal⟩
  · rw [e2]; exact h1.moved hal
  · rw [e2]; exact h2.moved hal
  · obtain ⟨a, ha⟩ := h4 k q hk
    exact ⟨a, ha.same e.symm⟩
def qPreT (g : GG) (av : List Value) (ws : va_W) (Z : Nat → Prop) (X : Heap → Prop) (sz : Nat) : Array Value → State → Prop := va_Pc av (fun U => U.heap.size = sz ∧ va_P g.1 vwCl ws U.heap ∧ gK g U ∧ va_D Z ws ∧ X U.heap ∧ gE (va_A ws sz) U)
def qNo : Array Value → State → Outcome → State → Prop := fun _ _ _ _ => False
def qXC {S : Type} (g : GG) (E : String) (w : S → va_W) (post : S → Prop) (A : Nat → Prop) : String → State → State → Prop := vx_X post (fun E' u t => E' = E ∧ va_P g.1 vwCl (w u) t.heap ∧ va_D A (w u)) A
/-- a method that throws E -/
def qThr (l : Launch) (y : MethodName) (Ts : List Cond) (rm : Room) (g : GG) (av : List Value) (ws : va_W) (Z : Nat → Prop) (X : Heap → Prop) (E : String) {S : Type} (w : S → va_W) (post : S → Prop) (mc ms : Nat) : Prop :=
  ∀ sz : Nat, vx_Met l y Ts rm (qPreT g av ws Z X sz) qNo (qXC g E w post (va_A ws sz)) mc ms (va_A ws sz)
theorem blind_qPreT {g : GG} {av : List Value} {ws : va_W} {Z : Nat → Prop} {X : Heap → Prop} {sz : Nat} : FrameBlind (qPreT g av ws Z X sz) := fun a U f mk q => by
  obtain ⟨q0, q1, qP, qK, qD, qX, qE⟩ := q
  exact ⟨q0, q1, qP, qK.same rfl, qD, qX, qE.same rfl rfl⟩
variable {p : Program} {l : Launch} {e : Env} {R : Room} {s : State} {m : MethodId} {args : Array Value} {below : List Frame} {meth : Method} {c : Code} {H : Heap} {locs : List Loc} {cells slots : Nat} {Q : State → Prop}
variable {y : MethodName} {bytes cc : ByteArray} {maxL nL mc ms n index pc mc0 ms0 : Nat} {ret : Option FieldType} {wsY ws' Ts : List Cond} {rm : Room} {own C E : String} {b : Addr} {As rest st0 : List Value} {ls : Array Slot} {a : Array Value}
variable {g : GG} {A0 : Nat → Prop} {ws wc wr : va_W} {Z : Nat → Prop} {X : Heap → Prop} {S S2 : Type} {w : S → va_W} {post : S → Prop} {w2 : S2 → va_W} {post2 : S2 → Prop}
/-- a throwing method's body -/
theorem q_ofT {av : List Value} (hM : ∀ sz, va_D Z ws → va_D (va_A ws sz) ws) (hy : plainName y.cls = true) (hw : Ts = Cond.code y cc maxL ret :: ws') (hlen : (lg_sl av).length ≤ maxL)
    (body : ∀ (p : Program) (e : Env) (s : State) (m : MethodId) (args : Array Value) (below : List Frame) (meth : Method) (c : Code) (A : Nat → Prop) (ls : Array Slot), CallFix p m c cc maxL s args Ts y.cls → meth.locks = false → (∀ x ∈ c.exceptionTable.toList, False) → gK g s → gE A s → (∀ q, s.heap.size ≤ q → A q) → A = va_A ws s.heap.size → gW g A s.heap s.heap [] ws → va_D Z ws → X s.heap → lv_has ls maxL (lv_args 0 av) →
      W p l e rm s m args below meth c s.heap [] 0 0 (vx_MQ below qNo (qXC g E w post A) args s mc ms A) (F0 m 0 ls [])) : qThr l y Ts rm g av ws Z X E w post mc ms := by
  intro sz
  refine vx_ofW (cc := cc) (maxL := maxL) (ret := ret) hy hw ?_
  intro p e s m args below meth c s₁ B hml ht hv
  obtain ⟨rfl, hsz, hP, hK, hD0, hX, hE⟩ := hv
  subst hsz
  rw [lg_entry_eq]
  exact body p e s m _ below meth c _ _ ⟨B.exec, B.bytes, hml, findClass_of_methodNamed B.named, atoms_spec (ws := Ts) B.pre⟩ B.notSynchronized ht hK hE (fun q h => Or.inr h) rfl ⟨hP, hM _ hD0, va_S.rf⟩ hD0 hX (lv_entry av hlen)
theorem tb_53 : ∀ z ∈ (vx_atS RX10 53 exS exN).filter (fun z => !goodWord z), z ∈ thrW := by decide +kernel
theorem tb_100 : ∀ z ∈ (vx_atS RX10 100 exA exN).filter (fun z => !goodWord z), z ∈ thrW := by decide +kernel
theorem tb_186 : ∀ z ∈ (vx_atS RX10 186 exI exN).filter (fun z => !goodWord z), z ∈ thrW := by decide +kernel
theorem tg_53 : ∀ z ∈ Cond.classLink RX10 49 exS :: Cond.initialized exS :: vx_atS RX10 53 exS exN, vx_ot z = true := by decide +kernel
theorem tg_100 : ∀ z ∈ Cond.classLink RX10 96 exA :: Cond.initialized exA :: vx_atS RX10 100 exA exN, vx_ot z = true := by decide +kernel
theorem tg_186 : ∀ z ∈ Cond.classLink RX10 182 exI :: Cond.initialized exI :: vx_atS RX10 186 exI exN, vx_ot z = true := by decide +kernel
/-- 'throw new E(text)' -/
theorem q_throw (S0 : CallFix p m c cc nL s args Ts RX10) (hl : l.stackTraces = false) (hlocks : meth.locks = false) (ht : ∀ x ∈ c.exceptionTable.toList, False) (hE : gE A0 s) {u : S} (hW : gW g A0 s.heap H locs (w u)) (hp : post u) {ik is ic : Nat} {tx : String} (k3 : Nat) (hstr : strW[k3]? = some (is, tx))
    (hcls : Bundle.fit E = true) (hk : Cond.classLink RX10 ik E ∈ Ts) (hini : Cond.initialized E ∈ Ts) (hgd : ∀ z ∈ (vx_atS RX10 ic E exN).filter goodWord, z ∈ Ts) (hbad : ∀ z ∈ (vx_atS RX10 ic E exN).filter (fun z => !goodWord z), z ∈ thrW) (hgood : ∀ z ∈ Cond.classLink RX10 ik E :: Cond.initialized E :: vx_atS RX10 ic E exN, vx_ot z = true) (hsize : ls.size = nL)
    (d0 : decode cc pc = .ok (.new ik, 3)) (d3 : decode cc (pc + 3) = .ok (.dup, 1)) (d4 : decode cc (pc + 4) = .ok (.ldc is, 2)) (d6 : decode cc (pc + 6) = .ok (.invokespecial ic, 3)) (d9 : decode cc (pc + 9) = .ok (.athrow, 1))
    (hR : 5 < R.frames ∧ (rest.map fun v => v.category).sum + 82 ≤ R.locals ∧ cells + 1 ≤ R.cells ∧ slots + 6 ≤ R.slots) (hc : cells + 1 ≤ mc) (hs : slots + 6 ≤ ms) :
    W p l e R s m args below meth c H locs cells slots (vx_MQ below qNo (qXC g E w post A0) args s mc ms A0) (F0 m pc ls rest) := by
  obtain ⟨sa, hsa⟩ := hE.2.2.1 k3 _ hstr
  refine vx_throwS (names := exN) S0.1 S0.2.1 hl S0.2.2.2.1 hcls (by decide +kernel) (S0.2.2.2.2 _ hk) (S0.2.2.2.2 _ hini) hsa (vx_hat (fun z hz => S0.2.2.2.2 _ (hgd z hz)) hbad (fun z hz => ?_)) hgood hE.1.1 hE.1.2 hW.2.2 (hsize.trans S0.2.2.1.symm) d0 d3 d4 d6 d9 (fun x hx => (ht x hx).elim) hR.1 hR.2.1 hR.2.2.1 hR.2.2.2 hlocks (fun t _ hz hq => ?_) hW.2.2.2.2 hc hs
  · obtain ⟨k, hk⟩ := List.getElem?_of_mem hz
    exact va_Nw.use (thr_tab z hz) (hE.2.1 k z hk)
  · refine ⟨u, hp, ⟨rfl, hW.1.kept (fun k q hk => hq q.1 (va_P.lt9 hW.1 hk)), hW.2.1⟩, Nat.le_trans hW.2.2.1 hz, fun q h1 h2 => ?_⟩
    rw [hq q (Nat.lt_of_lt_of_le h1 hW.2.2.1)]
    exact hW.2.2.2.1 q h1 h2
theorem q_preTV (hK : gK g s) (hP : va_P g.1 vwCl wc H) (hD : va_D Z wc) (hX : X H) (hE : gE A0 s) (hS : va_S A0 s.heap H locs) (hAB : ∀ q, va_A wc H.size q → A0 q) (hrec : ∃ cell : Cell, H[b]? = some cell ∧ cell.vm.isStatics = false ∧ s.vm.findClass C = some cell.cls) : PreV s H C b (qPreT g (.ref b :: As) wc Z X H.size) As := ⟨blind_qPreT, hrec, fun U hU hW => ⟨rfl, by rw [hU], by rw [hU]; exact hP, hK.warm hW, hD, by rw [hU]; exact hX, hE.to hW hU hS hAB⟩⟩
/-- behind a call that throws -/
theorem q_callT (hr : vx_Run p l e R s m args below meth c H locs cells slots mc ms (F0 m pc ls st0) rest (qNo a) (qXC g E w2 post2 (va_A wc H.size)) (va_A wc H.size))
    (hW : gW g A0 s.heap H locs ws) (hA : ∀ q, s.heap.size ≤ q → A0 q) (isC isR : List Nat) (hC : isC.map (fun i => ws[i]?) = wc.map some) (hR : isR.map (fun i => ws[i]?) = wr.map some) (hn : va_nd isR = true) (hdis : ∀ i ∈ isR, i ∉ isC)
    (kx : ∀ (u : S2) (ce : Cell) (q9 : Addr) (H1 : Heap) (locs1 : List Loc), post2 u → gW g A0 s.heap H1 locs1 (wr ++ w2 u) → H1[q9]? = some ce → ce.vm = .none → s.vm.findClass E = some ce.cls → vx_W p l e R s m args below meth c H1 locs1 (cells + mc) (slots + ms) Q (F0 m pc ls rest) q9) : W p l e R s m args below meth c H locs cells slots Q (F0 m pc ls st0) := by
  intro T hT X9
  rcases hr T hT X9 with ⟨v, st₀, t, T', L, h0, X', hL, e1, e2, hq, st⟩ | ⟨q, st₀, t, T', L, E', ce, h0, X', hL, e1, e2, ⟨u, hp, ⟨hE', hP1, hD1⟩, hF⟩, hce, hcv, hcl, st⟩
  · exact hq.elim
  · obtain ⟨hP, hD, hS⟩ := hW
    have hFr := va_free (wc := wc) hD hS hA isC hC
    obtain ⟨k1, k2, k3⟩ := vx_keep h0 e1 hS (fun q _ h => hFr q h) (fun q h => hFr q h) hL hF
    rw [e1] at k2
    obtain ⟨hPn, hDn⟩ := va_join (wr := wr) (w1 := w2 u) hP hD isC isR hC hR hn hdis k2 hFr hP1 hD1
    subst hE'
    obtain ⟨t2, a1, b1⟩ := kx u ce q T'.heap (locs ++ L) hp ⟨by rw [e1]; exact hPn, hDn, k3⟩ (by rw [e1]; exact hce) hcv hcl T' rfl X'
    exact ⟨t2, st.trans a1, b1⟩
/-- a call that throws, out of a method that throws the same -/
theorem q_tV (S0 : CallFix p m c cc nL s args Ts own) (hK : gK g s) (hA : ∀ q, s.heap.size ≤ q → A0 q) (hE : gE A0 s) (hlocks : meth.locks = false) (ht : ∀ x ∈ c.exceptionTable.toList, False) (hW : gW g A0 s.heap H locs ws) (hM : qThr l y wsY rm g (.ref b :: As) wc Z X E w2 post2 mc ms) (hG : GoodIn Ts (wsV own index C y wsY)) (hw : wsY = Cond.code y bytes maxL ret :: ws') (hrc : rm.cells = mc) (hrs : rm.slots = ms)
    (hd : y.cls = C ∧ y.cls ≠ "java/lang/invoke/MethodHandle" ∧ y.cls ≠ "java/lang/invoke/VarHandle" ∧ (parseMethodDescriptor y.desc).map (fun d => d.parameters.length) = some n) (hR : rm.frames + 1 ≤ R.frames ∧ 8 + (maxL + 11) + rm.locals ≤ R.locals)
    (isC isR : List Nat) (hC : isC.map (fun i => ws[i]?) = wc.map some) (hnC : va_nd isC = true) (hR2 : isR.map (fun i => ws[i]?) = wr.map some) (hn : va_nd isR = true) (hdis : ∀ i ∈ isR, i ∉ isC)
    (hrec : ∃ cell : Cell, H[b]? = some cell ∧ cell.vm.isStatics = false ∧ s.vm.findClass C = some cell.cls) (hZ : ∀ q, A0 q → Z q) (hX : X H) (hst : st0 = As.reverse ++ .ref b :: rest) (hnA : As.length = n) (hsize : ls.size = nL) (hcat : (rest.map fun v => v.category).sum ≤ 8) (hf : cells + mc ≤ R.cells ∧ slots + ms ≤ R.slots) (hdg : decode cc pc = .ok (.invokevirtual index, 3))
    (hc : cells + mc ≤ mc0) (hs : slots + ms ≤ ms0)
    (kk : ∀ (u2 : S2) (H1 : Heap) (locs1 : List Loc), post2 u2 → gW g A0 s.heap H1 locs1 (wr ++ w2 u2) → ∃ u : S, post u ∧ gW g A0 s.heap H1 locs1 (w u)) : W p l e R s m args below meth c H locs cells slots (vx_MQ below qNo (qXC g E w post A0) args s mc0 ms0 A0) (F0 m pc ls st0) := by
  refine q_callT (vx_runV S0 (hM H.size) (cwV n S0.2.2.2.2 hG hw hrc hrs hd hR) (q_preTV hK (subP hW.1 isC hC) (hD_of hW.2.1 isC hC hnC hZ) hX hE hW.2.2 (va_free hW.2.1 hW.2.2 hA isC hC) hrec) rfl hnA hsize hst (lv_room hcat) hdg hf) hW hA isC isR hC hR2 hn hdis ?_
  intro u2 ce q9 H1 locs1 hp2 hW1 hce hcv hcl
  obtain ⟨u, hp, hW2⟩ := kk u2 H1 locs1 hp2 hW1
  exact vx_out (fun x hx => (ht x hx).elim) hlocks hce hcv hcl (fun t e1 _ => ⟨u, hp, ⟨rfl, by rw [e1]; exact hW2.1, hW2.2.1⟩, hW2.2.2.F e1⟩) hW2.2.2.2.2 hc hs
end QTHR
