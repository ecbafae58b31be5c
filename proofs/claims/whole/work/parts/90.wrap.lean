/-! own layer: the law's own methods, that catch -/
section QWRAP
theorem i2l_v (x : Int32) : x.toInt64 = lI x.toInt := by
  have h := iI_rng x
  rw [← Int64.toInt_inj, Int32.toInt_toInt64]
  exact (Int64.toInt_ofInt_of_le (by omega) (by omega)).symm
theorem lcmp_self (x : Int64) : lg_cmp x x = 0 := by
  unfold lg_cmp
  rw [if_neg (by simp), if_pos rfl]
theorem met_of_vx {l : Launch} {y : MethodName} {ws : List Cond} {rm : Room} {Pc : Array Value → State → Prop} {Qc : Array Value → State → Outcome → State → Prop} {mc ms : Nat} {free : Addr → Prop} (h : vx_Met l y ws rm Pc Qc (fun _ _ _ => False) mc ms free) : Met l y ws rm Pc Qc mc ms free := by
  intro p e ha hc hk s m args below hf happ hP hR
  obtain ⟨k, o, h1, h2, h3, hQ⟩ := h p e ha hc hk s m args below hf happ hP hR
  refine ⟨k, o, h1, h2, h3, ?_⟩
  rcases hQ with hQ | ⟨q, -, E, ce, L, hx, -⟩
  · exact hQ
  · exact hx.elim
/-- a method of the law's, in a state in which the class may throw -/
def qMetT (l : Launch) (y : MethodName) (Ts : List Cond) (rm : Room) (g : GG) (av : List Value) (ws : va_W) (Z : Nat → Prop) (X : Heap → Prop) {S : Type} (res : S → Option Value) (w : S → va_W) (post : S → Prop) (mc ms : Nat) : Prop :=
  ∀ sz : Nat, Met l y Ts rm (qPreT g av ws Z X sz) (qPost g res w post (va_A ws sz)) mc ms (va_A ws sz)
variable {p : Program} {l : Launch} {e : Env} {R : Room} {s : State} {m : MethodId} {args : Array Value} {below : List Frame} {meth : Method} {c : Code} {H : Heap} {locs : List Loc} {cells slots : Nat} {Q : State → Prop}
variable {y : MethodName} {bytes cc : ByteArray} {maxL nL mc ms n index pc : Nat} {ret : Option FieldType} {wsY ws' Ts : List Cond} {rm : Room} {own C E : String} {b : Addr} {As rest st0 : List Value} {ls : Array Slot} {a : Array Value}
variable {g : GG} {A0 : Nat → Prop} {ws wc wr : va_W} {Z : Nat → Prop} {X : Heap → Prop} {S S2 : Type} {res : S → Option Value} {w : S → va_W} {post : S → Prop} {w2 : S2 → va_W} {post2 : S2 → Prop} {hh : List (Nat × Nat × Nat × Nat)}
theorem q_ofWH {av : List Value} (hM : ∀ sz, va_D Z ws → va_D (va_A ws sz) ws) (hy : plainName y.cls = true) (hw : Ts = Cond.codeWith y cc maxL ret hh :: ws') (hlen : (lg_sl av).length ≤ maxL)
    (body : ∀ (p : Program) (e : Env) (s : State) (m : MethodId) (args : Array Value) (below : List Frame) (meth : Method) (c : Code) (A : Nat → Prop) (ls : Array Slot), CallFix p m c cc maxL s args Ts y.cls → meth.sig.returnType = ret → meth.locks = false → c.exceptionTable.toList = tableOf hh → gK g s → gE A s → (∀ q, s.heap.size ≤ q → A q) → A = va_A ws s.heap.size → gW g A s.heap s.heap [] ws → va_D Z ws → X s.heap → lv_has ls maxL (lv_args 0 av) →
      W p l e rm s m args below meth c s.heap [] 0 0 (MQ below (qPost g res w post A) args s mc ms A) (F0 m 0 ls [])) : qMetT l y Ts rm g av ws Z X res w post mc ms := by
  intro sz
  refine met_of_vx (vx_ofWH (cc := cc) (maxL := maxL) (ret := ret) (hh := hh) hy hw ?_)
  intro p e s m args below meth c s₁ B hml hv
  obtain ⟨rfl, hsz, hP, hK, hD0, hX, hE⟩ := hv
  subst hsz
  rw [lg_entry_eq]
  exact vx_ret (body p e s m _ below meth c _ _ ⟨B.exec, B.bytes, hml, findClass_of_methodNamed B.named, atoms_spec (ws := Ts) B.pre⟩ B.returns B.notSynchronized (vx_table (x := y) B (atoms_spec (ws := Ts) B.pre _ (by rw [hw]; exact List.mem_cons_self))) hK hE (fun q h => Or.inr h) rfl ⟨hP, hM _ hD0, va_S.rf⟩ hD0 hX (lv_entry av hlen))
/-- a call that throws, caught here -/
theorem q_tC (S0 : CallFix p m c cc nL s args Ts own) (hK : gK g s) (hA : ∀ q, s.heap.size ≤ q → A0 q) (hE : gE A0 s) (hT : c.exceptionTable.toList = tableOf hh) (hW : gW g A0 s.heap H locs ws) (hM : qThr l y wsY rm g (.ref b :: As) wc Z X E w2 post2 mc ms) (hG : GoodIn Ts (wsV own index C y wsY)) (hw : wsY = Cond.code y bytes maxL ret :: ws') (hrc : rm.cells = mc) (hrs : rm.slots = ms)
    (hd : y.cls = C ∧ y.cls ≠ "java/lang/invoke/MethodHandle" ∧ y.cls ≠ "java/lang/invoke/VarHandle" ∧ (parseMethodDescriptor y.desc).map (fun d => d.parameters.length) = some n) (hR : rm.frames + 1 ≤ R.frames ∧ 8 + (maxL + 11) + rm.locals ≤ R.locals)
    (isC isR : List Nat) (hC : isC.map (fun i => ws[i]?) = wc.map some) (hnC : va_nd isC = true) (hR2 : isR.map (fun i => ws[i]?) = wr.map some) (hn : va_nd isR = true) (hdis : ∀ i ∈ isR, i ∉ isC)
    (hrec : ∃ cell : Cell, H[b]? = some cell ∧ cell.vm.isStatics = false ∧ s.vm.findClass C = some cell.cls) (hZ : ∀ q, A0 q → Z q) (hX : X H) (hst : st0 = As.reverse ++ .ref b :: rest) (hnA : As.length = n) (hsize : ls.size = nL) (hcat : (rest.map fun v => v.category).sum ≤ 8) (hf : cells + mc ≤ R.cells ∧ slots + ms ≤ R.slots) (hdg : decode cc pc = .ok (.invokevirtual index, 3))
    (pre : List ExceptionTableEntry) (x : ExceptionTableEntry) (suf : List ExceptionTableEntry) (hsp : tableOf hh = pre ++ x :: suf) (hpass : ∀ z ∈ pre, covers z pc = false ∨ (z.catchType ≠ 0 ∧ ∃ nm : String, Cond.classLink own z.catchType nm ∈ Ts ∧ va_Nc E nm s)) (hx : covers x pc = true) (h0 : x.catchType ≠ 0) (hlink : Cond.classLink own x.catchType E ∈ Ts) (k9 : Nat) (hcast : thrW[k9]? = some (.castable E E))
    (kk : ∀ (u2 : S2) (q9 : Addr) (H1 : Heap) (locs1 : List Loc), post2 u2 → gW g A0 s.heap H1 locs1 (wr ++ w2 u2) → W p l e R s m args below meth c H1 locs1 (cells + mc) (slots + ms) Q (F0 m x.handlerPc ls [.ref q9])) : W p l e R s m args below meth c H locs cells slots Q (F0 m pc ls st0) := by
  refine q_callT (vx_runV S0 (hM H.size) (cwV n S0.2.2.2.2 hG hw hrc hrs hd hR) (q_preTV hK (subP hW.1 isC hC) (hD_of hW.2.1 isC hC hnC hZ) hX hE hW.2.2 (va_free hW.2.1 hW.2.2 hA isC hC) hrec) rfl hnA hsize hst (lv_room hcat) hdg hf) hW hA isC isR hC hR2 hn hdis ?_
  intro u2 ce q9 H1 locs1 hp2 hW1 hce hcv hcl
  exact vx_catch S0.2.2.2.1 pre x suf (hT.trans hsp) (fun z hz => (hpass z hz).imp id (fun y => ⟨y.1, y.2.imp (fun nm v => ⟨S0.2.2.2.2 _ v.1, v.2⟩)⟩)) hx h0 (S0.2.2.2.2 _ hlink) (va_Nw.use rfl (hE.2.1 k9 _ hcast)) hce hcv hcl (kk u2 q9 H1 locs1 hp2 hW1)
end QWRAP
