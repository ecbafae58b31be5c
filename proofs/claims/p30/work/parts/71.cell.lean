/-! the script's cells -/
section QCEL9
variable {p : Program} {l : Launch} {e : Env} {R : Room} {s : State} {m : MethodId} {args : Array Value} {below : List Frame} {meth : Method} {c : Code} {H : Heap} {locs : List Loc} {cells slots : Nat} {Q : State → Prop}
variable {y : MethodName} {bytes cc : ByteArray} {maxL nL mc ms n index pc : Nat} {ret : Option FieldType} {wsY ws' Ts : List Cond} {rm : Room} {own C E : String} {rest st0 : List Value} {ls : Array Slot} {a : Array Value}
variable {g : GG} {A0 : Nat → Prop} {v : Option Value}
theorem q_sld (S0 : CallFix p m c cc nL s args Ts own) {b0 L : Nat} {xs : Nat → Int32} (hX : va_X b0 L xs s s.heap) (hbl : b0 < s.heap.size) (hbA : ¬ A0 b0) (hS : va_S A0 s.heap H locs) {z : Int} (hz : 0 ≤ z ∧ z < L ∧ z < 2147483648) (hdg : decode cc pc = .ok (.iaload, 1))
    (kk : W p l e R s m args below meth c H locs cells slots Q (F0 m (pc + 1) ls (.int (iI (xs z.toNat).toInt) :: rest))) : W p l e R s m args below meth c H locs cells slots Q (F0 m pc ls (.int (iI z) :: .ref b0 :: rest)) :=
  va_sld S0.1 S0.2.1 hX hbl hbA hS (iI_in hz.1 hz.2.1 hz.2.2) hdg (by rw [iI_cl hz.1 hz.2.2]; rw [← iI_of] at kk; exact kk)
theorem q_ofC {b0 L : Nat} {xs : Nat → Int32} {z : Int} (hy : plainName y.cls = true) (hw : Ts = Cond.code y cc maxL ret :: ws') (hlen : (lg_sl [Value.ref b0, .int (iI z)]).length ≤ maxL)
    (body : ∀ (p : Program) (e : Env) (s : State) (m : MethodId) (args : Array Value) (below : List Frame) (meth : Method) (c : Code) (ls : Array Slot), CallFix p m c cc maxL s args Ts y.cls → meth.sig.returnType = ret → meth.locks = false → gK g s → va_X b0 L xs s s.heap → b0 < s.heap.size → lv_has ls maxL (lv_args 0 [Value.ref b0, .int (iI z)]) →
      W p l e rm s m args below meth c s.heap [] 0 0 (MQ below (qPostP v) args s 0 0 (fun _ => False)) (F0 m 0 ls [])) : Met l y Ts rm (qPreC g b0 L xs z) (qPostP v) 0 0 (fun _ => False) := by
  refine Met.ofW (cc := cc) (maxL := maxL) (ret := ret) hy hw ?_
  intro p e s m args below meth c s₁ B hml hv
  obtain ⟨rfl, hK, hX, hbl⟩ := hv
  rw [lg_entry_eq]
  exact body p e s m _ below meth c _ ⟨B.exec, B.bytes, hml, findClass_of_methodNamed B.named, atoms_spec (ws := Ts) B.pre⟩ B.returns B.notSynchronized hK hX hbl (lv_entry [Value.ref b0, .int (iI z)] hlen)
theorem c_L_cell (l : Launch) (g : GG) (b0 L : Nat) (xs : Nat → Int32) (z : Int) (hz : 0 ≤ z ∧ z < 1000) (hL : L ≤ 260) : Met l yL_cell wsL_cell { frames := 0, cells := 0, slots := 0, locals := 0 } (qPreC g b0 L xs z) (qPostP (some (.int (iI (cel L xs z))))) 0 0 (fun _ => False) := by
  refine q_ofC (cc := cL_cell) (maxL := 2) (ret := some .int) (by decide) rfl (Nat.le_of_ble_eq_true rfl) ?_
  intro p e s m args below meth c ls S0 hr hlocks hK hX hbl hl
  have hl : lv_has ls 2 [(0, .ref b0), (1, .int (iI z))] := hl
  have hS : va_S (fun _ => False) s.heap s.heap [] := va_S.rf
  refine lv_iload_n S0.1 S0.2.1 dL_cell_0 rfl (lv_at hl 1 rfl) ?_
  refine lv_aload_n S0.1 S0.2.1 dL_cell_1 rfl (lv_at hl 0 rfl) ?_
  refine va_slen S0.1 S0.2.1 hX hbl (fun h => h) hS dL_cell_2 ?_
  refine q_top (w := .int (iI ((L : Nat) : Int))) (congrArg Value.int (iI_nat L)) ?_
  refine q_icmp_ge (tgt := 12) S0 (by omega) dL_cell_3 (by decide) (fun c3 => ?_) (fun c3 => ?_)
  · refine lv_ldc (v := 32452867) S0.1 S0.2.1 S0.2.2.2.1 (S0.2.2.2.2 _ (List.mem_of_getElem? (i := 1) rfl)) dL_cell_12 ?_
    refine q_top (w := .int (iI 32452867)) (by first | rfl | decide) ?_
    refine lv_iload_n S0.1 S0.2.1 dL_cell_14 rfl (lv_at hl 1 rfl) ?_
    refine q_imul S0 dL_cell_15 ?_
    refine lv_ldc (v := 15485863) S0.1 S0.2.1 S0.2.2.2.1 (S0.2.2.2.2 _ (List.mem_of_getElem? (i := 2) rfl)) dL_cell_16 ?_
    refine q_top (w := .int (iI 15485863)) (by first | rfl | decide) ?_
    refine q_iadd S0 dL_cell_18 ?_
    exact qp_iret S0 hr hlocks (by unfold cel; rw [if_neg (by omega)]) dL_cell_19
  · refine lv_aload_n S0.1 S0.2.1 dL_cell_6 rfl (lv_at hl 0 rfl) ?_
    refine lv_iload_n S0.1 S0.2.1 dL_cell_7 rfl (lv_at hl 1 rfl) ?_
    refine q_sld S0 hX hbl (A0 := fun _ => False) (fun h => h) hS (by omega) dL_cell_8 ?_
    refine lv_goto (tgt := 19) S0.1 S0.2.1 dL_cell_9 (by decide) ?_
    exact qp_iret S0 hr hlocks (by unfold cel; rw [if_pos (by omega)]) dL_cell_19
theorem q_cell {b0 L : Nat} {xs : Nat → Int32} (hC : LC p l s m b0 L xs meth c g) (hS : va_S (fun q => s.heap.size ≤ q) s.heap H locs) {z : Int} (hz : 0 ≤ z ∧ z < 1000) (hG : GoodIn wsL_law (va_wsS RL 84 yL_cell wsL_cell)) (hsize : ls.size = 12) (hcat : (rest.map fun v => v.category).sum ≤ 8) (hdg : decode code pc = .ok (.invokestatic 84, 3)) (hf : cells ≤ 600130 ∧ slots ≤ 7301080)
    (kk : W p l e room_1 s m #[.ref b0] below meth c H locs cells slots Q (F0 m (pc + 3) ls (.int (iI (cel L xs z)) :: rest))) : W p l e room_1 s m #[.ref b0] below meth c H locs cells slots Q (F0 m pc ls (.int (iI z) :: .ref b0 :: rest)) := by
  have S0 := hC.1
  have hbA : ¬ (fun q : Nat => s.heap.size ≤ q) b0 := Nat.not_le.mpr hC.2.2.2.1
  have hp : PreS s H (qPreC g b0 L xs z) [.ref b0, .int (iI z)] := ⟨blind_qPreC, fun U hU hW => ⟨rfl, hC.2.2.2.2.1.warm hW, (hC.2.2.1.moved hW.alike).kept (by rw [hU]; exact hS.2.1 b0 hC.2.2.2.1 hbA), by rw [hU]; exact Nat.lt_of_lt_of_le hC.2.2.2.1 hS.1⟩⟩
  exact q_callP (va_runS S0 (c_L_cell l g b0 L xs z hz hC.2.2.2.2.2) (va_cwS 2 S0.2.2.2.2 hG rfl rfl rfl (by decide +kernel) ⟨Nat.le_of_ble_eq_true rfl, Nat.le_of_ble_eq_true rfl⟩) hp rfl rfl hsize rfl (lv_room hcat) hdg hf) kk
end QCEL9
