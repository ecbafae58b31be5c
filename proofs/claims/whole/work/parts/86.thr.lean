theorem feL_rng {f : Nat → Int} : ∀ (k : Nat) (i : Int) (S : PT), 0 ≤ i → (feL f k i S).2 = -2 ∨ (0 ≤ (feL f k i S).2 ∧ (feL f k i S).2 < i + k)
  | 0, _, _, _ => Or.inl rfl
  | k + 1, i, S, h => by
    by_cases z : (tk S (f i.toNat)).2 = 0
    · rw [feL_stop z]
      refine Or.inr ⟨h, ?_⟩
      show i < i + ((k + 1 : Nat) : Int)
      omega
    · rw [feL_step z]
      have q := feL_rng (f := f) k (i + 1) (tk S (f i.toNat)).1 (by omega)
      omega
theorem fe_rng {B : BT} {f : Nat → Int} {n : Int} (_ : WFB B) (hn : 0 ≤ n ∧ n ≤ 40) (_ : ∀ j, 0 ≤ f j ∧ f j < 65536) : -1 ≤ (fe B f n).2 ∧ (fe B f n).2 ≤ 40 := by
  have q := feL_rng (f := f) n.toNat 0 (fe0 B) (by omega)
  unfold fe feZ
  split
  · split
    · show -1 ≤ n ∧ n ≤ 40
      omega
    · show -1 ≤ (-1 : Int) ∧ (-1 : Int) ≤ 40
      omega
  · omega

set_option maxHeartbeats 4000000 in
set_option maxRecDepth 100000 in
theorem c_X10_requireFunction_t (l : Launch) (hl0 : l.stackTraces = false) (g : GG) (ob tx ps ho rk : Nat) (so : Option Nat) (u : Int) (hu : (u < 0 ∨ 3 < u) ∧ -2147483648 ≤ u ∧ u < 2147483648) : qThr l yX10_requireFunction wsX10_requireFunction ({ frames := 6, cells := 1, slots := 6, locals := 100 }) g [.ref ob, .int (iI u)] [(ob, .inr (10, [.ref tx, .ref ps, .ref ho, .ref rk, va_rf so]))] (fun _ => True) (fun _ => True) exI (S := Unit) (fun _ => [(ob, .inr (10, [.ref tx, .ref ps, .ref ho, .ref rk, va_rf so]))]) (fun _ => True) 1 6 := by
  refine q_ofT (cc := cX10_requireFunction) (maxL := 2) (ret := none) (fun sz h => h.self) (by decide) rfl (Nat.le_of_ble_eq_true rfl) ?_
  intro p e s m args below meth c A ls S0 hlocks hxt hK hE hA hAe hW hD0 hX hl
  have hW : gW g A s.heap s.heap [] [(ob, .inr (10, [.ref tx, .ref ps, .ref ho, .ref rk, va_rf so]))] := hW
  have hl : lv_has ls 2 [(0, .ref ob), (1, .int (iI u))] := hl
  refine lv_iload_n S0.1 S0.2.1 dX10_requireFunction_0 rfl (lv_at hl 1 rfl) ?_
  refine q_if_lt (tgt := 9) S0 (by omega) dX10_requireFunction_1 (by decide) (fun c1 => ?_) (fun c1 => ?_)
  · skip
    exact q_throw (u := ()) S0 hl0 hlocks hxt hE (hW.sub [0] rfl (rfl)) trivial 7 rfl (by decide +kernel) (List.mem_of_getElem? (i := 1) rfl) (List.mem_of_getElem? (i := 2) rfl) (fun z hz => List.mem_cons_of_mem _ (List.mem_append_right _ hz)) tb_186 tg_186 hl.1 dX10_requireFunction_9 dX10_requireFunction_12 dX10_requireFunction_13 dX10_requireFunction_15 dX10_requireFunction_18 ⟨Nat.le_of_ble_eq_true rfl, Nat.le_of_ble_eq_true rfl, Nat.le_of_ble_eq_true rfl, Nat.le_of_ble_eq_true rfl⟩ (Nat.le_of_ble_eq_true rfl) (Nat.le_of_ble_eq_true rfl)
  · skip
    refine lv_iload_n S0.1 S0.2.1 dX10_requireFunction_4 rfl (lv_at hl 1 rfl) ?_
    refine q_iconst S0 dX10_requireFunction_5 ?_
    refine q_icmp_lt (tgt := 19) S0 (by omega) dX10_requireFunction_6 (by decide) (fun c6 => ?_) (fun c6 => ?_)
    · skip
      exact absurd c6 (by omega)
    · skip
      exact q_throw (u := ()) S0 hl0 hlocks hxt hE (hW.sub [0] rfl (rfl)) trivial 7 rfl (by decide +kernel) (List.mem_of_getElem? (i := 1) rfl) (List.mem_of_getElem? (i := 2) rfl) (fun z hz => List.mem_cons_of_mem _ (List.mem_append_right _ hz)) tb_186 tg_186 hl.1 dX10_requireFunction_9 dX10_requireFunction_12 dX10_requireFunction_13 dX10_requireFunction_15 dX10_requireFunction_18 ⟨Nat.le_of_ble_eq_true rfl, Nat.le_of_ble_eq_true rfl, Nat.le_of_ble_eq_true rfl, Nat.le_of_ble_eq_true rfl⟩ (Nat.le_of_ble_eq_true rfl) (Nat.le_of_ble_eq_true rfl)
set_option maxHeartbeats 4000000 in
set_option maxRecDepth 100000 in
theorem c_X10_requireNumber_t (l : Launch) (hl0 : l.stackTraces = false) (g : GG) (ob tx ps ho rk t0 t1 t2 t3 t4 t5 : Nat) (so : Option Nat) (F : FT) (x : Int) (hpr : 2 ≤ fP F ∧ fP F ≤ 199) (hx : (x < 0 ∨ fP F ≤ x) ∧ -2147483648 ≤ x ∧ x < 2147483648) : qThr l yX10_requireNumber wsX10_requireNumber ({ frames := 6, cells := 1, slots := 6, locals := 100 }) g [.ref ob, .int (iI x)] [(ob, .inr (10, [.ref tx, .ref ps, .ref ho, .ref rk, va_rf so])), (rk, .inr (5, [.ref t0, .ref t1, .ref t2, .ref t3, .ref t4, .ref t5, .ref (fS F)]))] (fun _ => True) (FX g F) exA (S := Unit) (fun _ => [(ob, .inr (10, [.ref tx, .ref ps, .ref ho, .ref rk, va_rf so])), (rk, .inr (5, [.ref t0, .ref t1, .ref t2, .ref t3, .ref t4, .ref t5, .ref (fS F)]))]) (fun _ => True) 1 6 := by
  refine q_ofT (cc := cX10_requireNumber) (maxL := 2) (ret := none) (fun sz h => h.self) (by decide) rfl (Nat.le_of_ble_eq_true rfl) ?_
  intro p e s m args below meth c A ls S0 hlocks hxt hK hE hA hAe hW hD0 hX hl
  have hW : gW g A s.heap s.heap [] [(ob, .inr (10, [.ref tx, .ref ps, .ref ho, .ref rk, va_rf so])), (rk, .inr (5, [.ref t0, .ref t1, .ref t2, .ref t3, .ref t4, .ref t5, .ref (fS F)]))] := hW
  have hl : lv_has ls 2 [(0, .ref ob), (1, .int (iI x))] := hl
  refine lv_iload_n S0.1 S0.2.1 dX10_requireNumber_0 rfl (lv_at hl 1 rfl) ?_
  refine q_if_lt (tgt := 12) S0 (by omega) dX10_requireNumber_1 (by decide) (fun c1 => ?_) (fun c1 => ?_)
  · skip
    exact q_throw (u := ()) S0 hl0 hlocks hxt hE (hW.sub [0, 1] rfl (rfl)) trivial 8 rfl (by decide +kernel) (List.mem_of_getElem? (i := 1) rfl) (List.mem_of_getElem? (i := 2) rfl) (fun z hz => List.mem_cons_of_mem _ (List.mem_append_right _ hz)) tb_100 tg_100 hl.1 dX10_requireNumber_12 dX10_requireNumber_15 dX10_requireNumber_16 dX10_requireNumber_18 dX10_requireNumber_21 ⟨Nat.le_of_ble_eq_true rfl, Nat.le_of_ble_eq_true rfl, Nat.le_of_ble_eq_true rfl, Nat.le_of_ble_eq_true rfl⟩ (Nat.le_of_ble_eq_true rfl) (Nat.le_of_ble_eq_true rfl)
  · skip
    refine lv_iload_n S0.1 S0.2.1 dX10_requireNumber_4 rfl (lv_at hl 1 rfl) ?_
    refine lv_aload_n S0.1 S0.2.1 dX10_requireNumber_5 rfl (lv_at hl 0 rfl) ?_
    refine q_pV (n := 0) (rest := [.int (iI x)]) S0 hK (c_X10_prime l g ob tx ps ho rk t0 t1 t2 t3 t4 t5 so F) (subP hW.1 [0, 1] rfl) (hX) gX10_requireNumber_X10_prime rfl rfl rfl (by decide +kernel) ⟨Nat.le_of_ble_eq_true rfl, Nat.le_of_ble_eq_true rfl⟩ (q_recv hK hW.1 (ci := 10) (q0 := 0) rfl rfl) rfl rfl hl.1 (Nat.le_of_ble_eq_true rfl) ⟨Nat.le_of_ble_eq_true rfl, Nat.le_of_ble_eq_true rfl⟩ dX10_requireNumber_6 ?_
    refine W.eq (g2 := F0 m 9 ls [.int (iI (fP F)), .int (iI x)]) rfl ?_
    refine q_icmp_lt (tgt := 22) S0 (by omega) dX10_requireNumber_9 (by decide) (fun c9 => ?_) (fun c9 => ?_)
    · skip
      exact absurd c9 (by omega)
    · skip
      exact q_throw (u := ()) S0 hl0 hlocks hxt hE (hW.sub [0, 1] rfl (rfl)) trivial 8 rfl (by decide +kernel) (List.mem_of_getElem? (i := 1) rfl) (List.mem_of_getElem? (i := 2) rfl) (fun z hz => List.mem_cons_of_mem _ (List.mem_append_right _ hz)) tb_100 tg_100 hl.1 dX10_requireNumber_12 dX10_requireNumber_15 dX10_requireNumber_16 dX10_requireNumber_18 dX10_requireNumber_21 ⟨Nat.le_of_ble_eq_true rfl, Nat.le_of_ble_eq_true rfl, Nat.le_of_ble_eq_true rfl, Nat.le_of_ble_eq_true rfl⟩ (Nat.le_of_ble_eq_true rfl) (Nat.le_of_ble_eq_true rfl)
set_option maxHeartbeats 4000000 in
set_option maxRecDepth 100000 in
theorem c_X10_nodesOf_t1 (l : Launch) (hl0 : l.stackTraces = false) (g : GG) (ob tx ps ho rk : Nat) (so : Option Nat) (u : Int) (hu : (u < 0 ∨ 3 < u) ∧ -2147483648 ≤ u ∧ u < 2147483648) : qThr l yX10_nodesOf wsX10_nodesOf ({ frames := 7, cells := 1, slots := 6, locals := 121 }) g [.ref ob, .int (iI u)] [(ob, .inr (10, [.ref tx, .ref ps, .ref ho, .ref rk, va_rf so]))] (fun _ => True) (fun _ => True) exI (S := Unit) (fun _ => [(ob, .inr (10, [.ref tx, .ref ps, .ref ho, .ref rk, va_rf so]))]) (fun _ => True) 1 6 := by
  refine q_ofT (cc := cX10_nodesOf) (maxL := 2) (ret := (some .int)) (fun sz h => h.self) (by decide) rfl (Nat.le_of_ble_eq_true rfl) ?_
  intro p e s m args below meth c A ls S0 hlocks hxt hK hE hA hAe hW hD0 hX hl
  have hW : gW g A s.heap s.heap [] [(ob, .inr (10, [.ref tx, .ref ps, .ref ho, .ref rk, va_rf so]))] := hW
  have hl : lv_has ls 2 [(0, .ref ob), (1, .int (iI u))] := hl
  refine lv_aload_n S0.1 S0.2.1 dX10_nodesOf_0 rfl (lv_at hl 0 rfl) ?_
  refine lv_iload_n S0.1 S0.2.1 dX10_nodesOf_1 rfl (lv_at hl 1 rfl) ?_
  refine q_tV (n := 1) (rest := []) (wr := []) S0 hK hA hE hlocks hxt hW (c_X10_requireFunction_t l hl0 g ob tx ps ho rk so u (hu)) gX10_nodesOf_X10_requireFunction rfl rfl rfl (by decide +kernel) ⟨Nat.le_of_ble_eq_true rfl, Nat.le_of_ble_eq_true rfl⟩ [0] [] rfl rfl rfl rfl (by decide) (q_recv hK hW.1 (ci := 10) (q0 := 0) rfl rfl) (fun _ _ => trivial) (trivial) rfl rfl hl.1 (Nat.le_of_ble_eq_true rfl) ⟨Nat.le_of_ble_eq_true rfl, Nat.le_of_ble_eq_true rfl⟩ dX10_nodesOf_2 (Nat.le_of_ble_eq_true rfl) (Nat.le_of_ble_eq_true rfl) (fun _ H locs _ hW => ⟨(), trivial, hW.sub [0] rfl (rfl)⟩)
set_option maxHeartbeats 4000000 in
set_option maxRecDepth 100000 in
theorem c_X10_unlikeNodesOf_t1 (l : Launch) (hl0 : l.stackTraces = false) (g : GG) (ob tx ps ho rk : Nat) (so : Option Nat) (u : Int) (hu : (u < 0 ∨ 3 < u) ∧ -2147483648 ≤ u ∧ u < 2147483648) : qThr l yX10_unlikeNodesOf wsX10_unlikeNodesOf ({ frames := 7, cells := 1, slots := 6, locals := 121 }) g [.ref ob, .int (iI u)] [(ob, .inr (10, [.ref tx, .ref ps, .ref ho, .ref rk, va_rf so]))] (fun _ => True) (fun _ => True) exI (S := Unit) (fun _ => [(ob, .inr (10, [.ref tx, .ref ps, .ref ho, .ref rk, va_rf so]))]) (fun _ => True) 1 6 := by
  refine q_ofT (cc := cX10_unlikeNodesOf) (maxL := 2) (ret := (some .int)) (fun sz h => h.self) (by decide) rfl (Nat.le_of_ble_eq_true rfl) ?_
  intro p e s m args below meth c A ls S0 hlocks hxt hK hE hA hAe hW hD0 hX hl
  have hW : gW g A s.heap s.heap [] [(ob, .inr (10, [.ref tx, .ref ps, .ref ho, .ref rk, va_rf so]))] := hW
  have hl : lv_has ls 2 [(0, .ref ob), (1, .int (iI u))] := hl
  refine lv_aload_n S0.1 S0.2.1 dX10_unlikeNodesOf_0 rfl (lv_at hl 0 rfl) ?_
  refine lv_iload_n S0.1 S0.2.1 dX10_unlikeNodesOf_1 rfl (lv_at hl 1 rfl) ?_
  refine q_tV (n := 1) (rest := []) (wr := []) S0 hK hA hE hlocks hxt hW (c_X10_requireFunction_t l hl0 g ob tx ps ho rk so u (hu)) gX10_unlikeNodesOf_X10_requireFunction rfl rfl rfl (by decide +kernel) ⟨Nat.le_of_ble_eq_true rfl, Nat.le_of_ble_eq_true rfl⟩ [0] [] rfl rfl rfl rfl (by decide) (q_recv hK hW.1 (ci := 10) (q0 := 0) rfl rfl) (fun _ _ => trivial) (trivial) rfl rfl hl.1 (Nat.le_of_ble_eq_true rfl) ⟨Nat.le_of_ble_eq_true rfl, Nat.le_of_ble_eq_true rfl⟩ dX10_unlikeNodesOf_2 (Nat.le_of_ble_eq_true rfl) (Nat.le_of_ble_eq_true rfl) (fun _ H locs _ hW => ⟨(), trivial, hW.sub [0] rfl (rfl)⟩)
set_option maxHeartbeats 4000000 in
set_option maxRecDepth 100000 in
theorem c_X10_depthOf_t1 (l : Launch) (hl0 : l.stackTraces = false) (g : GG) (ob tx ps ho rk : Nat) (so : Option Nat) (u : Int) (hu : (u < 0 ∨ 3 < u) ∧ -2147483648 ≤ u ∧ u < 2147483648) : qThr l yX10_depthOf wsX10_depthOf ({ frames := 7, cells := 1, slots := 6, locals := 121 }) g [.ref ob, .int (iI u)] [(ob, .inr (10, [.ref tx, .ref ps, .ref ho, .ref rk, va_rf so]))] (fun _ => True) (fun _ => True) exI (S := Unit) (fun _ => [(ob, .inr (10, [.ref tx, .ref ps, .ref ho, .ref rk, va_rf so]))]) (fun _ => True) 1 6 := by
  refine q_ofT (cc := cX10_depthOf) (maxL := 2) (ret := (some .int)) (fun sz h => h.self) (by decide) rfl (Nat.le_of_ble_eq_true rfl) ?_
  intro p e s m args below meth c A ls S0 hlocks hxt hK hE hA hAe hW hD0 hX hl
  have hW : gW g A s.heap s.heap [] [(ob, .inr (10, [.ref tx, .ref ps, .ref ho, .ref rk, va_rf so]))] := hW
  have hl : lv_has ls 2 [(0, .ref ob), (1, .int (iI u))] := hl
  refine lv_aload_n S0.1 S0.2.1 dX10_depthOf_0 rfl (lv_at hl 0 rfl) ?_
  refine lv_iload_n S0.1 S0.2.1 dX10_depthOf_1 rfl (lv_at hl 1 rfl) ?_
  refine q_tV (n := 1) (rest := []) (wr := []) S0 hK hA hE hlocks hxt hW (c_X10_requireFunction_t l hl0 g ob tx ps ho rk so u (hu)) gX10_depthOf_X10_requireFunction rfl rfl rfl (by decide +kernel) ⟨Nat.le_of_ble_eq_true rfl, Nat.le_of_ble_eq_true rfl⟩ [0] [] rfl rfl rfl rfl (by decide) (q_recv hK hW.1 (ci := 10) (q0 := 0) rfl rfl) (fun _ _ => trivial) (trivial) rfl rfl hl.1 (Nat.le_of_ble_eq_true rfl) ⟨Nat.le_of_ble_eq_true rfl, Nat.le_of_ble_eq_true rfl⟩ dX10_depthOf_2 (Nat.le_of_ble_eq_true rfl) (Nat.le_of_ble_eq_true rfl) (fun _ H locs _ hW => ⟨(), trivial, hW.sub [0] rfl (rfl)⟩)
set_option maxHeartbeats 4000000 in
set_option maxRecDepth 100000 in
theorem c_X10_bansOf_t1 (l : Launch) (hl0 : l.stackTraces = false) (g : GG) (ob tx ps ho rk : Nat) (so : Option Nat) (u : Int) (hu : (u < 0 ∨ 3 < u) ∧ -2147483648 ≤ u ∧ u < 2147483648) : qThr l yX10_bansOf wsX10_bansOf ({ frames := 7, cells := 1, slots := 6, locals := 121 }) g [.ref ob, .int (iI u)] [(ob, .inr (10, [.ref tx, .ref ps, .ref ho, .ref rk, va_rf so]))] (fun _ => True) (fun _ => True) exI (S := Unit) (fun _ => [(ob, .inr (10, [.ref tx, .ref ps, .ref ho, .ref rk, va_rf so]))]) (fun _ => True) 1 6 := by
  refine q_ofT (cc := cX10_bansOf) (maxL := 2) (ret := (some .int)) (fun sz h => h.self) (by decide) rfl (Nat.le_of_ble_eq_true rfl) ?_
  intro p e s m args below meth c A ls S0 hlocks hxt hK hE hA hAe hW hD0 hX hl
  have hW : gW g A s.heap s.heap [] [(ob, .inr (10, [.ref tx, .ref ps, .ref ho, .ref rk, va_rf so]))] := hW
  have hl : lv_has ls 2 [(0, .ref ob), (1, .int (iI u))] := hl
  refine lv_aload_n S0.1 S0.2.1 dX10_bansOf_0 rfl (lv_at hl 0 rfl) ?_
  refine lv_iload_n S0.1 S0.2.1 dX10_bansOf_1 rfl (lv_at hl 1 rfl) ?_
  refine q_tV (n := 1) (rest := []) (wr := []) S0 hK hA hE hlocks hxt hW (c_X10_requireFunction_t l hl0 g ob tx ps ho rk so u (hu)) gX10_bansOf_X10_requireFunction rfl rfl rfl (by decide +kernel) ⟨Nat.le_of_ble_eq_true rfl, Nat.le_of_ble_eq_true rfl⟩ [0] [] rfl rfl rfl rfl (by decide) (q_recv hK hW.1 (ci := 10) (q0 := 0) rfl rfl) (fun _ _ => trivial) (trivial) rfl rfl hl.1 (Nat.le_of_ble_eq_true rfl) ⟨Nat.le_of_ble_eq_true rfl, Nat.le_of_ble_eq_true rfl⟩ dX10_bansOf_2 (Nat.le_of_ble_eq_true rfl) (Nat.le_of_ble_eq_true rfl) (fun _ H locs _ hW => ⟨(), trivial, hW.sub [0] rfl (rfl)⟩)
set_option maxHeartbeats 4000000 in
set_option maxRecDepth 100000 in
theorem c_X10_flatsOf_t1 (l : Launch) (hl0 : l.stackTraces = false) (g : GG) (ob tx ps ho rk : Nat) (so : Option Nat) (u : Int) (hu : (u < 0 ∨ 3 < u) ∧ -2147483648 ≤ u ∧ u < 2147483648) : qThr l yX10_flatsOf wsX10_flatsOf ({ frames := 7, cells := 1, slots := 6, locals := 121 }) g [.ref ob, .int (iI u)] [(ob, .inr (10, [.ref tx, .ref ps, .ref ho, .ref rk, va_rf so]))] (fun _ => True) (fun _ => True) exI (S := Unit) (fun _ => [(ob, .inr (10, [.ref tx, .ref ps, .ref ho, .ref rk, va_rf so]))]) (fun _ => True) 1 6 := by
  refine q_ofT (cc := cX10_flatsOf) (maxL := 4) (ret := (some .int)) (fun sz h => h.self) (by decide) rfl (Nat.le_of_ble_eq_true rfl) ?_
  intro p e s m args below meth c A ls S0 hlocks hxt hK hE hA hAe hW hD0 hX hl
  have hW : gW g A s.heap s.heap [] [(ob, .inr (10, [.ref tx, .ref ps, .ref ho, .ref rk, va_rf so]))] := hW
  have hl : lv_has ls 4 [(0, .ref ob), (1, .int (iI u))] := hl
  refine lv_aload_n S0.1 S0.2.1 dX10_flatsOf_0 rfl (lv_at hl 0 rfl) ?_
  refine lv_iload_n S0.1 S0.2.1 dX10_flatsOf_1 rfl (lv_at hl 1 rfl) ?_
  refine q_tV (n := 1) (rest := []) (wr := []) S0 hK hA hE hlocks hxt hW (c_X10_requireFunction_t l hl0 g ob tx ps ho rk so u (hu)) gX10_flatsOf_X10_requireFunction rfl rfl rfl (by decide +kernel) ⟨Nat.le_of_ble_eq_true rfl, Nat.le_of_ble_eq_true rfl⟩ [0] [] rfl rfl rfl rfl (by decide) (q_recv hK hW.1 (ci := 10) (q0 := 0) rfl rfl) (fun _ _ => trivial) (trivial) rfl rfl hl.1 (Nat.le_of_ble_eq_true rfl) ⟨Nat.le_of_ble_eq_true rfl, Nat.le_of_ble_eq_true rfl⟩ dX10_flatsOf_2 (Nat.le_of_ble_eq_true rfl) (Nat.le_of_ble_eq_true rfl) (fun _ H locs _ hW => ⟨(), trivial, hW.sub [0] rfl (rfl)⟩)
set_option maxHeartbeats 4000000 in
set_option maxRecDepth 100000 in
theorem c_X10_firstFlat_t1 (l : Launch) (hl0 : l.stackTraces = false) (g : GG) (ob tx ps ho rk : Nat) (so : Option Nat) (u : Int) (hu : (u < 0 ∨ 3 < u) ∧ -2147483648 ≤ u ∧ u < 2147483648) : qThr l yX10_firstFlat wsX10_firstFlat ({ frames := 7, cells := 1, slots := 6, locals := 121 }) g [.ref ob, .int (iI u)] [(ob, .inr (10, [.ref tx, .ref ps, .ref ho, .ref rk, va_rf so]))] (fun _ => True) (fun _ => True) exI (S := Unit) (fun _ => [(ob, .inr (10, [.ref tx, .ref ps, .ref ho, .ref rk, va_rf so]))]) (fun _ => True) 1 6 := by
  refine q_ofT (cc := cX10_firstFlat) (maxL := 3) (ret := (some .int)) (fun sz h => h.self) (by decide) rfl (Nat.le_of_ble_eq_true rfl) ?_
  intro p e s m args below meth c A ls S0 hlocks hxt hK hE hA hAe hW hD0 hX hl
  have hW : gW g A s.heap s.heap [] [(ob, .inr (10, [.ref tx, .ref ps, .ref ho, .ref rk, va_rf so]))] := hW
  have hl : lv_has ls 3 [(0, .ref ob), (1, .int (iI u))] := hl
  refine lv_aload_n S0.1 S0.2.1 dX10_firstFlat_0 rfl (lv_at hl 0 rfl) ?_
  refine lv_iload_n S0.1 S0.2.1 dX10_firstFlat_1 rfl (lv_at hl 1 rfl) ?_
  refine q_tV (n := 1) (rest := []) (wr := []) S0 hK hA hE hlocks hxt hW (c_X10_requireFunction_t l hl0 g ob tx ps ho rk so u (hu)) gX10_firstFlat_X10_requireFunction rfl rfl rfl (by decide +kernel) ⟨Nat.le_of_ble_eq_true rfl, Nat.le_of_ble_eq_true rfl⟩ [0] [] rfl rfl rfl rfl (by decide) (q_recv hK hW.1 (ci := 10) (q0 := 0) rfl rfl) (fun _ _ => trivial) (trivial) rfl rfl hl.1 (Nat.le_of_ble_eq_true rfl) ⟨Nat.le_of_ble_eq_true rfl, Nat.le_of_ble_eq_true rfl⟩ dX10_firstFlat_2 (Nat.le_of_ble_eq_true rfl) (Nat.le_of_ble_eq_true rfl) (fun _ H locs _ hW => ⟨(), trivial, hW.sub [0] rfl (rfl)⟩)
set_option maxHeartbeats 4000000 in
set_option maxRecDepth 100000 in
theorem c_X10_rootsOf_t1 (l : Launch) (hl0 : l.stackTraces = false) (g : GG) (ob tx ps ho rk : Nat) (so : Option Nat) (u : Int) (hu : (u < 0 ∨ 3 < u) ∧ -2147483648 ≤ u ∧ u < 2147483648) : qThr l yX10_rootsOf wsX10_rootsOf ({ frames := 7, cells := 1, slots := 6, locals := 121 }) g [.ref ob, .int (iI u)] [(ob, .inr (10, [.ref tx, .ref ps, .ref ho, .ref rk, va_rf so]))] (fun _ => True) (fun _ => True) exI (S := Unit) (fun _ => [(ob, .inr (10, [.ref tx, .ref ps, .ref ho, .ref rk, va_rf so]))]) (fun _ => True) 1 6 := by
  refine q_ofT (cc := cX10_rootsOf) (maxL := 2) (ret := (some .int)) (fun sz h => h.self) (by decide) rfl (Nat.le_of_ble_eq_true rfl) ?_
  intro p e s m args below meth c A ls S0 hlocks hxt hK hE hA hAe hW hD0 hX hl
  have hW : gW g A s.heap s.heap [] [(ob, .inr (10, [.ref tx, .ref ps, .ref ho, .ref rk, va_rf so]))] := hW
  have hl : lv_has ls 2 [(0, .ref ob), (1, .int (iI u))] := hl
  refine lv_aload_n S0.1 S0.2.1 dX10_rootsOf_0 rfl (lv_at hl 0 rfl) ?_
  refine lv_iload_n S0.1 S0.2.1 dX10_rootsOf_1 rfl (lv_at hl 1 rfl) ?_
  refine q_tV (n := 1) (rest := []) (wr := []) S0 hK hA hE hlocks hxt hW (c_X10_requireFunction_t l hl0 g ob tx ps ho rk so u (hu)) gX10_rootsOf_X10_requireFunction rfl rfl rfl (by decide +kernel) ⟨Nat.le_of_ble_eq_true rfl, Nat.le_of_ble_eq_true rfl⟩ [0] [] rfl rfl rfl rfl (by decide) (q_recv hK hW.1 (ci := 10) (q0 := 0) rfl rfl) (fun _ _ => trivial) (trivial) rfl rfl hl.1 (Nat.le_of_ble_eq_true rfl) ⟨Nat.le_of_ble_eq_true rfl, Nat.le_of_ble_eq_true rfl⟩ dX10_rootsOf_2 (Nat.le_of_ble_eq_true rfl) (Nat.le_of_ble_eq_true rfl) (fun _ H locs _ hW => ⟨(), trivial, hW.sub [0] rfl (rfl)⟩)
set_option maxHeartbeats 4000000 in
set_option maxRecDepth 100000 in
theorem c_X10_define_t1 (l : Launch) (hl0 : l.stackTraces = false) (g : GG) (ob tx ps ho rk : Nat) (so : Option Nat) (u : Int) (hu : (u < 0 ∨ 3 < u) ∧ -2147483648 ≤ u ∧ u < 2147483648) : qThr l yX10_define wsX10_define ({ frames := 7, cells := 1, slots := 6, locals := 121 }) g [.ref ob, .int (iI u)] [(ob, .inr (10, [.ref tx, .ref ps, .ref ho, .ref rk, va_rf so]))] (fun _ => True) (fun _ => True) exI (S := Unit) (fun _ => [(ob, .inr (10, [.ref tx, .ref ps, .ref ho, .ref rk, va_rf so]))]) (fun _ => True) 1 6 := by
  refine q_ofT (cc := cX10_define) (maxL := 3) (ret := (some .int)) (fun sz h => h.self) (by decide) rfl (Nat.le_of_ble_eq_true rfl) ?_
  intro p e s m args below meth c A ls S0 hlocks hxt hK hE hA hAe hW hD0 hX hl
  have hW : gW g A s.heap s.heap [] [(ob, .inr (10, [.ref tx, .ref ps, .ref ho, .ref rk, va_rf so]))] := hW
  have hl : lv_has ls 3 [(0, .ref ob), (1, .int (iI u))] := hl
  refine lv_aload_n S0.1 S0.2.1 dX10_define_0 rfl (lv_at hl 0 rfl) ?_
  refine lv_iload_n S0.1 S0.2.1 dX10_define_1 rfl (lv_at hl 1 rfl) ?_
  refine q_tV (n := 1) (rest := []) (wr := []) S0 hK hA hE hlocks hxt hW (c_X10_requireFunction_t l hl0 g ob tx ps ho rk so u (hu)) gX10_define_X10_requireFunction rfl rfl rfl (by decide +kernel) ⟨Nat.le_of_ble_eq_true rfl, Nat.le_of_ble_eq_true rfl⟩ [0] [] rfl rfl rfl rfl (by decide) (q_recv hK hW.1 (ci := 10) (q0 := 0) rfl rfl) (fun _ _ => trivial) (trivial) rfl rfl hl.1 (Nat.le_of_ble_eq_true rfl) ⟨Nat.le_of_ble_eq_true rfl, Nat.le_of_ble_eq_true rfl⟩ dX10_define_2 (Nat.le_of_ble_eq_true rfl) (Nat.le_of_ble_eq_true rfl) (fun _ H locs _ hW => ⟨(), trivial, hW.sub [0] rfl (rfl)⟩)
set_option maxHeartbeats 4000000 in
set_option maxRecDepth 100000 in
theorem c_X10_valueAt_t1 (l : Launch) (hl0 : l.stackTraces = false) (g : GG) (ob tx ps ho rk : Nat) (so : Option Nat) (u x : Int) (hu : (u < 0 ∨ 3 < u) ∧ -2147483648 ≤ u ∧ u < 2147483648) (hx : -2147483648 ≤ x ∧ x < 2147483648) : qThr l yX10_valueAt wsX10_valueAt ({ frames := 7, cells := 1, slots := 6, locals := 121 }) g [.ref ob, .int (iI u), .int (iI x)] [(ob, .inr (10, [.ref tx, .ref ps, .ref ho, .ref rk, va_rf so]))] (fun _ => True) (fun _ => True) exI (S := Unit) (fun _ => [(ob, .inr (10, [.ref tx, .ref ps, .ref ho, .ref rk, va_rf so]))]) (fun _ => True) 1 6 := by
  refine q_ofT (cc := cX10_valueAt) (maxL := 3) (ret := (some .int)) (fun sz h => h.self) (by decide) rfl (Nat.le_of_ble_eq_true rfl) ?_
  intro p e s m args below meth c A ls S0 hlocks hxt hK hE hA hAe hW hD0 hX hl
  have hW : gW g A s.heap s.heap [] [(ob, .inr (10, [.ref tx, .ref ps, .ref ho, .ref rk, va_rf so]))] := hW
  have hl : lv_has ls 3 [(0, .ref ob), (1, .int (iI u)), (2, .int (iI x))] := hl
  refine lv_aload_n S0.1 S0.2.1 dX10_valueAt_0 rfl (lv_at hl 0 rfl) ?_
  refine lv_iload_n S0.1 S0.2.1 dX10_valueAt_1 rfl (lv_at hl 1 rfl) ?_
  refine q_tV (n := 1) (rest := []) (wr := []) S0 hK hA hE hlocks hxt hW (c_X10_requireFunction_t l hl0 g ob tx ps ho rk so u (hu)) gX10_valueAt_X10_requireFunction rfl rfl rfl (by decide +kernel) ⟨Nat.le_of_ble_eq_true rfl, Nat.le_of_ble_eq_true rfl⟩ [0] [] rfl rfl rfl rfl (by decide) (q_recv hK hW.1 (ci := 10) (q0 := 0) rfl rfl) (fun _ _ => trivial) (trivial) rfl rfl hl.1 (Nat.le_of_ble_eq_true rfl) ⟨Nat.le_of_ble_eq_true rfl, Nat.le_of_ble_eq_true rfl⟩ dX10_valueAt_2 (Nat.le_of_ble_eq_true rfl) (Nat.le_of_ble_eq_true rfl) (fun _ H locs _ hW => ⟨(), trivial, hW.sub [0] rfl (rfl)⟩)
set_option maxHeartbeats 4000000 in
set_option maxRecDepth 100000 in
theorem c_X10_valueAt_t2 (l : Launch) (hl0 : l.stackTraces = false) (g : GG) (ob tx ps ho rk t0 t1 t2 t3 t4 t5 : Nat) (so : Option Nat) (F : FT) (u x : Int) (hpr : 2 ≤ fP F ∧ fP F ≤ 199) (hu : 0 ≤ u ∧ u < 4) (hx : (x < 0 ∨ fP F ≤ x) ∧ -2147483648 ≤ x ∧ x < 2147483648) : qThr l yX10_valueAt wsX10_valueAt ({ frames := 7, cells := 1, slots := 6, locals := 121 }) g [.ref ob, .int (iI u), .int (iI x)] [(ob, .inr (10, [.ref tx, .ref ps, .ref ho, .ref rk, va_rf so])), (rk, .inr (5, [.ref t0, .ref t1, .ref t2, .ref t3, .ref t4, .ref t5, .ref (fS F)]))] (fun _ => True) (FX g F) exA (S := Unit) (fun _ => [(ob, .inr (10, [.ref tx, .ref ps, .ref ho, .ref rk, va_rf so])), (rk, .inr (5, [.ref t0, .ref t1, .ref t2, .ref t3, .ref t4, .ref t5, .ref (fS F)]))]) (fun _ => True) 1 6 := by
  refine q_ofT (cc := cX10_valueAt) (maxL := 3) (ret := (some .int)) (fun sz h => h.self) (by decide) rfl (Nat.le_of_ble_eq_true rfl) ?_
  intro p e s m args below meth c A ls S0 hlocks hxt hK hE hA hAe hW hD0 hX hl
  have hW : gW g A s.heap s.heap [] [(ob, .inr (10, [.ref tx, .ref ps, .ref ho, .ref rk, va_rf so])), (rk, .inr (5, [.ref t0, .ref t1, .ref t2, .ref t3, .ref t4, .ref t5, .ref (fS F)]))] := hW
  have hl : lv_has ls 3 [(0, .ref ob), (1, .int (iI u)), (2, .int (iI x))] := hl
  refine lv_aload_n S0.1 S0.2.1 dX10_valueAt_0 rfl (lv_at hl 0 rfl) ?_
  refine lv_iload_n S0.1 S0.2.1 dX10_valueAt_1 rfl (lv_at hl 1 rfl) ?_
  refine q_pV (n := 1) (rest := []) S0 hK (c_X10_requireFunction l g ob tx ps ho rk so u (hu)) (subP hW.1 [0] rfl) (trivial) gX10_valueAt_X10_requireFunction rfl rfl rfl (by decide +kernel) ⟨Nat.le_of_ble_eq_true rfl, Nat.le_of_ble_eq_true rfl⟩ (q_recv hK hW.1 (ci := 10) (q0 := 0) rfl rfl) rfl rfl hl.1 (Nat.le_of_ble_eq_true rfl) ⟨Nat.le_of_ble_eq_true rfl, Nat.le_of_ble_eq_true rfl⟩ dX10_valueAt_2 ?_
  refine W.eq (g2 := F0 m 5 ls []) rfl ?_
  refine lv_aload_n S0.1 S0.2.1 dX10_valueAt_5 rfl (lv_at hl 0 rfl) ?_
  refine lv_iload_n S0.1 S0.2.1 dX10_valueAt_6 rfl (lv_at hl 2 rfl) ?_
  refine q_tV (n := 1) (rest := []) (wr := []) S0 hK hA hE hlocks hxt hW (c_X10_requireNumber_t l hl0 g ob tx ps ho rk t0 t1 t2 t3 t4 t5 so F x (hpr) (hx)) gX10_valueAt_X10_requireNumber rfl rfl rfl (by decide +kernel) ⟨Nat.le_of_ble_eq_true rfl, Nat.le_of_ble_eq_true rfl⟩ [0, 1] [] rfl rfl rfl rfl (by decide) (q_recv hK hW.1 (ci := 10) (q0 := 0) rfl rfl) (fun _ _ => trivial) (hX) rfl rfl hl.1 (Nat.le_of_ble_eq_true rfl) ⟨Nat.le_of_ble_eq_true rfl, Nat.le_of_ble_eq_true rfl⟩ dX10_valueAt_7 (Nat.le_of_ble_eq_true rfl) (Nat.le_of_ble_eq_true rfl) (fun _ H locs _ hW => ⟨(), trivial, hW.sub [0, 1] rfl (rfl)⟩)
set_option maxHeartbeats 4000000 in
set_option maxRecDepth 100000 in
theorem c_X10_slopeByHinges_t1 (l : Launch) (hl0 : l.stackTraces = false) (g : GG) (ob tx ps ho rk : Nat) (so : Option Nat) (u x : Int) (hu : (u < 0 ∨ 3 < u) ∧ -2147483648 ≤ u ∧ u < 2147483648) (hx : -2147483648 ≤ x ∧ x < 2147483648) : qThr l yX10_slopeByHinges wsX10_slopeByHinges ({ frames := 7, cells := 1, slots := 6, locals := 121 }) g [.ref ob, .int (iI u), .int (iI x)] [(ob, .inr (10, [.ref tx, .ref ps, .ref ho, .ref rk, va_rf so]))] (fun _ => True) (fun _ => True) exI (S := Unit) (fun _ => [(ob, .inr (10, [.ref tx, .ref ps, .ref ho, .ref rk, va_rf so]))]) (fun _ => True) 1 6 := by
  refine q_ofT (cc := cX10_slopeByHinges) (maxL := 3) (ret := (some .int)) (fun sz h => h.self) (by decide) rfl (Nat.le_of_ble_eq_true rfl) ?_
  intro p e s m args below meth c A ls S0 hlocks hxt hK hE hA hAe hW hD0 hX hl
  have hW : gW g A s.heap s.heap [] [(ob, .inr (10, [.ref tx, .ref ps, .ref ho, .ref rk, va_rf so]))] := hW
  have hl : lv_has ls 3 [(0, .ref ob), (1, .int (iI u)), (2, .int (iI x))] := hl
  refine lv_aload_n S0.1 S0.2.1 dX10_slopeByHinges_0 rfl (lv_at hl 0 rfl) ?_
  refine lv_iload_n S0.1 S0.2.1 dX10_slopeByHinges_1 rfl (lv_at hl 1 rfl) ?_
  refine q_tV (n := 1) (rest := []) (wr := []) S0 hK hA hE hlocks hxt hW (c_X10_requireFunction_t l hl0 g ob tx ps ho rk so u (hu)) gX10_slopeByHinges_X10_requireFunction rfl rfl rfl (by decide +kernel) ⟨Nat.le_of_ble_eq_true rfl, Nat.le_of_ble_eq_true rfl⟩ [0] [] rfl rfl rfl rfl (by decide) (q_recv hK hW.1 (ci := 10) (q0 := 0) rfl rfl) (fun _ _ => trivial) (trivial) rfl rfl hl.1 (Nat.le_of_ble_eq_true rfl) ⟨Nat.le_of_ble_eq_true rfl, Nat.le_of_ble_eq_true rfl⟩ dX10_slopeByHinges_2 (Nat.le_of_ble_eq_true rfl) (Nat.le_of_ble_eq_true rfl) (fun _ H locs _ hW => ⟨(), trivial, hW.sub [0] rfl (rfl)⟩)
set_option maxHeartbeats 4000000 in
set_option maxRecDepth 100000 in
theorem c_X10_slopeByHinges_t2 (l : Launch) (hl0 : l.stackTraces = false) (g : GG) (ob tx ps ho rk t0 t1 t2 t3 t4 t5 : Nat) (so : Option Nat) (F : FT) (u x : Int) (hpr : 2 ≤ fP F ∧ fP F ≤ 199) (hu : 0 ≤ u ∧ u < 4) (hx : (x < 0 ∨ fP F ≤ x) ∧ -2147483648 ≤ x ∧ x < 2147483648) : qThr l yX10_slopeByHinges wsX10_slopeByHinges ({ frames := 7, cells := 1, slots := 6, locals := 121 }) g [.ref ob, .int (iI u), .int (iI x)] [(ob, .inr (10, [.ref tx, .ref ps, .ref ho, .ref rk, va_rf so])), (rk, .inr (5, [.ref t0, .ref t1, .ref t2, .ref t3, .ref t4, .ref t5, .ref (fS F)]))] (fun _ => True) (FX g F) exA (S := Unit) (fun _ => [(ob, .inr (10, [.ref tx, .ref ps, .ref ho, .ref rk, va_rf so])), (rk, .inr (5, [.ref t0, .ref t1, .ref t2, .ref t3, .ref t4, .ref t5, .ref (fS F)]))]) (fun _ => True) 1 6 := by
  refine q_ofT (cc := cX10_slopeByHinges) (maxL := 3) (ret := (some .int)) (fun sz h => h.self) (by decide) rfl (Nat.le_of_ble_eq_true rfl) ?_
  intro p e s m args below meth c A ls S0 hlocks hxt hK hE hA hAe hW hD0 hX hl
  have hW : gW g A s.heap s.heap [] [(ob, .inr (10, [.ref tx, .ref ps, .ref ho, .ref rk, va_rf so])), (rk, .inr (5, [.ref t0, .ref t1, .ref t2, .ref t3, .ref t4, .ref t5, .ref (fS F)]))] := hW
  have hl : lv_has ls 3 [(0, .ref ob), (1, .int (iI u)), (2, .int (iI x))] := hl
  refine lv_aload_n S0.1 S0.2.1 dX10_slopeByHinges_0 rfl (lv_at hl 0 rfl) ?_
  refine lv_iload_n S0.1 S0.2.1 dX10_slopeByHinges_1 rfl (lv_at hl 1 rfl) ?_
  refine q_pV (n := 1) (rest := []) S0 hK (c_X10_requireFunction l g ob tx ps ho rk so u (hu)) (subP hW.1 [0] rfl) (trivial) gX10_slopeByHinges_X10_requireFunction rfl rfl rfl (by decide +kernel) ⟨Nat.le_of_ble_eq_true rfl, Nat.le_of_ble_eq_true rfl⟩ (q_recv hK hW.1 (ci := 10) (q0 := 0) rfl rfl) rfl rfl hl.1 (Nat.le_of_ble_eq_true rfl) ⟨Nat.le_of_ble_eq_true rfl, Nat.le_of_ble_eq_true rfl⟩ dX10_slopeByHinges_2 ?_
  refine W.eq (g2 := F0 m 5 ls []) rfl ?_
  refine lv_aload_n S0.1 S0.2.1 dX10_slopeByHinges_5 rfl (lv_at hl 0 rfl) ?_
  refine lv_iload_n S0.1 S0.2.1 dX10_slopeByHinges_6 rfl (lv_at hl 2 rfl) ?_
  refine q_tV (n := 1) (rest := []) (wr := []) S0 hK hA hE hlocks hxt hW (c_X10_requireNumber_t l hl0 g ob tx ps ho rk t0 t1 t2 t3 t4 t5 so F x (hpr) (hx)) gX10_slopeByHinges_X10_requireNumber rfl rfl rfl (by decide +kernel) ⟨Nat.le_of_ble_eq_true rfl, Nat.le_of_ble_eq_true rfl⟩ [0, 1] [] rfl rfl rfl rfl (by decide) (q_recv hK hW.1 (ci := 10) (q0 := 0) rfl rfl) (fun _ _ => trivial) (hX) rfl rfl hl.1 (Nat.le_of_ble_eq_true rfl) ⟨Nat.le_of_ble_eq_true rfl, Nat.le_of_ble_eq_true rfl⟩ dX10_slopeByHinges_7 (Nat.le_of_ble_eq_true rfl) (Nat.le_of_ble_eq_true rfl) (fun _ H locs _ hW => ⟨(), trivial, hW.sub [0, 1] rfl (rfl)⟩)
set_option maxHeartbeats 4000000 in
set_option maxRecDepth 100000 in
theorem c_X10_slopeByRules_t1 (l : Launch) (hl0 : l.stackTraces = false) (g : GG) (ob tx ps ho rk : Nat) (so : Option Nat) (u x : Int) (hu : (u < 0 ∨ 3 < u) ∧ -2147483648 ≤ u ∧ u < 2147483648) (hx : -2147483648 ≤ x ∧ x < 2147483648) : qThr l yX10_slopeByRules wsX10_slopeByRules ({ frames := 7, cells := 1, slots := 6, locals := 121 }) g [.ref ob, .int (iI u), .int (iI x)] [(ob, .inr (10, [.ref tx, .ref ps, .ref ho, .ref rk, va_rf so]))] (fun _ => True) (fun _ => True) exI (S := Unit) (fun _ => [(ob, .inr (10, [.ref tx, .ref ps, .ref ho, .ref rk, va_rf so]))]) (fun _ => True) 1 6 := by
  refine q_ofT (cc := cX10_slopeByRules) (maxL := 3) (ret := (some .int)) (fun sz h => h.self) (by decide) rfl (Nat.le_of_ble_eq_true rfl) ?_
  intro p e s m args below meth c A ls S0 hlocks hxt hK hE hA hAe hW hD0 hX hl
  have hW : gW g A s.heap s.heap [] [(ob, .inr (10, [.ref tx, .ref ps, .ref ho, .ref rk, va_rf so]))] := hW
  have hl : lv_has ls 3 [(0, .ref ob), (1, .int (iI u)), (2, .int (iI x))] := hl
  refine lv_aload_n S0.1 S0.2.1 dX10_slopeByRules_0 rfl (lv_at hl 0 rfl) ?_
  refine lv_iload_n S0.1 S0.2.1 dX10_slopeByRules_1 rfl (lv_at hl 1 rfl) ?_
  refine q_tV (n := 1) (rest := []) (wr := []) S0 hK hA hE hlocks hxt hW (c_X10_requireFunction_t l hl0 g ob tx ps ho rk so u (hu)) gX10_slopeByRules_X10_requireFunction rfl rfl rfl (by decide +kernel) ⟨Nat.le_of_ble_eq_true rfl, Nat.le_of_ble_eq_true rfl⟩ [0] [] rfl rfl rfl rfl (by decide) (q_recv hK hW.1 (ci := 10) (q0 := 0) rfl rfl) (fun _ _ => trivial) (trivial) rfl rfl hl.1 (Nat.le_of_ble_eq_true rfl) ⟨Nat.le_of_ble_eq_true rfl, Nat.le_of_ble_eq_true rfl⟩ dX10_slopeByRules_2 (Nat.le_of_ble_eq_true rfl) (Nat.le_of_ble_eq_true rfl) (fun _ H locs _ hW => ⟨(), trivial, hW.sub [0] rfl (rfl)⟩)
set_option maxHeartbeats 4000000 in
set_option maxRecDepth 100000 in
theorem c_X10_slopeByRules_t2 (l : Launch) (hl0 : l.stackTraces = false) (g : GG) (ob tx ps ho rk t0 t1 t2 t3 t4 t5 : Nat) (so : Option Nat) (F : FT) (u x : Int) (hpr : 2 ≤ fP F ∧ fP F ≤ 199) (hu : 0 ≤ u ∧ u < 4) (hx : (x < 0 ∨ fP F ≤ x) ∧ -2147483648 ≤ x ∧ x < 2147483648) : qThr l yX10_slopeByRules wsX10_slopeByRules ({ frames := 7, cells := 1, slots := 6, locals := 121 }) g [.ref ob, .int (iI u), .int (iI x)] [(ob, .inr (10, [.ref tx, .ref ps, .ref ho, .ref rk, va_rf so])), (rk, .inr (5, [.ref t0, .ref t1, .ref t2, .ref t3, .ref t4, .ref t5, .ref (fS F)]))] (fun _ => True) (FX g F) exA (S := Unit) (fun _ => [(ob, .inr (10, [.ref tx, .ref ps, .ref ho, .ref rk, va_rf so])), (rk, .inr (5, [.ref t0, .ref t1, .ref t2, .ref t3, .ref t4, .ref t5, .ref (fS F)]))]) (fun _ => True) 1 6 := by
  refine q_ofT (cc := cX10_slopeByRules) (maxL := 3) (ret := (some .int)) (fun sz h => h.self) (by decide) rfl (Nat.le_of_ble_eq_true rfl) ?_
  intro p e s m args below meth c A ls S0 hlocks hxt hK hE hA hAe hW hD0 hX hl
  have hW : gW g A s.heap s.heap [] [(ob, .inr (10, [.ref tx, .ref ps, .ref ho, .ref rk, va_rf so])), (rk, .inr (5, [.ref t0, .ref t1, .ref t2, .ref t3, .ref t4, .ref t5, .ref (fS F)]))] := hW
  have hl : lv_has ls 3 [(0, .ref ob), (1, .int (iI u)), (2, .int (iI x))] := hl
  refine lv_aload_n S0.1 S0.2.1 dX10_slopeByRules_0 rfl (lv_at hl 0 rfl) ?_
  refine lv_iload_n S0.1 S0.2.1 dX10_slopeByRules_1 rfl (lv_at hl 1 rfl) ?_
  refine q_pV (n := 1) (rest := []) S0 hK (c_X10_requireFunction l g ob tx ps ho rk so u (hu)) (subP hW.1 [0] rfl) (trivial) gX10_slopeByRules_X10_requireFunction rfl rfl rfl (by decide +kernel) ⟨Nat.le_of_ble_eq_true rfl, Nat.le_of_ble_eq_true rfl⟩ (q_recv hK hW.1 (ci := 10) (q0 := 0) rfl rfl) rfl rfl hl.1 (Nat.le_of_ble_eq_true rfl) ⟨Nat.le_of_ble_eq_true rfl, Nat.le_of_ble_eq_true rfl⟩ dX10_slopeByRules_2 ?_
  refine W.eq (g2 := F0 m 5 ls []) rfl ?_
  refine lv_aload_n S0.1 S0.2.1 dX10_slopeByRules_5 rfl (lv_at hl 0 rfl) ?_
  refine lv_iload_n S0.1 S0.2.1 dX10_slopeByRules_6 rfl (lv_at hl 2 rfl) ?_
  refine q_tV (n := 1) (rest := []) (wr := []) S0 hK hA hE hlocks hxt hW (c_X10_requireNumber_t l hl0 g ob tx ps ho rk t0 t1 t2 t3 t4 t5 so F x (hpr) (hx)) gX10_slopeByRules_X10_requireNumber rfl rfl rfl (by decide +kernel) ⟨Nat.le_of_ble_eq_true rfl, Nat.le_of_ble_eq_true rfl⟩ [0, 1] [] rfl rfl rfl rfl (by decide) (q_recv hK hW.1 (ci := 10) (q0 := 0) rfl rfl) (fun _ _ => trivial) (hX) rfl rfl hl.1 (Nat.le_of_ble_eq_true rfl) ⟨Nat.le_of_ble_eq_true rfl, Nat.le_of_ble_eq_true rfl⟩ dX10_slopeByRules_7 (Nat.le_of_ble_eq_true rfl) (Nat.le_of_ble_eq_true rfl) (fun _ H locs _ hW => ⟨(), trivial, hW.sub [0, 1] rfl (rfl)⟩)
set_option maxHeartbeats 4000000 in
set_option maxRecDepth 100000 in
theorem c_X10_step_t1 (l : Launch) (hl0 : l.stackTraces = false) (g : GG) (ob tx ps ho rk : Nat) (so : Option Nat) (u x : Int) (hu : (u < 0 ∨ 3 < u) ∧ -2147483648 ≤ u ∧ u < 2147483648) (hx : -2147483648 ≤ x ∧ x < 2147483648) : qThr l yX10_step wsX10_step ({ frames := 7, cells := 1, slots := 6, locals := 121 }) g [.ref ob, .int (iI u), .int (iI x)] [(ob, .inr (10, [.ref tx, .ref ps, .ref ho, .ref rk, va_rf so]))] (fun _ => True) (fun _ => True) exI (S := Unit) (fun _ => [(ob, .inr (10, [.ref tx, .ref ps, .ref ho, .ref rk, va_rf so]))]) (fun _ => True) 1 6 := by
  refine q_ofT (cc := cX10_step) (maxL := 3) (ret := (some .int)) (fun sz h => h.self) (by decide) rfl (Nat.le_of_ble_eq_true rfl) ?_
  intro p e s m args below meth c A ls S0 hlocks hxt hK hE hA hAe hW hD0 hX hl
  have hW : gW g A s.heap s.heap [] [(ob, .inr (10, [.ref tx, .ref ps, .ref ho, .ref rk, va_rf so]))] := hW
  have hl : lv_has ls 3 [(0, .ref ob), (1, .int (iI u)), (2, .int (iI x))] := hl
  refine lv_aload_n S0.1 S0.2.1 dX10_step_0 rfl (lv_at hl 0 rfl) ?_
  refine lv_iload_n S0.1 S0.2.1 dX10_step_1 rfl (lv_at hl 1 rfl) ?_
  refine q_tV (n := 1) (rest := []) (wr := []) S0 hK hA hE hlocks hxt hW (c_X10_requireFunction_t l hl0 g ob tx ps ho rk so u (hu)) gX10_step_X10_requireFunction rfl rfl rfl (by decide +kernel) ⟨Nat.le_of_ble_eq_true rfl, Nat.le_of_ble_eq_true rfl⟩ [0] [] rfl rfl rfl rfl (by decide) (q_recv hK hW.1 (ci := 10) (q0 := 0) rfl rfl) (fun _ _ => trivial) (trivial) rfl rfl hl.1 (Nat.le_of_ble_eq_true rfl) ⟨Nat.le_of_ble_eq_true rfl, Nat.le_of_ble_eq_true rfl⟩ dX10_step_2 (Nat.le_of_ble_eq_true rfl) (Nat.le_of_ble_eq_true rfl) (fun _ H locs _ hW => ⟨(), trivial, hW.sub [0] rfl (rfl)⟩)
set_option maxHeartbeats 4000000 in
set_option maxRecDepth 100000 in
theorem c_X10_step_t2 (l : Launch) (hl0 : l.stackTraces = false) (g : GG) (ob tx ps ho rk t0 t1 t2 t3 t4 t5 : Nat) (so : Option Nat) (F : FT) (u x : Int) (hpr : 2 ≤ fP F ∧ fP F ≤ 199) (hu : 0 ≤ u ∧ u < 4) (hx : (x < 0 ∨ fP F ≤ x) ∧ -2147483648 ≤ x ∧ x < 2147483648) : qThr l yX10_step wsX10_step ({ frames := 7, cells := 1, slots := 6, locals := 121 }) g [.ref ob, .int (iI u), .int (iI x)] [(ob, .inr (10, [.ref tx, .ref ps, .ref ho, .ref rk, va_rf so])), (rk, .inr (5, [.ref t0, .ref t1, .ref t2, .ref t3, .ref t4, .ref t5, .ref (fS F)]))] (fun _ => True) (FX g F) exA (S := Unit) (fun _ => [(ob, .inr (10, [.ref tx, .ref ps, .ref ho, .ref rk, va_rf so])), (rk, .inr (5, [.ref t0, .ref t1, .ref t2, .ref t3, .ref t4, .ref t5, .ref (fS F)]))]) (fun _ => True) 1 6 := by
  refine q_ofT (cc := cX10_step) (maxL := 3) (ret := (some .int)) (fun sz h => h.self) (by decide) rfl (Nat.le_of_ble_eq_true rfl) ?_
  intro p e s m args below meth c A ls S0 hlocks hxt hK hE hA hAe hW hD0 hX hl
  have hW : gW g A s.heap s.heap [] [(ob, .inr (10, [.ref tx, .ref ps, .ref ho, .ref rk, va_rf so])), (rk, .inr (5, [.ref t0, .ref t1, .ref t2, .ref t3, .ref t4, .ref t5, .ref (fS F)]))] := hW
  have hl : lv_has ls 3 [(0, .ref ob), (1, .int (iI u)), (2, .int (iI x))] := hl
  refine lv_aload_n S0.1 S0.2.1 dX10_step_0 rfl (lv_at hl 0 rfl) ?_
  refine lv_iload_n S0.1 S0.2.1 dX10_step_1 rfl (lv_at hl 1 rfl) ?_
  refine q_pV (n := 1) (rest := []) S0 hK (c_X10_requireFunction l g ob tx ps ho rk so u (hu)) (subP hW.1 [0] rfl) (trivial) gX10_step_X10_requireFunction rfl rfl rfl (by decide +kernel) ⟨Nat.le_of_ble_eq_true rfl, Nat.le_of_ble_eq_true rfl⟩ (q_recv hK hW.1 (ci := 10) (q0 := 0) rfl rfl) rfl rfl hl.1 (Nat.le_of_ble_eq_true rfl) ⟨Nat.le_of_ble_eq_true rfl, Nat.le_of_ble_eq_true rfl⟩ dX10_step_2 ?_
  refine W.eq (g2 := F0 m 5 ls []) rfl ?_
  refine lv_aload_n S0.1 S0.2.1 dX10_step_5 rfl (lv_at hl 0 rfl) ?_
  refine lv_iload_n S0.1 S0.2.1 dX10_step_6 rfl (lv_at hl 2 rfl) ?_
  refine q_tV (n := 1) (rest := []) (wr := []) S0 hK hA hE hlocks hxt hW (c_X10_requireNumber_t l hl0 g ob tx ps ho rk t0 t1 t2 t3 t4 t5 so F x (hpr) (hx)) gX10_step_X10_requireNumber rfl rfl rfl (by decide +kernel) ⟨Nat.le_of_ble_eq_true rfl, Nat.le_of_ble_eq_true rfl⟩ [0, 1] [] rfl rfl rfl rfl (by decide) (q_recv hK hW.1 (ci := 10) (q0 := 0) rfl rfl) (fun _ _ => trivial) (hX) rfl rfl hl.1 (Nat.le_of_ble_eq_true rfl) ⟨Nat.le_of_ble_eq_true rfl, Nat.le_of_ble_eq_true rfl⟩ dX10_step_7 (Nat.le_of_ble_eq_true rfl) (Nat.le_of_ble_eq_true rfl) (fun _ H locs _ hW => ⟨(), trivial, hW.sub [0, 1] rfl (rfl)⟩)
set_option maxHeartbeats 4000000 in
set_option maxRecDepth 100000 in
theorem c_X10_stepsToRoot_t1 (l : Launch) (hl0 : l.stackTraces = false) (g : GG) (ob tx ps ho rk : Nat) (so : Option Nat) (u x : Int) (hu : (u < 0 ∨ 3 < u) ∧ -2147483648 ≤ u ∧ u < 2147483648) (hx : -2147483648 ≤ x ∧ x < 2147483648) : qThr l yX10_stepsToRoot wsX10_stepsToRoot ({ frames := 7, cells := 1, slots := 6, locals := 121 }) g [.ref ob, .int (iI u), .int (iI x)] [(ob, .inr (10, [.ref tx, .ref ps, .ref ho, .ref rk, va_rf so]))] (fun _ => True) (fun _ => True) exI (S := Unit) (fun _ => [(ob, .inr (10, [.ref tx, .ref ps, .ref ho, .ref rk, va_rf so]))]) (fun _ => True) 1 6 := by
  refine q_ofT (cc := cX10_stepsToRoot) (maxL := 5) (ret := (some .int)) (fun sz h => h.self) (by decide) rfl (Nat.le_of_ble_eq_true rfl) ?_
  intro p e s m args below meth c A ls S0 hlocks hxt hK hE hA hAe hW hD0 hX hl
  have hW : gW g A s.heap s.heap [] [(ob, .inr (10, [.ref tx, .ref ps, .ref ho, .ref rk, va_rf so]))] := hW
  have hl : lv_has ls 5 [(0, .ref ob), (1, .int (iI u)), (2, .int (iI x))] := hl
  refine lv_aload_n S0.1 S0.2.1 dX10_stepsToRoot_0 rfl (lv_at hl 0 rfl) ?_
  refine lv_iload_n S0.1 S0.2.1 dX10_stepsToRoot_1 rfl (lv_at hl 1 rfl) ?_
  refine q_tV (n := 1) (rest := []) (wr := []) S0 hK hA hE hlocks hxt hW (c_X10_requireFunction_t l hl0 g ob tx ps ho rk so u (hu)) gX10_stepsToRoot_X10_requireFunction rfl rfl rfl (by decide +kernel) ⟨Nat.le_of_ble_eq_true rfl, Nat.le_of_ble_eq_true rfl⟩ [0] [] rfl rfl rfl rfl (by decide) (q_recv hK hW.1 (ci := 10) (q0 := 0) rfl rfl) (fun _ _ => trivial) (trivial) rfl rfl hl.1 (Nat.le_of_ble_eq_true rfl) ⟨Nat.le_of_ble_eq_true rfl, Nat.le_of_ble_eq_true rfl⟩ dX10_stepsToRoot_2 (Nat.le_of_ble_eq_true rfl) (Nat.le_of_ble_eq_true rfl) (fun _ H locs _ hW => ⟨(), trivial, hW.sub [0] rfl (rfl)⟩)
set_option maxHeartbeats 4000000 in
set_option maxRecDepth 100000 in
theorem c_X10_stepsToRoot_t2 (l : Launch) (hl0 : l.stackTraces = false) (g : GG) (ob tx ps ho rk t0 t1 t2 t3 t4 t5 : Nat) (so : Option Nat) (F : FT) (u x : Int) (hpr : 2 ≤ fP F ∧ fP F ≤ 199) (hu : 0 ≤ u ∧ u < 4) (hx : (x < 0 ∨ fP F ≤ x) ∧ -2147483648 ≤ x ∧ x < 2147483648) : qThr l yX10_stepsToRoot wsX10_stepsToRoot ({ frames := 7, cells := 1, slots := 6, locals := 121 }) g [.ref ob, .int (iI u), .int (iI x)] [(ob, .inr (10, [.ref tx, .ref ps, .ref ho, .ref rk, va_rf so])), (rk, .inr (5, [.ref t0, .ref t1, .ref t2, .ref t3, .ref t4, .ref t5, .ref (fS F)]))] (fun _ => True) (FX g F) exA (S := Unit) (fun _ => [(ob, .inr (10, [.ref tx, .ref ps, .ref ho, .ref rk, va_rf so])), (rk, .inr (5, [.ref t0, .ref t1, .ref t2, .ref t3, .ref t4, .ref t5, .ref (fS F)]))]) (fun _ => True) 1 6 := by
  refine q_ofT (cc := cX10_stepsToRoot) (maxL := 5) (ret := (some .int)) (fun sz h => h.self) (by decide) rfl (Nat.le_of_ble_eq_true rfl) ?_
  intro p e s m args below meth c A ls S0 hlocks hxt hK hE hA hAe hW hD0 hX hl
  have hW : gW g A s.heap s.heap [] [(ob, .inr (10, [.ref tx, .ref ps, .ref ho, .ref rk, va_rf so])), (rk, .inr (5, [.ref t0, .ref t1, .ref t2, .ref t3, .ref t4, .ref t5, .ref (fS F)]))] := hW
  have hl : lv_has ls 5 [(0, .ref ob), (1, .int (iI u)), (2, .int (iI x))] := hl
  refine lv_aload_n S0.1 S0.2.1 dX10_stepsToRoot_0 rfl (lv_at hl 0 rfl) ?_
  refine lv_iload_n S0.1 S0.2.1 dX10_stepsToRoot_1 rfl (lv_at hl 1 rfl) ?_
  refine q_pV (n := 1) (rest := []) S0 hK (c_X10_requireFunction l g ob tx ps ho rk so u (hu)) (subP hW.1 [0] rfl) (trivial) gX10_stepsToRoot_X10_requireFunction rfl rfl rfl (by decide +kernel) ⟨Nat.le_of_ble_eq_true rfl, Nat.le_of_ble_eq_true rfl⟩ (q_recv hK hW.1 (ci := 10) (q0 := 0) rfl rfl) rfl rfl hl.1 (Nat.le_of_ble_eq_true rfl) ⟨Nat.le_of_ble_eq_true rfl, Nat.le_of_ble_eq_true rfl⟩ dX10_stepsToRoot_2 ?_
  refine W.eq (g2 := F0 m 5 ls []) rfl ?_
  refine lv_aload_n S0.1 S0.2.1 dX10_stepsToRoot_5 rfl (lv_at hl 0 rfl) ?_
  refine lv_iload_n S0.1 S0.2.1 dX10_stepsToRoot_6 rfl (lv_at hl 2 rfl) ?_
  refine q_tV (n := 1) (rest := []) (wr := []) S0 hK hA hE hlocks hxt hW (c_X10_requireNumber_t l hl0 g ob tx ps ho rk t0 t1 t2 t3 t4 t5 so F x (hpr) (hx)) gX10_stepsToRoot_X10_requireNumber rfl rfl rfl (by decide +kernel) ⟨Nat.le_of_ble_eq_true rfl, Nat.le_of_ble_eq_true rfl⟩ [0, 1] [] rfl rfl rfl rfl (by decide) (q_recv hK hW.1 (ci := 10) (q0 := 0) rfl rfl) (fun _ _ => trivial) (hX) rfl rfl hl.1 (Nat.le_of_ble_eq_true rfl) ⟨Nat.le_of_ble_eq_true rfl, Nat.le_of_ble_eq_true rfl⟩ dX10_stepsToRoot_7 (Nat.le_of_ble_eq_true rfl) (Nat.le_of_ble_eq_true rfl) (fun _ H locs _ hW => ⟨(), trivial, hW.sub [0, 1] rfl (rfl)⟩)
set_option maxHeartbeats 4000000 in
set_option maxRecDepth 100000 in
theorem c_X10_chainByProducts_t1 (l : Launch) (hl0 : l.stackTraces = false) (g : GG) (ob tx ps ho rk : Nat) (so : Option Nat) (w u x : Int) (hw : (w < 0 ∨ 3 < w) ∧ -2147483648 ≤ w ∧ w < 2147483648) (hu : -2147483648 ≤ u ∧ u < 2147483648) (hx : -2147483648 ≤ x ∧ x < 2147483648) : qThr l yX10_chainByProducts wsX10_chainByProducts ({ frames := 7, cells := 1, slots := 6, locals := 121 }) g [.ref ob, .int (iI w), .int (iI u), .int (iI x)] [(ob, .inr (10, [.ref tx, .ref ps, .ref ho, .ref rk, va_rf so]))] (fun _ => True) (fun _ => True) exI (S := Unit) (fun _ => [(ob, .inr (10, [.ref tx, .ref ps, .ref ho, .ref rk, va_rf so]))]) (fun _ => True) 1 6 := by
  refine q_ofT (cc := cX10_chainByProducts) (maxL := 6) (ret := (some .int)) (fun sz h => h.self) (by decide) rfl (Nat.le_of_ble_eq_true rfl) ?_
  intro p e s m args below meth c A ls S0 hlocks hxt hK hE hA hAe hW hD0 hX hl
  have hW : gW g A s.heap s.heap [] [(ob, .inr (10, [.ref tx, .ref ps, .ref ho, .ref rk, va_rf so]))] := hW
  have hl : lv_has ls 6 [(0, .ref ob), (1, .int (iI w)), (2, .int (iI u)), (3, .int (iI x))] := hl
  refine lv_aload_n S0.1 S0.2.1 dX10_chainByProducts_0 rfl (lv_at hl 0 rfl) ?_
  refine lv_iload_n S0.1 S0.2.1 dX10_chainByProducts_1 rfl (lv_at hl 1 rfl) ?_
  refine q_tV (n := 1) (rest := []) (wr := []) S0 hK hA hE hlocks hxt hW (c_X10_requireFunction_t l hl0 g ob tx ps ho rk so w (hw)) gX10_chainByProducts_X10_requireFunction rfl rfl rfl (by decide +kernel) ⟨Nat.le_of_ble_eq_true rfl, Nat.le_of_ble_eq_true rfl⟩ [0] [] rfl rfl rfl rfl (by decide) (q_recv hK hW.1 (ci := 10) (q0 := 0) rfl rfl) (fun _ _ => trivial) (trivial) rfl rfl hl.1 (Nat.le_of_ble_eq_true rfl) ⟨Nat.le_of_ble_eq_true rfl, Nat.le_of_ble_eq_true rfl⟩ dX10_chainByProducts_2 (Nat.le_of_ble_eq_true rfl) (Nat.le_of_ble_eq_true rfl) (fun _ H locs _ hW => ⟨(), trivial, hW.sub [0] rfl (rfl)⟩)
set_option maxHeartbeats 4000000 in
set_option maxRecDepth 100000 in
theorem c_X10_chainByProducts_t3 (l : Launch) (hl0 : l.stackTraces = false) (g : GG) (ob tx ps ho rk : Nat) (so : Option Nat) (w u x : Int) (hw : 0 ≤ w ∧ w < 4) (hu : (u < 0 ∨ 3 < u) ∧ -2147483648 ≤ u ∧ u < 2147483648) (hx : -2147483648 ≤ x ∧ x < 2147483648) : qThr l yX10_chainByProducts wsX10_chainByProducts ({ frames := 7, cells := 1, slots := 6, locals := 121 }) g [.ref ob, .int (iI w), .int (iI u), .int (iI x)] [(ob, .inr (10, [.ref tx, .ref ps, .ref ho, .ref rk, va_rf so]))] (fun _ => True) (fun _ => True) exI (S := Unit) (fun _ => [(ob, .inr (10, [.ref tx, .ref ps, .ref ho, .ref rk, va_rf so]))]) (fun _ => True) 1 6 := by
  refine q_ofT (cc := cX10_chainByProducts) (maxL := 6) (ret := (some .int)) (fun sz h => h.self) (by decide) rfl (Nat.le_of_ble_eq_true rfl) ?_
  intro p e s m args below meth c A ls S0 hlocks hxt hK hE hA hAe hW hD0 hX hl
  have hW : gW g A s.heap s.heap [] [(ob, .inr (10, [.ref tx, .ref ps, .ref ho, .ref rk, va_rf so]))] := hW
  have hl : lv_has ls 6 [(0, .ref ob), (1, .int (iI w)), (2, .int (iI u)), (3, .int (iI x))] := hl
  refine lv_aload_n S0.1 S0.2.1 dX10_chainByProducts_0 rfl (lv_at hl 0 rfl) ?_
  refine lv_iload_n S0.1 S0.2.1 dX10_chainByProducts_1 rfl (lv_at hl 1 rfl) ?_
  refine q_pV (n := 1) (rest := []) S0 hK (c_X10_requireFunction l g ob tx ps ho rk so w (hw)) (subP hW.1 [0] rfl) (trivial) gX10_chainByProducts_X10_requireFunction rfl rfl rfl (by decide +kernel) ⟨Nat.le_of_ble_eq_true rfl, Nat.le_of_ble_eq_true rfl⟩ (q_recv hK hW.1 (ci := 10) (q0 := 0) rfl rfl) rfl rfl hl.1 (Nat.le_of_ble_eq_true rfl) ⟨Nat.le_of_ble_eq_true rfl, Nat.le_of_ble_eq_true rfl⟩ dX10_chainByProducts_2 ?_
  refine W.eq (g2 := F0 m 5 ls []) rfl ?_
  refine lv_aload_n S0.1 S0.2.1 dX10_chainByProducts_5 rfl (lv_at hl 0 rfl) ?_
  refine lv_iload_n S0.1 S0.2.1 dX10_chainByProducts_6 rfl (lv_at hl 2 rfl) ?_
  refine q_tV (n := 1) (rest := []) (wr := []) S0 hK hA hE hlocks hxt hW (c_X10_requireFunction_t l hl0 g ob tx ps ho rk so u (hu)) gX10_chainByProducts_X10_requireFunction rfl rfl rfl (by decide +kernel) ⟨Nat.le_of_ble_eq_true rfl, Nat.le_of_ble_eq_true rfl⟩ [0] [] rfl rfl rfl rfl (by decide) (q_recv hK hW.1 (ci := 10) (q0 := 0) rfl rfl) (fun _ _ => trivial) (trivial) rfl rfl hl.1 (Nat.le_of_ble_eq_true rfl) ⟨Nat.le_of_ble_eq_true rfl, Nat.le_of_ble_eq_true rfl⟩ dX10_chainByProducts_7 (Nat.le_of_ble_eq_true rfl) (Nat.le_of_ble_eq_true rfl) (fun _ H locs _ hW => ⟨(), trivial, hW.sub [0] rfl (rfl)⟩)
set_option maxHeartbeats 4000000 in
set_option maxRecDepth 100000 in
theorem c_X10_chainByProducts_t2 (l : Launch) (hl0 : l.stackTraces = false) (g : GG) (ob tx ps ho rk t0 t1 t2 t3 t4 t5 : Nat) (so : Option Nat) (F : FT) (w u x : Int) (hpr : 2 ≤ fP F ∧ fP F ≤ 199) (hw : 0 ≤ w ∧ w < 4) (hu : 0 ≤ u ∧ u < 4) (hx : (x < 0 ∨ fP F ≤ x) ∧ -2147483648 ≤ x ∧ x < 2147483648) : qThr l yX10_chainByProducts wsX10_chainByProducts ({ frames := 7, cells := 1, slots := 6, locals := 121 }) g [.ref ob, .int (iI w), .int (iI u), .int (iI x)] [(ob, .inr (10, [.ref tx, .ref ps, .ref ho, .ref rk, va_rf so])), (rk, .inr (5, [.ref t0, .ref t1, .ref t2, .ref t3, .ref t4, .ref t5, .ref (fS F)]))] (fun _ => True) (FX g F) exA (S := Unit) (fun _ => [(ob, .inr (10, [.ref tx, .ref ps, .ref ho, .ref rk, va_rf so])), (rk, .inr (5, [.ref t0, .ref t1, .ref t2, .ref t3, .ref t4, .ref t5, .ref (fS F)]))]) (fun _ => True) 1 6 := by
  refine q_ofT (cc := cX10_chainByProducts) (maxL := 6) (ret := (some .int)) (fun sz h => h.self) (by decide) rfl (Nat.le_of_ble_eq_true rfl) ?_
  intro p e s m args below meth c A ls S0 hlocks hxt hK hE hA hAe hW hD0 hX hl
  have hW : gW g A s.heap s.heap [] [(ob, .inr (10, [.ref tx, .ref ps, .ref ho, .ref rk, va_rf so])), (rk, .inr (5, [.ref t0, .ref t1, .ref t2, .ref t3, .ref t4, .ref t5, .ref (fS F)]))] := hW
  have hl : lv_has ls 6 [(0, .ref ob), (1, .int (iI w)), (2, .int (iI u)), (3, .int (iI x))] := hl
  refine lv_aload_n S0.1 S0.2.1 dX10_chainByProducts_0 rfl (lv_at hl 0 rfl) ?_
  refine lv_iload_n S0.1 S0.2.1 dX10_chainByProducts_1 rfl (lv_at hl 1 rfl) ?_
  refine q_pV (n := 1) (rest := []) S0 hK (c_X10_requireFunction l g ob tx ps ho rk so w (hw)) (subP hW.1 [0] rfl) (trivial) gX10_chainByProducts_X10_requireFunction rfl rfl rfl (by decide +kernel) ⟨Nat.le_of_ble_eq_true rfl, Nat.le_of_ble_eq_true rfl⟩ (q_recv hK hW.1 (ci := 10) (q0 := 0) rfl rfl) rfl rfl hl.1 (Nat.le_of_ble_eq_true rfl) ⟨Nat.le_of_ble_eq_true rfl, Nat.le_of_ble_eq_true rfl⟩ dX10_chainByProducts_2 ?_
  refine W.eq (g2 := F0 m 5 ls []) rfl ?_
  refine lv_aload_n S0.1 S0.2.1 dX10_chainByProducts_5 rfl (lv_at hl 0 rfl) ?_
  refine lv_iload_n S0.1 S0.2.1 dX10_chainByProducts_6 rfl (lv_at hl 2 rfl) ?_
  refine q_pV (n := 1) (rest := []) S0 hK (c_X10_requireFunction l g ob tx ps ho rk so u (hu)) (subP hW.1 [0] rfl) (trivial) gX10_chainByProducts_X10_requireFunction rfl rfl rfl (by decide +kernel) ⟨Nat.le_of_ble_eq_true rfl, Nat.le_of_ble_eq_true rfl⟩ (q_recv hK hW.1 (ci := 10) (q0 := 0) rfl rfl) rfl rfl hl.1 (Nat.le_of_ble_eq_true rfl) ⟨Nat.le_of_ble_eq_true rfl, Nat.le_of_ble_eq_true rfl⟩ dX10_chainByProducts_7 ?_
  refine W.eq (g2 := F0 m 10 ls []) rfl ?_
  refine lv_aload_n S0.1 S0.2.1 dX10_chainByProducts_10 rfl (lv_at hl 0 rfl) ?_
  refine lv_iload_n S0.1 S0.2.1 dX10_chainByProducts_11 rfl (lv_at hl 3 rfl) ?_
  refine q_tV (n := 1) (rest := []) (wr := []) S0 hK hA hE hlocks hxt hW (c_X10_requireNumber_t l hl0 g ob tx ps ho rk t0 t1 t2 t3 t4 t5 so F x (hpr) (hx)) gX10_chainByProducts_X10_requireNumber rfl rfl rfl (by decide +kernel) ⟨Nat.le_of_ble_eq_true rfl, Nat.le_of_ble_eq_true rfl⟩ [0, 1] [] rfl rfl rfl rfl (by decide) (q_recv hK hW.1 (ci := 10) (q0 := 0) rfl rfl) (fun _ _ => trivial) (hX) rfl rfl hl.1 (Nat.le_of_ble_eq_true rfl) ⟨Nat.le_of_ble_eq_true rfl, Nat.le_of_ble_eq_true rfl⟩ dX10_chainByProducts_12 (Nat.le_of_ble_eq_true rfl) (Nat.le_of_ble_eq_true rfl) (fun _ H locs _ hW => ⟨(), trivial, hW.sub [0, 1] rfl (rfl)⟩)
set_option maxHeartbeats 4000000 in
set_option maxRecDepth 100000 in
theorem c_X10_chainByFeeding_t1 (l : Launch) (hl0 : l.stackTraces = false) (g : GG) (ob tx ps ho rk : Nat) (so : Option Nat) (w u x : Int) (hw : (w < 0 ∨ 3 < w) ∧ -2147483648 ≤ w ∧ w < 2147483648) (hu : -2147483648 ≤ u ∧ u < 2147483648) (hx : -2147483648 ≤ x ∧ x < 2147483648) : qThr l yX10_chainByFeeding wsX10_chainByFeeding ({ frames := 7, cells := 1, slots := 6, locals := 121 }) g [.ref ob, .int (iI w), .int (iI u), .int (iI x)] [(ob, .inr (10, [.ref tx, .ref ps, .ref ho, .ref rk, va_rf so]))] (fun _ => True) (fun _ => True) exI (S := Unit) (fun _ => [(ob, .inr (10, [.ref tx, .ref ps, .ref ho, .ref rk, va_rf so]))]) (fun _ => True) 1 6 := by
  refine q_ofT (cc := cX10_chainByFeeding) (maxL := 5) (ret := (some .int)) (fun sz h => h.self) (by decide) rfl (Nat.le_of_ble_eq_true rfl) ?_
  intro p e s m args below meth c A ls S0 hlocks hxt hK hE hA hAe hW hD0 hX hl
  have hW : gW g A s.heap s.heap [] [(ob, .inr (10, [.ref tx, .ref ps, .ref ho, .ref rk, va_rf so]))] := hW
  have hl : lv_has ls 5 [(0, .ref ob), (1, .int (iI w)), (2, .int (iI u)), (3, .int (iI x))] := hl
  refine lv_aload_n S0.1 S0.2.1 dX10_chainByFeeding_0 rfl (lv_at hl 0 rfl) ?_
  refine lv_iload_n S0.1 S0.2.1 dX10_chainByFeeding_1 rfl (lv_at hl 1 rfl) ?_
  refine q_tV (n := 1) (rest := []) (wr := []) S0 hK hA hE hlocks hxt hW (c_X10_requireFunction_t l hl0 g ob tx ps ho rk so w (hw)) gX10_chainByFeeding_X10_requireFunction rfl rfl rfl (by decide +kernel) ⟨Nat.le_of_ble_eq_true rfl, Nat.le_of_ble_eq_true rfl⟩ [0] [] rfl rfl rfl rfl (by decide) (q_recv hK hW.1 (ci := 10) (q0 := 0) rfl rfl) (fun _ _ => trivial) (trivial) rfl rfl hl.1 (Nat.le_of_ble_eq_true rfl) ⟨Nat.le_of_ble_eq_true rfl, Nat.le_of_ble_eq_true rfl⟩ dX10_chainByFeeding_2 (Nat.le_of_ble_eq_true rfl) (Nat.le_of_ble_eq_true rfl) (fun _ H locs _ hW => ⟨(), trivial, hW.sub [0] rfl (rfl)⟩)
set_option maxHeartbeats 4000000 in
set_option maxRecDepth 100000 in
theorem c_X10_chainByFeeding_t3 (l : Launch) (hl0 : l.stackTraces = false) (g : GG) (ob tx ps ho rk : Nat) (so : Option Nat) (w u x : Int) (hw : 0 ≤ w ∧ w < 4) (hu : (u < 0 ∨ 3 < u) ∧ -2147483648 ≤ u ∧ u < 2147483648) (hx : -2147483648 ≤ x ∧ x < 2147483648) : qThr l yX10_chainByFeeding wsX10_chainByFeeding ({ frames := 7, cells := 1, slots := 6, locals := 121 }) g [.ref ob, .int (iI w), .int (iI u), .int (iI x)] [(ob, .inr (10, [.ref tx, .ref ps, .ref ho, .ref rk, va_rf so]))] (fun _ => True) (fun _ => True) exI (S := Unit) (fun _ => [(ob, .inr (10, [.ref tx, .ref ps, .ref ho, .ref rk, va_rf so]))]) (fun _ => True) 1 6 := by
  refine q_ofT (cc := cX10_chainByFeeding) (maxL := 5) (ret := (some .int)) (fun sz h => h.self) (by decide) rfl (Nat.le_of_ble_eq_true rfl) ?_
  intro p e s m args below meth c A ls S0 hlocks hxt hK hE hA hAe hW hD0 hX hl
  have hW : gW g A s.heap s.heap [] [(ob, .inr (10, [.ref tx, .ref ps, .ref ho, .ref rk, va_rf so]))] := hW
  have hl : lv_has ls 5 [(0, .ref ob), (1, .int (iI w)), (2, .int (iI u)), (3, .int (iI x))] := hl
  refine lv_aload_n S0.1 S0.2.1 dX10_chainByFeeding_0 rfl (lv_at hl 0 rfl) ?_
  refine lv_iload_n S0.1 S0.2.1 dX10_chainByFeeding_1 rfl (lv_at hl 1 rfl) ?_
  refine q_pV (n := 1) (rest := []) S0 hK (c_X10_requireFunction l g ob tx ps ho rk so w (hw)) (subP hW.1 [0] rfl) (trivial) gX10_chainByFeeding_X10_requireFunction rfl rfl rfl (by decide +kernel) ⟨Nat.le_of_ble_eq_true rfl, Nat.le_of_ble_eq_true rfl⟩ (q_recv hK hW.1 (ci := 10) (q0 := 0) rfl rfl) rfl rfl hl.1 (Nat.le_of_ble_eq_true rfl) ⟨Nat.le_of_ble_eq_true rfl, Nat.le_of_ble_eq_true rfl⟩ dX10_chainByFeeding_2 ?_
  refine W.eq (g2 := F0 m 5 ls []) rfl ?_
  refine lv_aload_n S0.1 S0.2.1 dX10_chainByFeeding_5 rfl (lv_at hl 0 rfl) ?_
  refine lv_iload_n S0.1 S0.2.1 dX10_chainByFeeding_6 rfl (lv_at hl 2 rfl) ?_
  refine q_tV (n := 1) (rest := []) (wr := []) S0 hK hA hE hlocks hxt hW (c_X10_requireFunction_t l hl0 g ob tx ps ho rk so u (hu)) gX10_chainByFeeding_X10_requireFunction rfl rfl rfl (by decide +kernel) ⟨Nat.le_of_ble_eq_true rfl, Nat.le_of_ble_eq_true rfl⟩ [0] [] rfl rfl rfl rfl (by decide) (q_recv hK hW.1 (ci := 10) (q0 := 0) rfl rfl) (fun _ _ => trivial) (trivial) rfl rfl hl.1 (Nat.le_of_ble_eq_true rfl) ⟨Nat.le_of_ble_eq_true rfl, Nat.le_of_ble_eq_true rfl⟩ dX10_chainByFeeding_7 (Nat.le_of_ble_eq_true rfl) (Nat.le_of_ble_eq_true rfl) (fun _ H locs _ hW => ⟨(), trivial, hW.sub [0] rfl (rfl)⟩)
set_option maxHeartbeats 4000000 in
set_option maxRecDepth 100000 in
theorem c_X10_chainByFeeding_t2 (l : Launch) (hl0 : l.stackTraces = false) (g : GG) (ob tx ps ho rk t0 t1 t2 t3 t4 t5 : Nat) (so : Option Nat) (F : FT) (w u x : Int) (hpr : 2 ≤ fP F ∧ fP F ≤ 199) (hw : 0 ≤ w ∧ w < 4) (hu : 0 ≤ u ∧ u < 4) (hx : (x < 0 ∨ fP F ≤ x) ∧ -2147483648 ≤ x ∧ x < 2147483648) : qThr l yX10_chainByFeeding wsX10_chainByFeeding ({ frames := 7, cells := 1, slots := 6, locals := 121 }) g [.ref ob, .int (iI w), .int (iI u), .int (iI x)] [(ob, .inr (10, [.ref tx, .ref ps, .ref ho, .ref rk, va_rf so])), (rk, .inr (5, [.ref t0, .ref t1, .ref t2, .ref t3, .ref t4, .ref t5, .ref (fS F)]))] (fun _ => True) (FX g F) exA (S := Unit) (fun _ => [(ob, .inr (10, [.ref tx, .ref ps, .ref ho, .ref rk, va_rf so])), (rk, .inr (5, [.ref t0, .ref t1, .ref t2, .ref t3, .ref t4, .ref t5, .ref (fS F)]))]) (fun _ => True) 1 6 := by
  refine q_ofT (cc := cX10_chainByFeeding) (maxL := 5) (ret := (some .int)) (fun sz h => h.self) (by decide) rfl (Nat.le_of_ble_eq_true rfl) ?_
  intro p e s m args below meth c A ls S0 hlocks hxt hK hE hA hAe hW hD0 hX hl
  have hW : gW g A s.heap s.heap [] [(ob, .inr (10, [.ref tx, .ref ps, .ref ho, .ref rk, va_rf so])), (rk, .inr (5, [.ref t0, .ref t1, .ref t2, .ref t3, .ref t4, .ref t5, .ref (fS F)]))] := hW
  have hl : lv_has ls 5 [(0, .ref ob), (1, .int (iI w)), (2, .int (iI u)), (3, .int (iI x))] := hl
  refine lv_aload_n S0.1 S0.2.1 dX10_chainByFeeding_0 rfl (lv_at hl 0 rfl) ?_
  refine lv_iload_n S0.1 S0.2.1 dX10_chainByFeeding_1 rfl (lv_at hl 1 rfl) ?_
  refine q_pV (n := 1) (rest := []) S0 hK (c_X10_requireFunction l g ob tx ps ho rk so w (hw)) (subP hW.1 [0] rfl) (trivial) gX10_chainByFeeding_X10_requireFunction rfl rfl rfl (by decide +kernel) ⟨Nat.le_of_ble_eq_true rfl, Nat.le_of_ble_eq_true rfl⟩ (q_recv hK hW.1 (ci := 10) (q0 := 0) rfl rfl) rfl rfl hl.1 (Nat.le_of_ble_eq_true rfl) ⟨Nat.le_of_ble_eq_true rfl, Nat.le_of_ble_eq_true rfl⟩ dX10_chainByFeeding_2 ?_
  refine W.eq (g2 := F0 m 5 ls []) rfl ?_
  refine lv_aload_n S0.1 S0.2.1 dX10_chainByFeeding_5 rfl (lv_at hl 0 rfl) ?_
  refine lv_iload_n S0.1 S0.2.1 dX10_chainByFeeding_6 rfl (lv_at hl 2 rfl) ?_
  refine q_pV (n := 1) (rest := []) S0 hK (c_X10_requireFunction l g ob tx ps ho rk so u (hu)) (subP hW.1 [0] rfl) (trivial) gX10_chainByFeeding_X10_requireFunction rfl rfl rfl (by decide +kernel) ⟨Nat.le_of_ble_eq_true rfl, Nat.le_of_ble_eq_true rfl⟩ (q_recv hK hW.1 (ci := 10) (q0 := 0) rfl rfl) rfl rfl hl.1 (Nat.le_of_ble_eq_true rfl) ⟨Nat.le_of_ble_eq_true rfl, Nat.le_of_ble_eq_true rfl⟩ dX10_chainByFeeding_7 ?_
  refine W.eq (g2 := F0 m 10 ls []) rfl ?_
  refine lv_aload_n S0.1 S0.2.1 dX10_chainByFeeding_10 rfl (lv_at hl 0 rfl) ?_
  refine lv_iload_n S0.1 S0.2.1 dX10_chainByFeeding_11 rfl (lv_at hl 3 rfl) ?_
  refine q_tV (n := 1) (rest := []) (wr := []) S0 hK hA hE hlocks hxt hW (c_X10_requireNumber_t l hl0 g ob tx ps ho rk t0 t1 t2 t3 t4 t5 so F x (hpr) (hx)) gX10_chainByFeeding_X10_requireNumber rfl rfl rfl (by decide +kernel) ⟨Nat.le_of_ble_eq_true rfl, Nat.le_of_ble_eq_true rfl⟩ [0, 1] [] rfl rfl rfl rfl (by decide) (q_recv hK hW.1 (ci := 10) (q0 := 0) rfl rfl) (fun _ _ => trivial) (hX) rfl rfl hl.1 (Nat.le_of_ble_eq_true rfl) ⟨Nat.le_of_ble_eq_true rfl, Nat.le_of_ble_eq_true rfl⟩ dX10_chainByFeeding_12 (Nat.le_of_ble_eq_true rfl) (Nat.le_of_ble_eq_true rfl) (fun _ H locs _ hW => ⟨(), trivial, hW.sub [0, 1] rfl (rfl)⟩)
set_option maxHeartbeats 4000000 in
set_option maxRecDepth 100000 in
theorem c_X10_isSame_t1 (l : Launch) (hl0 : l.stackTraces = false) (g : GG) (ob tx ps ho rk : Nat) (so : Option Nat) (u w : Int) (hu : (u < 0 ∨ 3 < u) ∧ -2147483648 ≤ u ∧ u < 2147483648) (hw : -2147483648 ≤ w ∧ w < 2147483648) : qThr l yX10_isSame wsX10_isSame ({ frames := 7, cells := 1, slots := 6, locals := 121 }) g [.ref ob, .int (iI u), .int (iI w)] [(ob, .inr (10, [.ref tx, .ref ps, .ref ho, .ref rk, va_rf so]))] (fun _ => True) (fun _ => True) exI (S := Unit) (fun _ => [(ob, .inr (10, [.ref tx, .ref ps, .ref ho, .ref rk, va_rf so]))]) (fun _ => True) 1 6 := by
  refine q_ofT (cc := cX10_isSame) (maxL := 4) (ret := (some .boolean)) (fun sz h => h.self) (by decide) rfl (Nat.le_of_ble_eq_true rfl) ?_
  intro p e s m args below meth c A ls S0 hlocks hxt hK hE hA hAe hW hD0 hX hl
  have hW : gW g A s.heap s.heap [] [(ob, .inr (10, [.ref tx, .ref ps, .ref ho, .ref rk, va_rf so]))] := hW
  have hl : lv_has ls 4 [(0, .ref ob), (1, .int (iI u)), (2, .int (iI w))] := hl
  refine lv_aload_n S0.1 S0.2.1 dX10_isSame_0 rfl (lv_at hl 0 rfl) ?_
  refine lv_iload_n S0.1 S0.2.1 dX10_isSame_1 rfl (lv_at hl 1 rfl) ?_
  refine q_tV (n := 1) (rest := []) (wr := []) S0 hK hA hE hlocks hxt hW (c_X10_requireFunction_t l hl0 g ob tx ps ho rk so u (hu)) gX10_isSame_X10_requireFunction rfl rfl rfl (by decide +kernel) ⟨Nat.le_of_ble_eq_true rfl, Nat.le_of_ble_eq_true rfl⟩ [0] [] rfl rfl rfl rfl (by decide) (q_recv hK hW.1 (ci := 10) (q0 := 0) rfl rfl) (fun _ _ => trivial) (trivial) rfl rfl hl.1 (Nat.le_of_ble_eq_true rfl) ⟨Nat.le_of_ble_eq_true rfl, Nat.le_of_ble_eq_true rfl⟩ dX10_isSame_2 (Nat.le_of_ble_eq_true rfl) (Nat.le_of_ble_eq_true rfl) (fun _ H locs _ hW => ⟨(), trivial, hW.sub [0] rfl (rfl)⟩)
set_option maxHeartbeats 4000000 in
set_option maxRecDepth 100000 in
theorem c_X10_isSame_t3 (l : Launch) (hl0 : l.stackTraces = false) (g : GG) (ob tx ps ho rk : Nat) (so : Option Nat) (u w : Int) (hu : 0 ≤ u ∧ u < 4) (hw : (w < 0 ∨ 3 < w) ∧ -2147483648 ≤ w ∧ w < 2147483648) : qThr l yX10_isSame wsX10_isSame ({ frames := 7, cells := 1, slots := 6, locals := 121 }) g [.ref ob, .int (iI u), .int (iI w)] [(ob, .inr (10, [.ref tx, .ref ps, .ref ho, .ref rk, va_rf so]))] (fun _ => True) (fun _ => True) exI (S := Unit) (fun _ => [(ob, .inr (10, [.ref tx, .ref ps, .ref ho, .ref rk, va_rf so]))]) (fun _ => True) 1 6 := by
  refine q_ofT (cc := cX10_isSame) (maxL := 4) (ret := (some .boolean)) (fun sz h => h.self) (by decide) rfl (Nat.le_of_ble_eq_true rfl) ?_
  intro p e s m args below meth c A ls S0 hlocks hxt hK hE hA hAe hW hD0 hX hl
  have hW : gW g A s.heap s.heap [] [(ob, .inr (10, [.ref tx, .ref ps, .ref ho, .ref rk, va_rf so]))] := hW
  have hl : lv_has ls 4 [(0, .ref ob), (1, .int (iI u)), (2, .int (iI w))] := hl
  refine lv_aload_n S0.1 S0.2.1 dX10_isSame_0 rfl (lv_at hl 0 rfl) ?_
  refine lv_iload_n S0.1 S0.2.1 dX10_isSame_1 rfl (lv_at hl 1 rfl) ?_
  refine q_pV (n := 1) (rest := []) S0 hK (c_X10_requireFunction l g ob tx ps ho rk so u (hu)) (subP hW.1 [0] rfl) (trivial) gX10_isSame_X10_requireFunction rfl rfl rfl (by decide +kernel) ⟨Nat.le_of_ble_eq_true rfl, Nat.le_of_ble_eq_true rfl⟩ (q_recv hK hW.1 (ci := 10) (q0 := 0) rfl rfl) rfl rfl hl.1 (Nat.le_of_ble_eq_true rfl) ⟨Nat.le_of_ble_eq_true rfl, Nat.le_of_ble_eq_true rfl⟩ dX10_isSame_2 ?_
  refine W.eq (g2 := F0 m 5 ls []) rfl ?_
  refine lv_aload_n S0.1 S0.2.1 dX10_isSame_5 rfl (lv_at hl 0 rfl) ?_
  refine lv_iload_n S0.1 S0.2.1 dX10_isSame_6 rfl (lv_at hl 2 rfl) ?_
  refine q_tV (n := 1) (rest := []) (wr := []) S0 hK hA hE hlocks hxt hW (c_X10_requireFunction_t l hl0 g ob tx ps ho rk so w (hw)) gX10_isSame_X10_requireFunction rfl rfl rfl (by decide +kernel) ⟨Nat.le_of_ble_eq_true rfl, Nat.le_of_ble_eq_true rfl⟩ [0] [] rfl rfl rfl rfl (by decide) (q_recv hK hW.1 (ci := 10) (q0 := 0) rfl rfl) (fun _ _ => trivial) (trivial) rfl rfl hl.1 (Nat.le_of_ble_eq_true rfl) ⟨Nat.le_of_ble_eq_true rfl, Nat.le_of_ble_eq_true rfl⟩ dX10_isSame_7 (Nat.le_of_ble_eq_true rfl) (Nat.le_of_ble_eq_true rfl) (fun _ H locs _ hW => ⟨(), trivial, hW.sub [0] rfl (rfl)⟩)
set_option maxHeartbeats 4000000 in
set_option maxRecDepth 100000 in
theorem c_X10_copy_t1 (l : Launch) (hl0 : l.stackTraces = false) (g : GG) (ob tx ps ho rk : Nat) (so : Option Nat) (u w : Int) (hu : (u < 0 ∨ 3 < u) ∧ -2147483648 ≤ u ∧ u < 2147483648) (hw : -2147483648 ≤ w ∧ w < 2147483648) : qThr l yX10_copy wsX10_copy ({ frames := 7, cells := 1, slots := 6, locals := 121 }) g [.ref ob, .int (iI u), .int (iI w)] [(ob, .inr (10, [.ref tx, .ref ps, .ref ho, .ref rk, va_rf so]))] (fun _ => True) (fun _ => True) exI (S := Unit) (fun _ => [(ob, .inr (10, [.ref tx, .ref ps, .ref ho, .ref rk, va_rf so]))]) (fun _ => True) 1 6 := by
  refine q_ofT (cc := cX10_copy) (maxL := 4) (ret := (some .int)) (fun sz h => h.self) (by decide) rfl (Nat.le_of_ble_eq_true rfl) ?_
  intro p e s m args below meth c A ls S0 hlocks hxt hK hE hA hAe hW hD0 hX hl
  have hW : gW g A s.heap s.heap [] [(ob, .inr (10, [.ref tx, .ref ps, .ref ho, .ref rk, va_rf so]))] := hW
  have hl : lv_has ls 4 [(0, .ref ob), (1, .int (iI u)), (2, .int (iI w))] := hl
  refine lv_aload_n S0.1 S0.2.1 dX10_copy_0 rfl (lv_at hl 0 rfl) ?_
  refine lv_iload_n S0.1 S0.2.1 dX10_copy_1 rfl (lv_at hl 1 rfl) ?_
  refine q_tV (n := 1) (rest := []) (wr := []) S0 hK hA hE hlocks hxt hW (c_X10_requireFunction_t l hl0 g ob tx ps ho rk so u (hu)) gX10_copy_X10_requireFunction rfl rfl rfl (by decide +kernel) ⟨Nat.le_of_ble_eq_true rfl, Nat.le_of_ble_eq_true rfl⟩ [0] [] rfl rfl rfl rfl (by decide) (q_recv hK hW.1 (ci := 10) (q0 := 0) rfl rfl) (fun _ _ => trivial) (trivial) rfl rfl hl.1 (Nat.le_of_ble_eq_true rfl) ⟨Nat.le_of_ble_eq_true rfl, Nat.le_of_ble_eq_true rfl⟩ dX10_copy_2 (Nat.le_of_ble_eq_true rfl) (Nat.le_of_ble_eq_true rfl) (fun _ H locs _ hW => ⟨(), trivial, hW.sub [0] rfl (rfl)⟩)
set_option maxHeartbeats 4000000 in
set_option maxRecDepth 100000 in
theorem c_X10_copy_t3 (l : Launch) (hl0 : l.stackTraces = false) (g : GG) (ob tx ps ho rk : Nat) (so : Option Nat) (u w : Int) (hu : 0 ≤ u ∧ u < 4) (hw : (w < 0 ∨ 3 < w) ∧ -2147483648 ≤ w ∧ w < 2147483648) : qThr l yX10_copy wsX10_copy ({ frames := 7, cells := 1, slots := 6, locals := 121 }) g [.ref ob, .int (iI u), .int (iI w)] [(ob, .inr (10, [.ref tx, .ref ps, .ref ho, .ref rk, va_rf so]))] (fun _ => True) (fun _ => True) exI (S := Unit) (fun _ => [(ob, .inr (10, [.ref tx, .ref ps, .ref ho, .ref rk, va_rf so]))]) (fun _ => True) 1 6 := by
  refine q_ofT (cc := cX10_copy) (maxL := 4) (ret := (some .int)) (fun sz h => h.self) (by decide) rfl (Nat.le_of_ble_eq_true rfl) ?_
  intro p e s m args below meth c A ls S0 hlocks hxt hK hE hA hAe hW hD0 hX hl
  have hW : gW g A s.heap s.heap [] [(ob, .inr (10, [.ref tx, .ref ps, .ref ho, .ref rk, va_rf so]))] := hW
  have hl : lv_has ls 4 [(0, .ref ob), (1, .int (iI u)), (2, .int (iI w))] := hl
  refine lv_aload_n S0.1 S0.2.1 dX10_copy_0 rfl (lv_at hl 0 rfl) ?_
  refine lv_iload_n S0.1 S0.2.1 dX10_copy_1 rfl (lv_at hl 1 rfl) ?_
  refine q_pV (n := 1) (rest := []) S0 hK (c_X10_requireFunction l g ob tx ps ho rk so u (hu)) (subP hW.1 [0] rfl) (trivial) gX10_copy_X10_requireFunction rfl rfl rfl (by decide +kernel) ⟨Nat.le_of_ble_eq_true rfl, Nat.le_of_ble_eq_true rfl⟩ (q_recv hK hW.1 (ci := 10) (q0 := 0) rfl rfl) rfl rfl hl.1 (Nat.le_of_ble_eq_true rfl) ⟨Nat.le_of_ble_eq_true rfl, Nat.le_of_ble_eq_true rfl⟩ dX10_copy_2 ?_
  refine W.eq (g2 := F0 m 5 ls []) rfl ?_
  refine lv_aload_n S0.1 S0.2.1 dX10_copy_5 rfl (lv_at hl 0 rfl) ?_
  refine lv_iload_n S0.1 S0.2.1 dX10_copy_6 rfl (lv_at hl 2 rfl) ?_
  refine q_tV (n := 1) (rest := []) (wr := []) S0 hK hA hE hlocks hxt hW (c_X10_requireFunction_t l hl0 g ob tx ps ho rk so w (hw)) gX10_copy_X10_requireFunction rfl rfl rfl (by decide +kernel) ⟨Nat.le_of_ble_eq_true rfl, Nat.le_of_ble_eq_true rfl⟩ [0] [] rfl rfl rfl rfl (by decide) (q_recv hK hW.1 (ci := 10) (q0 := 0) rfl rfl) (fun _ _ => trivial) (trivial) rfl rfl hl.1 (Nat.le_of_ble_eq_true rfl) ⟨Nat.le_of_ble_eq_true rfl, Nat.le_of_ble_eq_true rfl⟩ dX10_copy_7 (Nat.le_of_ble_eq_true rfl) (Nat.le_of_ble_eq_true rfl) (fun _ H locs _ hW => ⟨(), trivial, hW.sub [0] rfl (rfl)⟩)
set_option maxHeartbeats 4000000 in
set_option maxRecDepth 100000 in
theorem c_X10_copy_t2 (l : Launch) (hl0 : l.stackTraces = false) (g : GG) (ob tx ps ho rk t0 t1 t2 t3 t4 t5 : Nat) (so : Option Nat) (F : FT) (u w : Int) (hu : 0 ≤ u ∧ u < 4) (hw : 0 ≤ w ∧ w < 4) (hl : u < fL F w.toNat ∧ fL F w.toNat < 1000) : qThr l yX10_copy wsX10_copy ({ frames := 6, cells := 1, slots := 6, locals := 100 }) g [.ref ob, .int (iI u), .int (iI w)] [(ob, .inr (10, [.ref tx, .ref ps, .ref ho, .ref rk, va_rf so])), (rk, .inr (5, [.ref t0, .ref t1, .ref t2, .ref t3, .ref t4, .ref t5, .ref (fS F)]))] (fun _ => True) (FX g F) exS (S := Unit) (fun _ => [(ob, .inr (10, [.ref tx, .ref ps, .ref ho, .ref rk, va_rf so])), (rk, .inr (5, [.ref t0, .ref t1, .ref t2, .ref t3, .ref t4, .ref t5, .ref (fS F)]))]) (fun _ => True) 1 6 := by
  refine q_ofT (cc := cX10_copy) (maxL := 4) (ret := (some .int)) (fun sz h => h.self) (by decide) rfl (Nat.le_of_ble_eq_true rfl) ?_
  intro p e s m args below meth c A ls S0 hlocks hxt hK hE hA hAe hW hD0 hX hl
  have hW : gW g A s.heap s.heap [] [(ob, .inr (10, [.ref tx, .ref ps, .ref ho, .ref rk, va_rf so])), (rk, .inr (5, [.ref t0, .ref t1, .ref t2, .ref t3, .ref t4, .ref t5, .ref (fS F)]))] := hW
  have hl : lv_has ls 4 [(0, .ref ob), (1, .int (iI u)), (2, .int (iI w))] := hl
  have hinX10 : ∀ w ∈ wsX100, w ∈ wsX10_copy := fun w h => List.mem_cons_of_mem _ (List.mem_append_left _ (List.mem_append_left _ (List.mem_append_left _ (List.mem_append_left _ (List.mem_append_left _ (List.mem_append_left _ (List.mem_append_left _ (List.mem_append_right _ h))))))))
  refine lv_aload_n S0.1 S0.2.1 dX10_copy_0 rfl (lv_at hl 0 rfl) ?_
  refine lv_iload_n S0.1 S0.2.1 dX10_copy_1 rfl (lv_at hl 1 rfl) ?_
  refine q_pV (n := 1) (rest := []) S0 hK (c_X10_requireFunction l g ob tx ps ho rk so u (hu)) (subP hW.1 [0] rfl) (trivial) gX10_copy_X10_requireFunction rfl rfl rfl (by decide +kernel) ⟨Nat.le_of_ble_eq_true rfl, Nat.le_of_ble_eq_true rfl⟩ (q_recv hK hW.1 (ci := 10) (q0 := 0) rfl rfl) rfl rfl hl.1 (Nat.le_of_ble_eq_true rfl) ⟨Nat.le_of_ble_eq_true rfl, Nat.le_of_ble_eq_true rfl⟩ dX10_copy_2 ?_
  refine W.eq (g2 := F0 m 5 ls []) rfl ?_
  refine lv_aload_n S0.1 S0.2.1 dX10_copy_5 rfl (lv_at hl 0 rfl) ?_
  refine lv_iload_n S0.1 S0.2.1 dX10_copy_6 rfl (lv_at hl 2 rfl) ?_
  refine q_pV (n := 1) (rest := []) S0 hK (c_X10_requireFunction l g ob tx ps ho rk so w (hw)) (subP hW.1 [0] rfl) (trivial) gX10_copy_X10_requireFunction rfl rfl rfl (by decide +kernel) ⟨Nat.le_of_ble_eq_true rfl, Nat.le_of_ble_eq_true rfl⟩ (q_recv hK hW.1 (ci := 10) (q0 := 0) rfl rfl) rfl rfl hl.1 (Nat.le_of_ble_eq_true rfl) ⟨Nat.le_of_ble_eq_true rfl, Nat.le_of_ble_eq_true rfl⟩ dX10_copy_7 ?_
  refine W.eq (g2 := F0 m 10 ls []) rfl ?_
  refine lv_aload_n S0.1 S0.2.1 dX10_copy_10 rfl (lv_at hl 0 rfl) ?_
  refine q_get (C := RX10) (T := TX10) (N := 5) S0 hK hW.1 hinX10 0 rfl rfl 3 (by decide) (List.mem_of_getElem? (i := 3) rfl) rfl rfl dX10_copy_11 ?_
  refine q_pV (n := 0) (rest := []) S0 hK (c_X5_state l g rk t0 t1 t2 t3 t4 t5 (fS F)) (subP hW.1 [1] rfl) (trivial) gX10_copy_X5_state rfl rfl rfl (by decide +kernel) ⟨Nat.le_of_ble_eq_true rfl, Nat.le_of_ble_eq_true rfl⟩ (q_recv hK hW.1 (ci := 5) (q0 := 1) rfl rfl) rfl rfl hl.1 (Nat.le_of_ble_eq_true rfl) ⟨Nat.le_of_ble_eq_true rfl, Nat.le_of_ble_eq_true rfl⟩ dX10_copy_14 ?_
  refine W.eq (g2 := F0 m 17 ls [.ref (fS F)]) rfl ?_
  refine lv_iload_n S0.1 S0.2.1 dX10_copy_17 rfl (lv_at hl 2 rfl) ?_
  refine q_pV (n := 1) (rest := []) S0 hK (c_X7_exprOf l g (fS F) (fR F) (fX F) w (by omega)) (subP (hX).1 [0] rfl) (trivial) gX10_copy_X7_expressionOf rfl rfl rfl (by decide +kernel) ⟨Nat.le_of_ble_eq_true rfl, Nat.le_of_ble_eq_true rfl⟩ (q_recv hK (hX).1 (ci := 7) (q0 := 0) rfl rfl) rfl rfl hl.1 (Nat.le_of_ble_eq_true rfl) ⟨Nat.le_of_ble_eq_true rfl, Nat.le_of_ble_eq_true rfl⟩ dX10_copy_18 ?_
  refine W.eq (g2 := F0 m 21 ls [.ref (fX F w.toNat)]) rfl ?_
  refine lv_astore_n (lv' := [(3, .ref (fX F w.toNat)), (0, .ref ob), (1, .int (iI u)), (2, .int (iI w))]) S0.1 S0.2.1 dX10_copy_21 rfl hl (by decide) rfl (fun ls hl => ?_)
  refine lv_aload_n S0.1 S0.2.1 dX10_copy_22 rfl (lv_at hl 0 rfl) ?_
  refine q_pV (n := 0) (rest := []) S0 hK (c_X1_leastDefinable l g (fX F w.toNat) (fK F w.toNat 1) (fK F w.toNat 2) (fK F w.toNat 3) (fK F w.toNat 4) (fD F w.toNat) (fU F w.toNat) (fL F w.toNat)) (subP (hX.2 w.toNat (by omega)) [0] rfl) (trivial) gX10_copy_X1_leastDefinable rfl rfl rfl (by decide +kernel) ⟨Nat.le_of_ble_eq_true rfl, Nat.le_of_ble_eq_true rfl⟩ (q_recv hK (hX.2 w.toNat (by omega)) (ci := 1) (q0 := 0) rfl rfl) rfl rfl hl.1 (Nat.le_of_ble_eq_true rfl) ⟨Nat.le_of_ble_eq_true rfl, Nat.le_of_ble_eq_true rfl⟩ dX10_copy_23 ?_
  refine W.eq (g2 := F0 m 26 ls [.int (iI (fL F w.toNat))]) rfl ?_
  refine lv_iload_n S0.1 S0.2.1 dX10_copy_26 rfl (lv_at hl 2 rfl) ?_
  refine q_icmp_le (tgt := 40) S0 (by omega) dX10_copy_27 (by decide) (fun c27 => ?_) (fun c27 => ?_)
  · skip
    exact absurd c27 (by omega)
  · skip
    exact q_throw (u := ()) S0 hl0 hlocks hxt hE (hW.sub [0, 1] rfl (rfl)) trivial 2 rfl (by decide +kernel) (List.mem_of_getElem? (i := 1) rfl) (List.mem_of_getElem? (i := 2) rfl) (fun z hz => List.mem_cons_of_mem _ (List.mem_append_left _ (List.mem_append_right _ hz))) tb_53 tg_53 hl.1 dX10_copy_30 dX10_copy_33 dX10_copy_34 dX10_copy_36 dX10_copy_39 ⟨Nat.le_of_ble_eq_true rfl, Nat.le_of_ble_eq_true rfl, Nat.le_of_ble_eq_true rfl, Nat.le_of_ble_eq_true rfl⟩ (Nat.le_of_ble_eq_true rfl) (Nat.le_of_ble_eq_true rfl)
set_option maxHeartbeats 4000000 in
set_option maxRecDepth 100000 in
theorem c_X10_setModulus_t1 (l : Launch) (hl0 : l.stackTraces = false) (g : GG) (ob : Nat) (p_ : Int) (hp : -2147483648 ≤ p_ ∧ p_ < 2147483648) (hq : p_ ≤ 199 → prU p_ 198 2 = 0) : qThr l yX10_setModulus wsX10_setModulus ({ frames := 6, cells := 1, slots := 6, locals := 100 }) g [.ref ob, .int (iI p_)] [] (fun _ => True) (fun _ => True) exA (S := Unit) (fun _ => []) (fun _ => True) 1 6 := by
  refine q_ofT (cc := cX10_setModulus) (maxL := 3) (ret := (some .int)) (fun sz h => h.self) (by decide) rfl (Nat.le_of_ble_eq_true rfl) ?_
  intro p e s m args below meth c A ls S0 hlocks hxt hK hE hA hAe hW hD0 hX hl
  have hW : gW g A s.heap s.heap [] [] := hW
  have hl : lv_has ls 3 [(0, .ref ob), (1, .int (iI p_))] := hl
  refine lv_iload_n S0.1 S0.2.1 dX10_setModulus_0 rfl (lv_at hl 1 rfl) ?_
  refine q_sipush S0 (by decide) dX10_setModulus_1 ?_
  refine q_icmp_gt (tgt := 14) S0 (by omega) dX10_setModulus_4 (by decide) (fun c4 => ?_) (fun c4 => ?_)
  · skip
    exact q_throw (u := ()) S0 hl0 hlocks hxt hE (hW.sub [] rfl (rfl)) trivial 3 rfl (by decide +kernel) (List.mem_of_getElem? (i := 1) rfl) (List.mem_of_getElem? (i := 2) rfl) (fun z hz => List.mem_cons_of_mem _ (List.mem_append_right _ hz)) tb_100 tg_100 hl.1 dX10_setModulus_14 dX10_setModulus_17 dX10_setModulus_18 dX10_setModulus_20 dX10_setModulus_23 ⟨Nat.le_of_ble_eq_true rfl, Nat.le_of_ble_eq_true rfl, Nat.le_of_ble_eq_true rfl, Nat.le_of_ble_eq_true rfl⟩ (Nat.le_of_ble_eq_true rfl) (Nat.le_of_ble_eq_true rfl)
  · skip
    refine lv_iload_n S0.1 S0.2.1 dX10_setModulus_7 rfl (lv_at hl 1 rfl) ?_
    refine q_pS (n := 1) (rest := []) S0 hK (c_X10_isPrime l g p_ (by omega)) (subP hW.1 [] rfl) (trivial) gX10_setModulus_X10_isPrime rfl rfl rfl (by decide +kernel) ⟨Nat.le_of_ble_eq_true rfl, Nat.le_of_ble_eq_true rfl⟩ rfl rfl hl.1 (Nat.le_of_ble_eq_true rfl) ⟨Nat.le_of_ble_eq_true rfl, Nat.le_of_ble_eq_true rfl⟩ dX10_setModulus_8 ?_
    refine W.eq (g2 := F0 m 11 ls [.int (iI (prU p_ 198 2))]) rfl ?_
    refine q_topI (b := 0) (hq (by omega)) ?_
    refine q_if_ne (tgt := 24) S0 (by omega) dX10_setModulus_11 (by decide) (fun c11 => ?_) (fun c11 => ?_)
    · skip
      exact absurd c11 (by omega)
    · skip
      exact q_throw (u := ()) S0 hl0 hlocks hxt hE (hW.sub [] rfl (rfl)) trivial 3 rfl (by decide +kernel) (List.mem_of_getElem? (i := 1) rfl) (List.mem_of_getElem? (i := 2) rfl) (fun z hz => List.mem_cons_of_mem _ (List.mem_append_right _ hz)) tb_100 tg_100 hl.1 dX10_setModulus_14 dX10_setModulus_17 dX10_setModulus_18 dX10_setModulus_20 dX10_setModulus_23 ⟨Nat.le_of_ble_eq_true rfl, Nat.le_of_ble_eq_true rfl, Nat.le_of_ble_eq_true rfl, Nat.le_of_ble_eq_true rfl⟩ (Nat.le_of_ble_eq_true rfl) (Nat.le_of_ble_eq_true rfl)
set_option maxHeartbeats 4000000 in
set_option maxRecDepth 100000 in
theorem c_X10_type_t1 (l : Launch) (hl0 : l.stackTraces = false) (g : GG) (ob tx ps ho : Nat) (so : Option Nat) (rk : Nat) (tc : Nat) (tn : Int) (tf : Nat → Int) (x : Int) (hn : tn = 40) (hx : 0 ≤ x ∧ x < 65536) : qThr l yX10_type wsX10_type ({ frames := 6, cells := 1, slots := 6, locals := 100 }) g [.ref ob, .int (iI x)] [(ob, .inr (10, [.ref tx, .ref ps, .ref ho, .ref rk, va_rf so])), (tx, .inr (9, [.ref tc, .int (iI tn)])), (tc, gC g 40 tf)] (fun _ => True) (fun _ => True) exS (S := Unit) (fun _ => [(ob, .inr (10, [.ref tx, .ref ps, .ref ho, .ref rk, va_rf so])), (tx, .inr (9, [.ref tc, .int (iI tn)])), (tc, gC g 40 tf)]) (fun _ => True) 1 6 := by
  refine q_ofT (cc := cX10_type) (maxL := 2) (ret := (some .int)) (fun sz h => h.self) (by decide) rfl (Nat.le_of_ble_eq_true rfl) ?_
  intro p e s m args below meth c A ls S0 hlocks hxt hK hE hA hAe hW hD0 hX hl
  have hW : gW g A s.heap s.heap [] [(ob, .inr (10, [.ref tx, .ref ps, .ref ho, .ref rk, va_rf so])), (tx, .inr (9, [.ref tc, .int (iI tn)])), (tc, gC g 40 tf)] := hW
  have hl : lv_has ls 2 [(0, .ref ob), (1, .int (iI x))] := hl
  have hinX10 : ∀ w ∈ wsX100, w ∈ wsX10_type := fun w h => List.mem_cons_of_mem _ (List.mem_append_left _ (List.mem_append_left _ (List.mem_append_right _ h)))
  refine lv_aload_n S0.1 S0.2.1 dX10_type_0 rfl (lv_at hl 0 rfl) ?_
  refine q_get (C := RX10) (T := TX10) (N := 5) S0 hK hW.1 hinX10 0 rfl rfl 0 (by decide) (List.mem_of_getElem? (i := 3) rfl) rfl rfl dX10_type_1 ?_
  refine q_pV (n := 0) (rest := []) S0 hK (c_X9_isFull l g tx tc tn tf (by omega)) (subP hW.1 [1, 2] rfl) (trivial) gX10_type_X9_isFull rfl rfl rfl (by decide +kernel) ⟨Nat.le_of_ble_eq_true rfl, Nat.le_of_ble_eq_true rfl⟩ (q_recv hK hW.1 (ci := 9) (q0 := 1) rfl rfl) rfl rfl hl.1 (Nat.le_of_ble_eq_true rfl) ⟨Nat.le_of_ble_eq_true rfl, Nat.le_of_ble_eq_true rfl⟩ dX10_type_4 ?_
  refine W.eq (g2 := F0 m 7 ls [.int (iI (if 40 ≤ tn then (1 : Int) else 0))]) rfl ?_
  refine q_if_eqP (tgt := 20) S0 dX10_type_7 (by decide) (fun c7 => ?_) (fun c7 => ?_)
  · skip
    exact absurd (show ¬ (40 : Int) ≤ tn by first | exact c7 | omega) (by omega)
  · skip
    exact q_throw (u := ()) S0 hl0 hlocks hxt hE (hW.sub [0, 1, 2] rfl (rfl)) trivial 4 rfl (by decide +kernel) (List.mem_of_getElem? (i := 1) rfl) (List.mem_of_getElem? (i := 2) rfl) (fun z hz => List.mem_cons_of_mem _ (List.mem_append_right _ hz)) tb_53 tg_53 hl.1 dX10_type_10 dX10_type_13 dX10_type_14 dX10_type_16 dX10_type_19 ⟨Nat.le_of_ble_eq_true rfl, Nat.le_of_ble_eq_true rfl, Nat.le_of_ble_eq_true rfl, Nat.le_of_ble_eq_true rfl⟩ (Nat.le_of_ble_eq_true rfl) (Nat.le_of_ble_eq_true rfl)
set_option maxHeartbeats 4000000 in
set_option maxRecDepth 100000 in
theorem c_X10_leastToDefine_t1 (l : Launch) (hl0 : l.stackTraces = false) (g : GG) (ob tx ps ho : Nat) (so : Option Nat) (rk : Nat) (tc : Nat) (tn : Int) (tf : Nat → Int) (b k1 k2 k3 k4 k5 k6 s1 i1 s2 i2 : Nat) (S : PT)  (hB : WFB (pB S)) (ht : 0 ≤ tn ∧ tn ≤ 40) (htf : ∀ j, 0 ≤ tf j ∧ tf j < 65536) (hv : ¬ (fe (pB S) tf tn).2 = -1) : qThr l yX10_leastToDefine wsX10_leastToDefine ({ frames := 7, cells := 1, slots := 6, locals := 172 }) g [.ref ob] [(ob, .inr (10, [.ref tx, .ref ps, .ref ho, .ref rk, va_rf so])), (tx, .inr (9, [.ref tc, .int (iI tn)])), (tc, gC g 40 tf), (ps, .inr (4, [.ref b, .int (iI (pA S)), .int (iI (pO S)), .int (iI (pM S))])), (b, .inr (0, [.ref k1, .ref k2, .ref k3, .ref k4, .ref k5, .ref k6, .int (iI (bN (pB S))), .int (iI (bZ (pB S))), .ref s1, .ref s2])), (k1, gI g 40 (bK (pB S))), (k2, gI g 40 (bU (pB S))), (k3, gI g 40 (bL (pB S))), (k4, gI g 40 (bV (pB S))), (k5, gI g 40 (bD (pB S))), (k6, gI g 40 (bE (pB S))), (s1, .inr (3, [.ref i1, .int (iI (lP (pB S)))])), (i1, gI g 40 (lQ (pB S))), (s2, .inr (3, [.ref i2, .int (iI (wP (pB S)))])), (i2, gI g 40 (wQ (pB S)))] (fun _ => True) (fun _ => True) exS (S := Unit) (fun _ => [(ob, .inr (10, [.ref tx, .ref ps, .ref ho, .ref rk, va_rf so])), (tx, .inr (9, [.ref tc, .int (iI tn)])), (tc, gC g 40 tf), (ps, .inr (4, [.ref b, .int (iI (pA ((fe (pB S) tf tn).1))), .int (iI (pO ((fe (pB S) tf tn).1))), .int (iI (pM ((fe (pB S) tf tn).1)))])), (b, .inr (0, [.ref k1, .ref k2, .ref k3, .ref k4, .ref k5, .ref k6, .int (iI (bN (pB ((fe (pB S) tf tn).1)))), .int (iI (bZ (pB ((fe (pB S) tf tn).1)))), .ref s1, .ref s2])), (k1, gI g 40 (bK (pB ((fe (pB S) tf tn).1)))), (k2, gI g 40 (bU (pB ((fe (pB S) tf tn).1)))), (k3, gI g 40 (bL (pB ((fe (pB S) tf tn).1)))), (k4, gI g 40 (bV (pB ((fe (pB S) tf tn).1)))), (k5, gI g 40 (bD (pB ((fe (pB S) tf tn).1)))), (k6, gI g 40 (bE (pB ((fe (pB S) tf tn).1)))), (s1, .inr (3, [.ref i1, .int (iI (lP (pB ((fe (pB S) tf tn).1))))])), (i1, gI g 40 (lQ (pB ((fe (pB S) tf tn).1)))), (s2, .inr (3, [.ref i2, .int (iI (wP (pB ((fe (pB S) tf tn).1))))])), (i2, gI g 40 (wQ (pB ((fe (pB S) tf tn).1))))]) (fun _ => True) 1 6 := by
  refine q_ofT (cc := cX10_leastToDefine) (maxL := 2) (ret := (some .int)) (fun sz h => h.self) (by decide) rfl (Nat.le_of_ble_eq_true rfl) ?_
  intro p e s m args below meth c A ls S0 hlocks hxt hK hE hA hAe hW hD0 hX hl
  have hW : gW g A s.heap s.heap [] [(ob, .inr (10, [.ref tx, .ref ps, .ref ho, .ref rk, va_rf so])), (tx, .inr (9, [.ref tc, .int (iI tn)])), (tc, gC g 40 tf), (ps, .inr (4, [.ref b, .int (iI (pA S)), .int (iI (pO S)), .int (iI (pM S))])), (b, .inr (0, [.ref k1, .ref k2, .ref k3, .ref k4, .ref k5, .ref k6, .int (iI (bN (pB S))), .int (iI (bZ (pB S))), .ref s1, .ref s2])), (k1, gI g 40 (bK (pB S))), (k2, gI g 40 (bU (pB S))), (k3, gI g 40 (bL (pB S))), (k4, gI g 40 (bV (pB S))), (k5, gI g 40 (bD (pB S))), (k6, gI g 40 (bE (pB S))), (s1, .inr (3, [.ref i1, .int (iI (lP (pB S)))])), (i1, gI g 40 (lQ (pB S))), (s2, .inr (3, [.ref i2, .int (iI (wP (pB S)))])), (i2, gI g 40 (wQ (pB S)))] := hW
  have hl : lv_has ls 2 [(0, .ref ob)] := hl
  have hinX10 : ∀ w ∈ wsX100, w ∈ wsX10_leastToDefine := fun w h => List.mem_cons_of_mem _ (List.mem_append_left _ (List.mem_append_left _ (List.mem_append_left _ (List.mem_append_left _ (List.mem_append_left _ (List.mem_append_right _ h))))))
  refine lv_aload_n S0.1 S0.2.1 dX10_leastToDefine_0 rfl (lv_at hl 0 rfl) ?_
  refine q_get (C := RX10) (T := TX10) (N := 5) S0 hK hW.1 hinX10 0 rfl rfl 1 (by decide) (List.mem_of_getElem? (i := 3) rfl) rfl rfl dX10_leastToDefine_1 ?_
  refine lv_aload_n S0.1 S0.2.1 dX10_leastToDefine_4 rfl (lv_at hl 0 rfl) ?_
  refine q_get (C := RX10) (T := TX10) (N := 5) S0 hK hW.1 hinX10 0 rfl rfl 0 (by decide) (List.mem_of_getElem? (i := 4) rfl) rfl rfl dX10_leastToDefine_5 ?_
  refine q_cV (n := 1) (rest := []) (wr := [(ob, .inr (10, [.ref tx, .ref ps, .ref ho, .ref rk, va_rf so]))]) S0 hK hA hW (c_X4_firstError l g ps b k1 k2 k3 k4 k5 k6 s1 i1 s2 i2 tx tc S tn tf (hB) (ht) (htf)) gX10_leastToDefine_X4_firstError rfl rfl rfl (by decide +kernel) ⟨Nat.le_of_ble_eq_true rfl, Nat.le_of_ble_eq_true rfl⟩ [3, 4, 5, 6, 7, 8, 9, 10, 11, 12, 13, 14, 1, 2] [0] rfl rfl rfl rfl (by decide) (q_recv hK hW.1 (ci := 4) (q0 := 3) rfl rfl) (fun _ _ => trivial) (trivial) rfl rfl hl.1 (Nat.le_of_ble_eq_true rfl) ⟨Nat.le_of_ble_eq_true rfl, Nat.le_of_ble_eq_true rfl⟩ dX10_leastToDefine_8 (fun _ H locs _ hW => ?_)
  have hW : gW g A s.heap H _ [(ob, .inr (10, [.ref tx, .ref ps, .ref ho, .ref rk, va_rf so])), (ps, .inr (4, [.ref b, .int (iI (pA ((fe (pB S) tf tn).1))), .int (iI (pO ((fe (pB S) tf tn).1))), .int (iI (pM ((fe (pB S) tf tn).1)))])), (b, .inr (0, [.ref k1, .ref k2, .ref k3, .ref k4, .ref k5, .ref k6, .int (iI (bN (pB ((fe (pB S) tf tn).1)))), .int (iI (bZ (pB ((fe (pB S) tf tn).1)))), .ref s1, .ref s2])), (k1, gI g 40 (bK (pB ((fe (pB S) tf tn).1)))), (k2, gI g 40 (bU (pB ((fe (pB S) tf tn).1)))), (k3, gI g 40 (bL (pB ((fe (pB S) tf tn).1)))), (k4, gI g 40 (bV (pB ((fe (pB S) tf tn).1)))), (k5, gI g 40 (bD (pB ((fe (pB S) tf tn).1)))), (k6, gI g 40 (bE (pB ((fe (pB S) tf tn).1)))), (s1, .inr (3, [.ref i1, .int (iI (lP (pB ((fe (pB S) tf tn).1))))])), (i1, gI g 40 (lQ (pB ((fe (pB S) tf tn).1)))), (s2, .inr (3, [.ref i2, .int (iI (wP (pB ((fe (pB S) tf tn).1))))])), (i2, gI g 40 (wQ (pB ((fe (pB S) tf tn).1)))), (tx, .inr (9, [.ref tc, .int (iI tn)])), (tc, gC g 40 tf)] := hW
  refine W.eq (g2 := F0 m 11 ls [.int (iI ((fe (pB S) tf tn).2))]) rfl ?_
  refine q_iconst S0 dX10_leastToDefine_11 ?_
  refine q_icmp_eq (tgt := 25) S0 (by have q := fe_rng hB ht htf; omega) dX10_leastToDefine_12 (by decide) (fun c12 => ?_) (fun c12 => ?_)
  · skip
    exact absurd c12 hv
  · skip
    exact q_throw (u := ()) S0 hl0 hlocks hxt hE (hW.sub [0, 13, 14, 1, 2, 3, 4, 5, 6, 7, 8, 9, 10, 11, 12] rfl (rfl)) trivial 0 rfl (by decide +kernel) (List.mem_of_getElem? (i := 1) rfl) (List.mem_of_getElem? (i := 2) rfl) (fun z hz => List.mem_cons_of_mem _ (List.mem_append_right _ hz)) tb_53 tg_53 hl.1 dX10_leastToDefine_15 dX10_leastToDefine_18 dX10_leastToDefine_19 dX10_leastToDefine_21 dX10_leastToDefine_24 ⟨Nat.le_of_ble_eq_true rfl, Nat.le_of_ble_eq_true rfl, Nat.le_of_ble_eq_true rfl, Nat.le_of_ble_eq_true rfl⟩ (Nat.le_of_ble_eq_true rfl) (Nat.le_of_ble_eq_true rfl)
set_option maxHeartbeats 4000000 in
set_option maxRecDepth 100000 in
theorem c_X10_define_t2 (l : Launch) (hl0 : l.stackTraces = false) (g : GG) (ob tx ps ho : Nat) (so : Option Nat) (rk : Nat) (tc : Nat) (tn : Int) (tf : Nat → Int) (b k1 k2 k3 k4 k5 k6 s1 i1 s2 i2 : Nat) (S : PT) (u : Int) (hB : WFB (pB S)) (ht : 0 ≤ tn ∧ tn ≤ 40) (htf : ∀ j, 0 ≤ tf j ∧ tf j < 65536) (hu : 0 ≤ u ∧ u < 4) (hv : ¬ (fe (pB S) tf tn).2 = -1) : qThr l yX10_define wsX10_define ({ frames := 7, cells := 1, slots := 6, locals := 172 }) g [.ref ob, .int (iI u)] [(ob, .inr (10, [.ref tx, .ref ps, .ref ho, .ref rk, va_rf so])), (tx, .inr (9, [.ref tc, .int (iI tn)])), (tc, gC g 40 tf), (ps, .inr (4, [.ref b, .int (iI (pA S)), .int (iI (pO S)), .int (iI (pM S))])), (b, .inr (0, [.ref k1, .ref k2, .ref k3, .ref k4, .ref k5, .ref k6, .int (iI (bN (pB S))), .int (iI (bZ (pB S))), .ref s1, .ref s2])), (k1, gI g 40 (bK (pB S))), (k2, gI g 40 (bU (pB S))), (k3, gI g 40 (bL (pB S))), (k4, gI g 40 (bV (pB S))), (k5, gI g 40 (bD (pB S))), (k6, gI g 40 (bE (pB S))), (s1, .inr (3, [.ref i1, .int (iI (lP (pB S)))])), (i1, gI g 40 (lQ (pB S))), (s2, .inr (3, [.ref i2, .int (iI (wP (pB S)))])), (i2, gI g 40 (wQ (pB S)))] (fun _ => True) (fun _ => True) exS (S := Unit) (fun _ => [(ob, .inr (10, [.ref tx, .ref ps, .ref ho, .ref rk, va_rf so])), (tx, .inr (9, [.ref tc, .int (iI tn)])), (tc, gC g 40 tf), (ps, .inr (4, [.ref b, .int (iI (pA ((fe (pB S) tf tn).1))), .int (iI (pO ((fe (pB S) tf tn).1))), .int (iI (pM ((fe (pB S) tf tn).1)))])), (b, .inr (0, [.ref k1, .ref k2, .ref k3, .ref k4, .ref k5, .ref k6, .int (iI (bN (pB ((fe (pB S) tf tn).1)))), .int (iI (bZ (pB ((fe (pB S) tf tn).1)))), .ref s1, .ref s2])), (k1, gI g 40 (bK (pB ((fe (pB S) tf tn).1)))), (k2, gI g 40 (bU (pB ((fe (pB S) tf tn).1)))), (k3, gI g 40 (bL (pB ((fe (pB S) tf tn).1)))), (k4, gI g 40 (bV (pB ((fe (pB S) tf tn).1)))), (k5, gI g 40 (bD (pB ((fe (pB S) tf tn).1)))), (k6, gI g 40 (bE (pB ((fe (pB S) tf tn).1)))), (s1, .inr (3, [.ref i1, .int (iI (lP (pB ((fe (pB S) tf tn).1))))])), (i1, gI g 40 (lQ (pB ((fe (pB S) tf tn).1)))), (s2, .inr (3, [.ref i2, .int (iI (wP (pB ((fe (pB S) tf tn).1))))])), (i2, gI g 40 (wQ (pB ((fe (pB S) tf tn).1))))]) (fun _ => True) 1 6 := by
  refine q_ofT (cc := cX10_define) (maxL := 3) (ret := (some .int)) (fun sz h => h.self) (by decide) rfl (Nat.le_of_ble_eq_true rfl) ?_
  intro p e s m args below meth c A ls S0 hlocks hxt hK hE hA hAe hW hD0 hX hl
  have hW : gW g A s.heap s.heap [] [(ob, .inr (10, [.ref tx, .ref ps, .ref ho, .ref rk, va_rf so])), (tx, .inr (9, [.ref tc, .int (iI tn)])), (tc, gC g 40 tf), (ps, .inr (4, [.ref b, .int (iI (pA S)), .int (iI (pO S)), .int (iI (pM S))])), (b, .inr (0, [.ref k1, .ref k2, .ref k3, .ref k4, .ref k5, .ref k6, .int (iI (bN (pB S))), .int (iI (bZ (pB S))), .ref s1, .ref s2])), (k1, gI g 40 (bK (pB S))), (k2, gI g 40 (bU (pB S))), (k3, gI g 40 (bL (pB S))), (k4, gI g 40 (bV (pB S))), (k5, gI g 40 (bD (pB S))), (k6, gI g 40 (bE (pB S))), (s1, .inr (3, [.ref i1, .int (iI (lP (pB S)))])), (i1, gI g 40 (lQ (pB S))), (s2, .inr (3, [.ref i2, .int (iI (wP (pB S)))])), (i2, gI g 40 (wQ (pB S)))] := hW
  have hl : lv_has ls 3 [(0, .ref ob), (1, .int (iI u))] := hl
  have hinX10 : ∀ w ∈ wsX100, w ∈ wsX10_define := fun w h => List.mem_cons_of_mem _ (List.mem_append_left _ (List.mem_append_left _ (List.mem_append_left _ (List.mem_append_left _ (List.mem_append_left _ (List.mem_append_left _ (List.mem_append_left _ (List.mem_append_left _ (List.mem_append_left _ (List.mem_append_left _ (List.mem_append_left _ (List.mem_append_right _ h))))))))))))
  refine lv_aload_n S0.1 S0.2.1 dX10_define_0 rfl (lv_at hl 0 rfl) ?_
  refine lv_iload_n S0.1 S0.2.1 dX10_define_1 rfl (lv_at hl 1 rfl) ?_
  refine q_pV (n := 1) (rest := []) S0 hK (c_X10_requireFunction l g ob tx ps ho rk so u (hu)) (subP hW.1 [0] rfl) (trivial) gX10_define_X10_requireFunction rfl rfl rfl (by decide +kernel) ⟨Nat.le_of_ble_eq_true rfl, Nat.le_of_ble_eq_true rfl⟩ (q_recv hK hW.1 (ci := 10) (q0 := 0) rfl rfl) rfl rfl hl.1 (Nat.le_of_ble_eq_true rfl) ⟨Nat.le_of_ble_eq_true rfl, Nat.le_of_ble_eq_true rfl⟩ dX10_define_2 ?_
  refine W.eq (g2 := F0 m 5 ls []) rfl ?_
  refine lv_aload_n S0.1 S0.2.1 dX10_define_5 rfl (lv_at hl 0 rfl) ?_
  refine q_get (C := RX10) (T := TX10) (N := 5) S0 hK hW.1 hinX10 0 rfl rfl 1 (by decide) (List.mem_of_getElem? (i := 3) rfl) rfl rfl dX10_define_6 ?_
  refine lv_aload_n S0.1 S0.2.1 dX10_define_9 rfl (lv_at hl 0 rfl) ?_
  refine q_get (C := RX10) (T := TX10) (N := 5) S0 hK hW.1 hinX10 0 rfl rfl 0 (by decide) (List.mem_of_getElem? (i := 4) rfl) rfl rfl dX10_define_10 ?_
  refine q_cV (n := 1) (rest := []) (wr := [(ob, .inr (10, [.ref tx, .ref ps, .ref ho, .ref rk, va_rf so]))]) S0 hK hA hW (c_X4_firstError l g ps b k1 k2 k3 k4 k5 k6 s1 i1 s2 i2 tx tc S tn tf (hB) (ht) (htf)) gX10_define_X4_firstError rfl rfl rfl (by decide +kernel) ⟨Nat.le_of_ble_eq_true rfl, Nat.le_of_ble_eq_true rfl⟩ [3, 4, 5, 6, 7, 8, 9, 10, 11, 12, 13, 14, 1, 2] [0] rfl rfl rfl rfl (by decide) (q_recv hK hW.1 (ci := 4) (q0 := 3) rfl rfl) (fun _ _ => trivial) (trivial) rfl rfl hl.1 (Nat.le_of_ble_eq_true rfl) ⟨Nat.le_of_ble_eq_true rfl, Nat.le_of_ble_eq_true rfl⟩ dX10_define_13 (fun _ H locs _ hW => ?_)
  have hW : gW g A s.heap H _ [(ob, .inr (10, [.ref tx, .ref ps, .ref ho, .ref rk, va_rf so])), (ps, .inr (4, [.ref b, .int (iI (pA ((fe (pB S) tf tn).1))), .int (iI (pO ((fe (pB S) tf tn).1))), .int (iI (pM ((fe (pB S) tf tn).1)))])), (b, .inr (0, [.ref k1, .ref k2, .ref k3, .ref k4, .ref k5, .ref k6, .int (iI (bN (pB ((fe (pB S) tf tn).1)))), .int (iI (bZ (pB ((fe (pB S) tf tn).1)))), .ref s1, .ref s2])), (k1, gI g 40 (bK (pB ((fe (pB S) tf tn).1)))), (k2, gI g 40 (bU (pB ((fe (pB S) tf tn).1)))), (k3, gI g 40 (bL (pB ((fe (pB S) tf tn).1)))), (k4, gI g 40 (bV (pB ((fe (pB S) tf tn).1)))), (k5, gI g 40 (bD (pB ((fe (pB S) tf tn).1)))), (k6, gI g 40 (bE (pB ((fe (pB S) tf tn).1)))), (s1, .inr (3, [.ref i1, .int (iI (lP (pB ((fe (pB S) tf tn).1))))])), (i1, gI g 40 (lQ (pB ((fe (pB S) tf tn).1)))), (s2, .inr (3, [.ref i2, .int (iI (wP (pB ((fe (pB S) tf tn).1))))])), (i2, gI g 40 (wQ (pB ((fe (pB S) tf tn).1)))), (tx, .inr (9, [.ref tc, .int (iI tn)])), (tc, gC g 40 tf)] := hW
  refine W.eq (g2 := F0 m 16 ls [.int (iI ((fe (pB S) tf tn).2))]) rfl ?_
  refine q_iconst S0 dX10_define_16 ?_
  refine q_icmp_eq (tgt := 30) S0 (by have q := fe_rng hB ht htf; omega) dX10_define_17 (by decide) (fun c17 => ?_) (fun c17 => ?_)
  · skip
    exact absurd c17 hv
  · skip
    exact q_throw (u := ()) S0 hl0 hlocks hxt hE (hW.sub [0, 13, 14, 1, 2, 3, 4, 5, 6, 7, 8, 9, 10, 11, 12] rfl (rfl)) trivial 0 rfl (by decide +kernel) (List.mem_of_getElem? (i := 1) rfl) (List.mem_of_getElem? (i := 2) rfl) (fun z hz => List.mem_cons_of_mem _ (List.mem_append_left _ (List.mem_append_right _ hz))) tb_53 tg_53 hl.1 dX10_define_20 dX10_define_23 dX10_define_24 dX10_define_26 dX10_define_29 ⟨Nat.le_of_ble_eq_true rfl, Nat.le_of_ble_eq_true rfl, Nat.le_of_ble_eq_true rfl, Nat.le_of_ble_eq_true rfl⟩ (Nat.le_of_ble_eq_true rfl) (Nat.le_of_ble_eq_true rfl)
set_option maxHeartbeats 4000000 in
set_option maxRecDepth 100000 in
theorem c_X10_define_t3 (l : Launch) (hl0 : l.stackTraces = false) (g : GG) (ob tx ps ho : Nat) (so : Option Nat) (rk : Nat) (tc : Nat) (tn : Int) (tf : Nat → Int) (b k1 k2 k3 k4 k5 k6 s1 i1 s2 i2 : Nat) (S : PT) (u : Int) (hB : WFB (pB S)) (ht : 0 ≤ tn ∧ tn ≤ 40) (htf : ∀ j, 0 ≤ tf j ∧ tf j < 65536) (hu : 0 ≤ u ∧ u < 4) (hv : (fe (pB S) tf tn).2 = -1) (hl : u < bZ (pB (fe (pB S) tf tn).1)) : qThr l yX10_define wsX10_define ({ frames := 7, cells := 1, slots := 6, locals := 172 }) g [.ref ob, .int (iI u)] [(ob, .inr (10, [.ref tx, .ref ps, .ref ho, .ref rk, va_rf so])), (tx, .inr (9, [.ref tc, .int (iI tn)])), (tc, gC g 40 tf), (ps, .inr (4, [.ref b, .int (iI (pA S)), .int (iI (pO S)), .int (iI (pM S))])), (b, .inr (0, [.ref k1, .ref k2, .ref k3, .ref k4, .ref k5, .ref k6, .int (iI (bN (pB S))), .int (iI (bZ (pB S))), .ref s1, .ref s2])), (k1, gI g 40 (bK (pB S))), (k2, gI g 40 (bU (pB S))), (k3, gI g 40 (bL (pB S))), (k4, gI g 40 (bV (pB S))), (k5, gI g 40 (bD (pB S))), (k6, gI g 40 (bE (pB S))), (s1, .inr (3, [.ref i1, .int (iI (lP (pB S)))])), (i1, gI g 40 (lQ (pB S))), (s2, .inr (3, [.ref i2, .int (iI (wP (pB S)))])), (i2, gI g 40 (wQ (pB S)))] (fun _ => True) (fun _ => True) exS (S := Unit) (fun _ => [(ob, .inr (10, [.ref tx, .ref ps, .ref ho, .ref rk, va_rf so])), (tx, .inr (9, [.ref tc, .int (iI tn)])), (tc, gC g 40 tf), (ps, .inr (4, [.ref b, .int (iI (pA ((fe (pB S) tf tn).1))), .int (iI (pO ((fe (pB S) tf tn).1))), .int (iI (pM ((fe (pB S) tf tn).1)))])), (b, .inr (0, [.ref k1, .ref k2, .ref k3, .ref k4, .ref k5, .ref k6, .int (iI (bN (pB ((fe (pB S) tf tn).1)))), .int (iI (bZ (pB ((fe (pB S) tf tn).1)))), .ref s1, .ref s2])), (k1, gI g 40 (bK (pB ((fe (pB S) tf tn).1)))), (k2, gI g 40 (bU (pB ((fe (pB S) tf tn).1)))), (k3, gI g 40 (bL (pB ((fe (pB S) tf tn).1)))), (k4, gI g 40 (bV (pB ((fe (pB S) tf tn).1)))), (k5, gI g 40 (bD (pB ((fe (pB S) tf tn).1)))), (k6, gI g 40 (bE (pB ((fe (pB S) tf tn).1)))), (s1, .inr (3, [.ref i1, .int (iI (lP (pB ((fe (pB S) tf tn).1))))])), (i1, gI g 40 (lQ (pB ((fe (pB S) tf tn).1)))), (s2, .inr (3, [.ref i2, .int (iI (wP (pB ((fe (pB S) tf tn).1))))])), (i2, gI g 40 (wQ (pB ((fe (pB S) tf tn).1))))]) (fun _ => True) 1 6 := by
  refine q_ofT (cc := cX10_define) (maxL := 3) (ret := (some .int)) (fun sz h => h.self) (by decide) rfl (Nat.le_of_ble_eq_true rfl) ?_
  intro p e s m args below meth c A ls S0 hlocks hxt hK hE hA hAe hW hD0 hX hl
  have hW : gW g A s.heap s.heap [] [(ob, .inr (10, [.ref tx, .ref ps, .ref ho, .ref rk, va_rf so])), (tx, .inr (9, [.ref tc, .int (iI tn)])), (tc, gC g 40 tf), (ps, .inr (4, [.ref b, .int (iI (pA S)), .int (iI (pO S)), .int (iI (pM S))])), (b, .inr (0, [.ref k1, .ref k2, .ref k3, .ref k4, .ref k5, .ref k6, .int (iI (bN (pB S))), .int (iI (bZ (pB S))), .ref s1, .ref s2])), (k1, gI g 40 (bK (pB S))), (k2, gI g 40 (bU (pB S))), (k3, gI g 40 (bL (pB S))), (k4, gI g 40 (bV (pB S))), (k5, gI g 40 (bD (pB S))), (k6, gI g 40 (bE (pB S))), (s1, .inr (3, [.ref i1, .int (iI (lP (pB S)))])), (i1, gI g 40 (lQ (pB S))), (s2, .inr (3, [.ref i2, .int (iI (wP (pB S)))])), (i2, gI g 40 (wQ (pB S)))] := hW
  have hl : lv_has ls 3 [(0, .ref ob), (1, .int (iI u))] := hl
  have hinX10 : ∀ w ∈ wsX100, w ∈ wsX10_define := fun w h => List.mem_cons_of_mem _ (List.mem_append_left _ (List.mem_append_left _ (List.mem_append_left _ (List.mem_append_left _ (List.mem_append_left _ (List.mem_append_left _ (List.mem_append_left _ (List.mem_append_left _ (List.mem_append_left _ (List.mem_append_left _ (List.mem_append_left _ (List.mem_append_right _ h))))))))))))
  have hw := WF_fe hB ht htf
  have hw1 := hw.1
  refine lv_aload_n S0.1 S0.2.1 dX10_define_0 rfl (lv_at hl 0 rfl) ?_
  refine lv_iload_n S0.1 S0.2.1 dX10_define_1 rfl (lv_at hl 1 rfl) ?_
  refine q_pV (n := 1) (rest := []) S0 hK (c_X10_requireFunction l g ob tx ps ho rk so u (hu)) (subP hW.1 [0] rfl) (trivial) gX10_define_X10_requireFunction rfl rfl rfl (by decide +kernel) ⟨Nat.le_of_ble_eq_true rfl, Nat.le_of_ble_eq_true rfl⟩ (q_recv hK hW.1 (ci := 10) (q0 := 0) rfl rfl) rfl rfl hl.1 (Nat.le_of_ble_eq_true rfl) ⟨Nat.le_of_ble_eq_true rfl, Nat.le_of_ble_eq_true rfl⟩ dX10_define_2 ?_
  refine W.eq (g2 := F0 m 5 ls []) rfl ?_
  refine lv_aload_n S0.1 S0.2.1 dX10_define_5 rfl (lv_at hl 0 rfl) ?_
  refine q_get (C := RX10) (T := TX10) (N := 5) S0 hK hW.1 hinX10 0 rfl rfl 1 (by decide) (List.mem_of_getElem? (i := 3) rfl) rfl rfl dX10_define_6 ?_
  refine lv_aload_n S0.1 S0.2.1 dX10_define_9 rfl (lv_at hl 0 rfl) ?_
  refine q_get (C := RX10) (T := TX10) (N := 5) S0 hK hW.1 hinX10 0 rfl rfl 0 (by decide) (List.mem_of_getElem? (i := 4) rfl) rfl rfl dX10_define_10 ?_
  refine q_cV (n := 1) (rest := []) (wr := [(ob, .inr (10, [.ref tx, .ref ps, .ref ho, .ref rk, va_rf so]))]) S0 hK hA hW (c_X4_firstError l g ps b k1 k2 k3 k4 k5 k6 s1 i1 s2 i2 tx tc S tn tf (hB) (ht) (htf)) gX10_define_X4_firstError rfl rfl rfl (by decide +kernel) ⟨Nat.le_of_ble_eq_true rfl, Nat.le_of_ble_eq_true rfl⟩ [3, 4, 5, 6, 7, 8, 9, 10, 11, 12, 13, 14, 1, 2] [0] rfl rfl rfl rfl (by decide) (q_recv hK hW.1 (ci := 4) (q0 := 3) rfl rfl) (fun _ _ => trivial) (trivial) rfl rfl hl.1 (Nat.le_of_ble_eq_true rfl) ⟨Nat.le_of_ble_eq_true rfl, Nat.le_of_ble_eq_true rfl⟩ dX10_define_13 (fun _ H locs _ hW => ?_)
  have hW : gW g A s.heap H _ [(ob, .inr (10, [.ref tx, .ref ps, .ref ho, .ref rk, va_rf so])), (ps, .inr (4, [.ref b, .int (iI (pA ((fe (pB S) tf tn).1))), .int (iI (pO ((fe (pB S) tf tn).1))), .int (iI (pM ((fe (pB S) tf tn).1)))])), (b, .inr (0, [.ref k1, .ref k2, .ref k3, .ref k4, .ref k5, .ref k6, .int (iI (bN (pB ((fe (pB S) tf tn).1)))), .int (iI (bZ (pB ((fe (pB S) tf tn).1)))), .ref s1, .ref s2])), (k1, gI g 40 (bK (pB ((fe (pB S) tf tn).1)))), (k2, gI g 40 (bU (pB ((fe (pB S) tf tn).1)))), (k3, gI g 40 (bL (pB ((fe (pB S) tf tn).1)))), (k4, gI g 40 (bV (pB ((fe (pB S) tf tn).1)))), (k5, gI g 40 (bD (pB ((fe (pB S) tf tn).1)))), (k6, gI g 40 (bE (pB ((fe (pB S) tf tn).1)))), (s1, .inr (3, [.ref i1, .int (iI (lP (pB ((fe (pB S) tf tn).1))))])), (i1, gI g 40 (lQ (pB ((fe (pB S) tf tn).1)))), (s2, .inr (3, [.ref i2, .int (iI (wP (pB ((fe (pB S) tf tn).1))))])), (i2, gI g 40 (wQ (pB ((fe (pB S) tf tn).1)))), (tx, .inr (9, [.ref tc, .int (iI tn)])), (tc, gC g 40 tf)] := hW
  refine W.eq (g2 := F0 m 16 ls [.int (iI ((fe (pB S) tf tn).2))]) rfl ?_
  refine q_topI (b := (-1)) (hv) ?_
  refine q_iconst S0 dX10_define_16 ?_
  refine q_icmp_eq (tgt := 30) S0 (by omega) dX10_define_17 (by decide) (fun c17 => ?_) (fun c17 => ?_)
  · skip
    refine lv_aload_n S0.1 S0.2.1 dX10_define_30 rfl (lv_at hl 0 rfl) ?_
    refine q_get (C := RX10) (T := TX10) (N := 5) S0 hK hW.1 hinX10 0 rfl rfl 1 (by decide) (List.mem_of_getElem? (i := 3) rfl) rfl rfl dX10_define_31 ?_
    refine q_pV (n := 0) (rest := []) S0 hK (c_X4_leastDefinable l g ps b k1 k2 k3 k4 k5 k6 s1 s2 ((fe (pB S) tf tn).1)) (subP hW.1 [1, 2] rfl) (trivial) gX10_define_X4_leastDefinable rfl rfl rfl (by decide +kernel) ⟨Nat.le_of_ble_eq_true rfl, Nat.le_of_ble_eq_true rfl⟩ (q_recv hK hW.1 (ci := 4) (q0 := 1) rfl rfl) rfl rfl hl.1 (Nat.le_of_ble_eq_true rfl) ⟨Nat.le_of_ble_eq_true rfl, Nat.le_of_ble_eq_true rfl⟩ dX10_define_34 ?_
    refine W.eq (g2 := F0 m 37 ls [.int (iI (bZ (pB ((fe (pB S) tf tn).1))))]) rfl ?_
    refine lv_iload_n S0.1 S0.2.1 dX10_define_37 rfl (lv_at hl 1 rfl) ?_
    refine q_icmp_le (tgt := 51) S0 (by omega) dX10_define_38 (by decide) (fun c38 => ?_) (fun c38 => ?_)
    · skip
      exact absurd c38 (by omega)
    · skip
      exact q_throw (u := ()) S0 hl0 hlocks hxt hE (hW.sub [0, 13, 14, 1, 2, 3, 4, 5, 6, 7, 8, 9, 10, 11, 12] rfl (rfl)) trivial 1 rfl (by decide +kernel) (List.mem_of_getElem? (i := 1) rfl) (List.mem_of_getElem? (i := 2) rfl) (fun z hz => List.mem_cons_of_mem _ (List.mem_append_left _ (List.mem_append_right _ hz))) tb_53 tg_53 hl.1 dX10_define_41 dX10_define_44 dX10_define_45 dX10_define_47 dX10_define_50 ⟨Nat.le_of_ble_eq_true rfl, Nat.le_of_ble_eq_true rfl, Nat.le_of_ble_eq_true rfl, Nat.le_of_ble_eq_true rfl⟩ (Nat.le_of_ble_eq_true rfl) (Nat.le_of_ble_eq_true rfl)
  · skip
    exact absurd c17 (by omega)
set_option maxHeartbeats 4000000 in
set_option maxRecDepth 100000 in
theorem c_X10_undo_t1 (l : Launch) (hl0 : l.stackTraces = false) (g : GG) (ob tx ps ho : Nat) (so : Option Nat) (rk ha : Nat) (n : Int) (f : Nat → Option Nat) (hn : n = 0) : qThr l yX10_undo wsX10_undo ({ frames := 6, cells := 1, slots := 6, locals := 100 }) g [.ref ob] [(ob, .inr (10, [.ref tx, .ref ps, .ref ho, .ref rk, va_rf so])), (ho, .inr (2, [.ref ha, .int (iI n)])), (ha, gR g 4 f)] (fun _ => True) (fun _ => True) exS (S := Unit) (fun _ => [(ob, .inr (10, [.ref tx, .ref ps, .ref ho, .ref rk, va_rf so])), (ho, .inr (2, [.ref ha, .int (iI n)])), (ha, gR g 4 f)]) (fun _ => True) 1 6 := by
  refine q_ofT (cc := cX10_undo) (maxL := 2) (ret := (some .int)) (fun sz h => h.self) (by decide) rfl (Nat.le_of_ble_eq_true rfl) ?_
  intro p e s m args below meth c A ls S0 hlocks hxt hK hE hA hAe hW hD0 hX hl
  have hW : gW g A s.heap s.heap [] [(ob, .inr (10, [.ref tx, .ref ps, .ref ho, .ref rk, va_rf so])), (ho, .inr (2, [.ref ha, .int (iI n)])), (ha, gR g 4 f)] := hW
  have hl : lv_has ls 2 [(0, .ref ob)] := hl
  have hinX10 : ∀ w ∈ wsX100, w ∈ wsX10_undo := fun w h => List.mem_cons_of_mem _ (List.mem_append_left _ (List.mem_append_left _ (List.mem_append_left _ (List.mem_append_left _ (List.mem_append_right _ h)))))
  refine lv_aload_n S0.1 S0.2.1 dX10_undo_0 rfl (lv_at hl 0 rfl) ?_
  refine q_get (C := RX10) (T := TX10) (N := 5) S0 hK hW.1 hinX10 0 rfl rfl 2 (by decide) (List.mem_of_getElem? (i := 3) rfl) rfl rfl dX10_undo_1 ?_
  refine q_pV (n := 0) (rest := []) S0 hK (c_X2_takeBack0 l g ho ha n f (hn)) (subP hW.1 [1, 2] rfl) (trivial) gX10_undo_X2_takeBack rfl rfl rfl (by decide +kernel) ⟨Nat.le_of_ble_eq_true rfl, Nat.le_of_ble_eq_true rfl⟩ (q_recv hK hW.1 (ci := 2) (q0 := 1) rfl rfl) rfl rfl hl.1 (Nat.le_of_ble_eq_true rfl) ⟨Nat.le_of_ble_eq_true rfl, Nat.le_of_ble_eq_true rfl⟩ dX10_undo_4 ?_
  refine W.eq (g2 := F0 m 7 ls [.null]) rfl ?_
  refine lv_astore_nN (lv' := [(1, .null), (0, .ref ob)]) S0.1 S0.2.1 dX10_undo_7 rfl hl (by decide) rfl (fun ls hl => ?_)
  refine lv_aload_nN S0.1 S0.2.1 dX10_undo_8 rfl (lv_at hl 0 rfl) ?_
  refine lv_ifnonnullN S0.1 S0.2.1 dX10_undo_9 ?_
  exact q_throw (u := ()) S0 hl0 hlocks hxt hE (hW.sub [0, 1, 2] rfl (rfl)) trivial 5 rfl (by decide +kernel) (List.mem_of_getElem? (i := 1) rfl) (List.mem_of_getElem? (i := 2) rfl) (fun z hz => List.mem_cons_of_mem _ (List.mem_append_right _ hz)) tb_53 tg_53 hl.1 dX10_undo_12 dX10_undo_15 dX10_undo_16 dX10_undo_18 dX10_undo_21 ⟨Nat.le_of_ble_eq_true rfl, Nat.le_of_ble_eq_true rfl, Nat.le_of_ble_eq_true rfl, Nat.le_of_ble_eq_true rfl⟩ (Nat.le_of_ble_eq_true rfl) (Nat.le_of_ble_eq_true rfl)
set_option maxHeartbeats 4000000 in
set_option maxRecDepth 100000 in
theorem c_X10_restoreSnapshot_t1 (l : Launch) (hl0 : l.stackTraces = false) (g : GG) (ob tx ps ho rk : Nat) : qThr l yX10_restoreSnapshot wsX10_restoreSnapshot ({ frames := 6, cells := 1, slots := 6, locals := 100 }) g [.ref ob] [(ob, .inr (10, [.ref tx, .ref ps, .ref ho, .ref rk, .null]))] (fun _ => True) (fun _ => True) exS (S := Unit) (fun _ => [(ob, .inr (10, [.ref tx, .ref ps, .ref ho, .ref rk, .null]))]) (fun _ => True) 1 6 := by
  refine q_ofT (cc := cX10_restoreSnapshot) (maxL := 1) (ret := (some .int)) (fun sz h => h.self) (by decide) rfl (Nat.le_of_ble_eq_true rfl) ?_
  intro p e s m args below meth c A ls S0 hlocks hxt hK hE hA hAe hW hD0 hX hl
  have hW : gW g A s.heap s.heap [] [(ob, .inr (10, [.ref tx, .ref ps, .ref ho, .ref rk, .null]))] := hW
  have hl : lv_has ls 1 [(0, .ref ob)] := hl
  have hinX10 : ∀ w ∈ wsX100, w ∈ wsX10_restoreSnapshot := fun w h => List.mem_cons_of_mem _ (List.mem_append_left _ (List.mem_append_left _ (List.mem_append_left _ (List.mem_append_left _ (List.mem_append_left _ (List.mem_append_left _ (List.mem_append_right _ h)))))))
  refine lv_aload_n S0.1 S0.2.1 dX10_restoreSnapshot_0 rfl (lv_at hl 0 rfl) ?_
  refine q_get (C := RX10) (T := TX10) (N := 5) S0 hK hW.1 hinX10 0 rfl rfl 4 (by decide) (List.mem_of_getElem? (i := 3) rfl) rfl rfl dX10_restoreSnapshot_1 ?_
  refine lv_ifnonnullN S0.1 S0.2.1 dX10_restoreSnapshot_4 ?_
  exact q_throw (u := ()) S0 hl0 hlocks hxt hE (hW.sub [0] rfl (rfl)) trivial 6 rfl (by decide +kernel) (List.mem_of_getElem? (i := 1) rfl) (List.mem_of_getElem? (i := 2) rfl) (fun z hz => List.mem_cons_of_mem _ (List.mem_append_right _ hz)) tb_53 tg_53 hl.1 dX10_restoreSnapshot_7 dX10_restoreSnapshot_10 dX10_restoreSnapshot_11 dX10_restoreSnapshot_13 dX10_restoreSnapshot_16 ⟨Nat.le_of_ble_eq_true rfl, Nat.le_of_ble_eq_true rfl, Nat.le_of_ble_eq_true rfl, Nat.le_of_ble_eq_true rfl⟩ (Nat.le_of_ble_eq_true rfl) (Nat.le_of_ble_eq_true rfl)
