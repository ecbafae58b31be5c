def dn3 (f : Nat → Option Nat) : Nat → Option Nat := fun j => if j < 3 then f (j + 1) else f j
def rec4 (n : Int) (f : Nat → Option Nat) (st : Nat) : Nat → Option Nat := if n < 4 then up f n.toNat (some st) else up (dn3 f) 3 (some st)
set_option maxHeartbeats 4000000 in
set_option maxRecDepth 100000 in
/-- forgetOldest: the three later ones go down -/
theorem c_X2_forgetOldest (l : Launch) (g : GG) (h q : Nat) (n : Int) (f : Nat → Option Nat) (Bs : Nat → Prop) (hf : ∀ k, k < 4 → ∃ v, f k = some v ∧ Bs v) : qMet l yX2_forgetOldest wsX2_forgetOldest ({ frames := 0, cells := 0, slots := 0, locals := 0 }) g [.ref h] [(h, .inr (2, [.ref q, .int (iI n)])), (q, gR g 4 f)] (fun q => ¬ Bs q) (fun H => ∀ v, Bs v → ∃ vs, va_P g.1 vwCl [(v, .inr (7, vs))] H) (S := Unit) (fun _ => none) (fun _ => [(h, .inr (2, [.ref q, .int (iI 3)])), (q, gR g 4 (dn3 f))]) (fun _ => True) 0 0 := by
  refine q_ofW (cc := cX2_forgetOldest) (maxL := 2) (ret := none) (fun sz h => h.self) (by decide) rfl (Nat.le_of_ble_eq_true rfl) ?_
  intro p e s m args below meth c A ls S0 hr hlocks hnme hK hA hAe hW hD0 hX hl
  have hW : gW g A s.heap s.heap [] [(h, .inr (2, [.ref q, .int (iI n)])), (q, gR g 4 f)] := hW
  have hl : lv_has ls 2 [(0, .ref h)] := hl
  have hinX2 : ∀ w ∈ wsX20, w ∈ wsX2_forgetOldest := fun w h => List.mem_cons_of_mem _ (List.mem_append_right _ h)
  have hO : ∀ q, A q → ¬ Bs q := by
    intro q hq hz
    rw [hAe] at hq
    rcases hq with ⟨k, e, hk⟩ | hq
    · exact hD0.2 k _ hk hz
    · obtain ⟨vs, hv⟩ := hX q hz
      exact absurd (va_P.lt9 hv (k := 0) rfl) (by omega)
  have hfz : ∀ (H : Heap) (locs : List Loc) (ws : va_W), gW g A s.heap H locs ws → ∀ v, Bs v → ∃ vs, va_P g.1 vwCl [(v, .inr (7, vs))] H := fun H locs ws h v hv => by
    obtain ⟨vs, hq⟩ := hX v hv
    refine ⟨vs, hq.kept (fun k q hk => ?_)⟩
    match k, hk with
    | 0, hk => cases hk; exact h.2.2.2.1 v (va_P.lt9 hq (k := 0) rfl) (fun z => hO v z hv)
    | k + 1, hk => simp at hk
  refine q_iconst S0 dX2_forgetOldest_0 ?_
  refine lv_istore_n (lv' := [(1, .int (iI 1)), (0, .ref h)]) S0.1 S0.2.1 dX2_forgetOldest_1 rfl hl (by decide) rfl (fun ls hl => ?_)
  refine q_loop (α := Int × (Nat → Option Nat)) (fun (z_ : Int × (Nat → Option Nat)) => match z_ with | (i, u) => (1 ≤ i ∧ i ≤ 4) ∧ u = (fun j : Nat => if ((j : Nat) : Int) + 1 < i then f (j + 1) else f j)) (fun (z_ : Int × (Nat → Option Nat)) => match z_ with | (i, u) => (4 - i).toNat) (fun (z_ : Int × (Nat → Option Nat)) => match z_ with | (i, u) => [(h, .inr (2, [.ref q, .int (iI n)])), (q, gR g 4 u)]) (fun (z_ : Int × (Nat → Option Nat)) => match z_ with | (i, u) => [(1, .int (iI i)), (0, .ref h)]) ?_ (1, f) (by refine ⟨by omega, ?_⟩; funext j; rw [if_neg (by omega)]) hW (lv_sub hl [0, 1] rfl)
  rintro ⟨i, u⟩ hinv IHl H locs ls hW hl
  try dsimp only at hinv
  have hW : gW g A s.heap H _ [(h, .inr (2, [.ref q, .int (iI n)])), (q, gR g 4 u)] := hW
  have hl : lv_has ls 2 [(1, .int (iI i)), (0, .ref h)] := hl
  obtain ⟨hi, hu⟩ := hinv
  refine lv_iload_n S0.1 S0.2.1 dX2_forgetOldest_2 rfl (lv_at hl 0 rfl) ?_
  refine lv_aload_n S0.1 S0.2.1 dX2_forgetOldest_3 rfl (lv_at hl 1 rfl) ?_
  refine q_get (C := RX2) (T := TX2) (N := 2) S0 hK hW.1 hinX2 0 rfl rfl 0 (by decide) (List.mem_of_getElem? (i := 1) rfl) rfl rfl dX2_forgetOldest_4 ?_
  refine q_rlen (z := 4) S0 hK hW.1 1 rfl rfl dX2_forgetOldest_7 ?_
  refine q_icmp_ge (tgt := 31) S0 (by omega) dX2_forgetOldest_8 (by decide) (fun c8 => ?_) (fun c8 => ?_)
  · skip
    refine lv_aload_n S0.1 S0.2.1 dX2_forgetOldest_31 rfl (lv_at hl 1 rfl) ?_
    refine lv_aload_n S0.1 S0.2.1 dX2_forgetOldest_32 rfl (lv_at hl 1 rfl) ?_
    refine q_get (C := RX2) (T := TX2) (N := 2) S0 hK hW.1 hinX2 0 rfl rfl 0 (by decide) (List.mem_of_getElem? (i := 1) rfl) rfl rfl dX2_forgetOldest_33 ?_
    refine q_rlen (z := 4) S0 hK hW.1 1 rfl rfl dX2_forgetOldest_36 ?_
    refine q_iconst S0 dX2_forgetOldest_37 ?_
    refine q_isub S0 dX2_forgetOldest_38 ?_
    refine q_put (C := RX2) (T := TX2) (N := 2) S0 hK hW hinX2 tyX2_ok nmX2 0 rfl rfl 1 (by decide) (List.mem_of_getElem? (i := 2) rfl) rfl rfl rfl rfl (Nat.le_of_ble_eq_true rfl) dX2_forgetOldest_39 (fun H locs hW => ?_)
    have hW : gW g A s.heap H _ [(h, .inr (2, [.ref q, .int (iI (4 - 1))])), (q, gR g 4 u)] := hW
    have hfin : u = dn3 f := by
      rw [hu]
      funext j
      unfold dn3
      by_cases e : j < 3
      · rw [if_pos e, if_pos (by omega)]
      · rw [if_neg e, if_neg (by omega)]
    subst hfin
    exact q_vret S0 hr hlocks () (trivial) rfl (hW.sub [0, 1] rfl (rfl)) (Nat.le_of_ble_eq_true rfl) (Nat.le_of_ble_eq_true rfl) dX2_forgetOldest_42
  · skip
    refine lv_aload_n S0.1 S0.2.1 dX2_forgetOldest_11 rfl (lv_at hl 1 rfl) ?_
    refine q_get (C := RX2) (T := TX2) (N := 2) S0 hK hW.1 hinX2 0 rfl rfl 0 (by decide) (List.mem_of_getElem? (i := 1) rfl) rfl rfl dX2_forgetOldest_12 ?_
    refine lv_iload_n S0.1 S0.2.1 dX2_forgetOldest_15 rfl (lv_at hl 0 rfl) ?_
    refine q_iconst S0 dX2_forgetOldest_16 ?_
    refine q_isub S0 dX2_forgetOldest_17 ?_
    refine lv_aload_n S0.1 S0.2.1 dX2_forgetOldest_18 rfl (lv_at hl 1 rfl) ?_
    refine q_get (C := RX2) (T := TX2) (N := 2) S0 hK hW.1 hinX2 0 rfl rfl 0 (by decide) (List.mem_of_getElem? (i := 1) rfl) rfl rfl dX2_forgetOldest_19 ?_
    refine lv_iload_n S0.1 S0.2.1 dX2_forgetOldest_22 rfl (lv_at hl 0 rfl) ?_
    obtain ⟨v9, ev9, hb9⟩ := hf i.toNat (by omega)
    refine q_aald S0 hK hW.1 1 rfl (by omega) dX2_forgetOldest_23 ?_
    refine q_top (w := .ref v9) (by rw [hu]; dsimp only; rw [if_neg (by omega), ev9]; rfl) ?_
    obtain ⟨vs9, hp9⟩ := hfz _ _ _ hW v9 hb9
    refine q_aast S0 hK hW 1 0 rfl (hp9) rfl (by omega) dX2_forgetOldest_24 (fun H locs hW => ?_)
    have hW : gW g A s.heap H _ [(h, .inr (2, [.ref q, .int (iI n)])), (q, gR g 4 (up u ((i - 1).toNat) (some v9)))] := hW
    refine q_iinc (lv' := [(1, .int (iI (i + 1))), (0, .ref h)]) S0 dX2_forgetOldest_25 hl (k := 0) rfl (by decide) rfl (fun ls hl => ?_)
    refine lv_goto (tgt := 2) S0.1 S0.2.1 dX2_forgetOldest_28 (by decide) ?_
    exact IHl (i + 1, up u (i - 1).toNat (some v9)) H locs ls (by refine ⟨by omega, ?_⟩; funext j; unfold up; rw [hu]; dsimp only; by_cases e : j = (i - 1).toNat; rw [if_pos e, if_pos (by omega), show j + 1 = i.toNat by omega, ev9]; rw [if_neg e]; by_cases e2 : (j : Int) + 1 < i; rw [if_pos e2, if_pos (by omega)]; rw [if_neg e2, if_neg (by omega)]) (by dsimp only; omega) hW (lv_sub hl [0, 1] rfl)
set_option maxHeartbeats 4000000 in
set_option maxRecDepth 100000 in
/-- record: behind the others, of which four are kept -/
theorem c_X2_record (l : Launch) (g : GG) (h q : Nat) (n : Int) (f : Nat → Option Nat) (Bs : Nat → Prop) (st : Nat) (hn : 0 ≤ n ∧ n ≤ 4) (hf : ∀ k : Nat, (k : Int) < n → ∃ v, f k = some v ∧ Bs v) (hs : Bs st) : qMet l yX2_record wsX2_record ({ frames := 1, cells := 0, slots := 0, locals := 21 }) g [.ref h, .ref st] [(h, .inr (2, [.ref q, .int (iI n)])), (q, gR g 4 f)] (fun q => ¬ Bs q) (fun H => ∀ v, Bs v → ∃ vs, va_P g.1 vwCl [(v, .inr (7, vs))] H) (S := Unit) (fun _ => none) (fun _ => [(h, .inr (2, [.ref q, .int (iI (if n < 4 then n + 1 else 4))])), (q, gR g 4 (rec4 n f st))]) (fun _ => True) 0 0 := by
  refine q_ofW (cc := cX2_record) (maxL := 2) (ret := none) (fun sz h => h.self) (by decide) rfl (Nat.le_of_ble_eq_true rfl) ?_
  intro p e s m args below meth c A ls S0 hr hlocks hnme hK hA hAe hW hD0 hX hl
  have hW : gW g A s.heap s.heap [] [(h, .inr (2, [.ref q, .int (iI n)])), (q, gR g 4 f)] := hW
  have hl : lv_has ls 2 [(0, .ref h), (1, .ref st)] := hl
  have hinX2 : ∀ w ∈ wsX20, w ∈ wsX2_record := fun w h => List.mem_cons_of_mem _ (List.mem_append_right _ h)
  have hO : ∀ q, A q → ¬ Bs q := by
    intro q hq hz
    rw [hAe] at hq
    rcases hq with ⟨k, e, hk⟩ | hq
    · exact hD0.2 k _ hk hz
    · obtain ⟨vs, hv⟩ := hX q hz
      exact absurd (va_P.lt9 hv (k := 0) rfl) (by omega)
  have hfz : ∀ (H : Heap) (locs : List Loc) (ws : va_W), gW g A s.heap H locs ws → ∀ v, Bs v → ∃ vs, va_P g.1 vwCl [(v, .inr (7, vs))] H := fun H locs ws h v hv => by
    obtain ⟨vs, hq⟩ := hX v hv
    refine ⟨vs, hq.kept (fun k q hk => ?_)⟩
    match k, hk with
    | 0, hk => cases hk; exact h.2.2.2.1 v (va_P.lt9 hq (k := 0) rfl) (fun z => hO v z hv)
    | k + 1, hk => simp at hk
  refine lv_aload_n S0.1 S0.2.1 dX2_record_0 rfl (lv_at hl 0 rfl) ?_
  refine q_get (C := RX2) (T := TX2) (N := 2) S0 hK hW.1 hinX2 0 rfl rfl 1 (by decide) (List.mem_of_getElem? (i := 1) rfl) rfl rfl dX2_record_1 ?_
  refine lv_aload_n S0.1 S0.2.1 dX2_record_4 rfl (lv_at hl 0 rfl) ?_
  refine q_get (C := RX2) (T := TX2) (N := 2) S0 hK hW.1 hinX2 0 rfl rfl 0 (by decide) (List.mem_of_getElem? (i := 2) rfl) rfl rfl dX2_record_5 ?_
  refine q_rlen (z := 4) S0 hK hW.1 1 rfl rfl dX2_record_8 ?_
  refine q_icmp_lt (tgt := 16) S0 (by omega) dX2_record_9 (by decide) (fun c9 => ?_) (fun c9 => ?_)
  · skip
    refine lv_aload_n S0.1 S0.2.1 dX2_record_16 rfl (lv_at hl 0 rfl) ?_
    refine q_get (C := RX2) (T := TX2) (N := 2) S0 hK hW.1 hinX2 0 rfl rfl 1 (by decide) (List.mem_of_getElem? (i := 1) rfl) rfl rfl dX2_record_17 ?_
    refine q_if_lt (tgt := 55) S0 (by omega) dX2_record_20 (by decide) (fun c20 => ?_) (fun c20 => ?_)
    · skip
      exact q_vret S0 hr hlocks () (trivial) rfl (hW.sub [0, 1] rfl (by unfold rec4; first | (rw [if_pos (by omega), if_pos (by omega)]; rfl) | (rw [if_neg (by omega), if_neg (by omega)]; rfl) | (exfalso; omega))) (Nat.le_of_ble_eq_true rfl) (Nat.le_of_ble_eq_true rfl) dX2_record_55
    · skip
      refine lv_aload_n S0.1 S0.2.1 dX2_record_23 rfl (lv_at hl 0 rfl) ?_
      refine q_get (C := RX2) (T := TX2) (N := 2) S0 hK hW.1 hinX2 0 rfl rfl 1 (by decide) (List.mem_of_getElem? (i := 1) rfl) rfl rfl dX2_record_24 ?_
      refine lv_aload_n S0.1 S0.2.1 dX2_record_27 rfl (lv_at hl 0 rfl) ?_
      refine q_get (C := RX2) (T := TX2) (N := 2) S0 hK hW.1 hinX2 0 rfl rfl 0 (by decide) (List.mem_of_getElem? (i := 2) rfl) rfl rfl dX2_record_28 ?_
      refine q_rlen (z := 4) S0 hK hW.1 1 rfl rfl dX2_record_31 ?_
      refine q_icmp_ge (tgt := 55) S0 (by omega) dX2_record_32 (by decide) (fun c32 => ?_) (fun c32 => ?_)
      · skip
        exact q_vret S0 hr hlocks () (trivial) rfl (hW.sub [0, 1] rfl (by unfold rec4; first | (rw [if_pos (by omega), if_pos (by omega)]; rfl) | (rw [if_neg (by omega), if_neg (by omega)]; rfl) | (exfalso; omega))) (Nat.le_of_ble_eq_true rfl) (Nat.le_of_ble_eq_true rfl) dX2_record_55
      · skip
        refine lv_aload_n S0.1 S0.2.1 dX2_record_35 rfl (lv_at hl 0 rfl) ?_
        refine q_get (C := RX2) (T := TX2) (N := 2) S0 hK hW.1 hinX2 0 rfl rfl 0 (by decide) (List.mem_of_getElem? (i := 2) rfl) rfl rfl dX2_record_36 ?_
        refine lv_aload_n S0.1 S0.2.1 dX2_record_39 rfl (lv_at hl 0 rfl) ?_
        refine q_get (C := RX2) (T := TX2) (N := 2) S0 hK hW.1 hinX2 0 rfl rfl 1 (by decide) (List.mem_of_getElem? (i := 1) rfl) rfl rfl dX2_record_40 ?_
        refine lv_aload_n S0.1 S0.2.1 dX2_record_43 rfl (lv_at hl 1 rfl) ?_
        obtain ⟨vs9, hp9⟩ := hfz _ _ _ hW st hs
        refine q_aast S0 hK hW 1 0 rfl (hp9) rfl (by omega) dX2_record_44 (fun H locs hW => ?_)
        have hW : gW g A s.heap H _ [(h, .inr (2, [.ref q, .int (iI n)])), (q, gR g 4 (up f ((n).toNat) (some st)))] := hW
        refine lv_aload_n S0.1 S0.2.1 dX2_record_45 rfl (lv_at hl 0 rfl) ?_
        refine lv_dup S0.1 S0.2.1 dX2_record_46 rfl ?_
        refine q_get (C := RX2) (T := TX2) (N := 2) S0 hK hW.1 hinX2 0 rfl rfl 1 (by decide) (List.mem_of_getElem? (i := 1) rfl) rfl rfl dX2_record_47 ?_
        refine q_iconst S0 dX2_record_50 ?_
        refine q_iadd S0 dX2_record_51 ?_
        refine q_put (C := RX2) (T := TX2) (N := 2) S0 hK hW hinX2 tyX2_ok nmX2 0 rfl rfl 1 (by decide) (List.mem_of_getElem? (i := 1) rfl) rfl rfl rfl rfl (Nat.le_of_ble_eq_true rfl) dX2_record_52 (fun H locs hW => ?_)
        have hW : gW g A s.heap H _ [(h, .inr (2, [.ref q, .int (iI (n + 1))])), (q, gR g 4 (up f ((n).toNat) (some st)))] := hW
        exact q_vret S0 hr hlocks () (trivial) rfl (hW.sub [0, 1] rfl (by unfold rec4; first | (rw [if_pos (by omega), if_pos (by omega)]; rfl) | (rw [if_neg (by omega), if_neg (by omega)]; rfl) | (exfalso; omega))) (Nat.le_of_ble_eq_true rfl) (Nat.le_of_ble_eq_true rfl) dX2_record_55
  · skip
    refine lv_aload_n S0.1 S0.2.1 dX2_record_12 rfl (lv_at hl 0 rfl) ?_
    refine q_cV (n := 0) (rest := []) (wr := []) S0 hK hA hW (c_X2_forgetOldest l g h q n f Bs (fun k hk => hf k (by omega))) gX2_record_X2_forgetOldest rfl rfl rfl (by decide +kernel) ⟨Nat.le_of_ble_eq_true rfl, Nat.le_of_ble_eq_true rfl⟩ [0, 1] [] rfl rfl rfl rfl (by decide) (q_recv hK hW.1 (ci := 2) (q0 := 0) rfl rfl) (hO) (hfz _ _ _ hW) rfl rfl hl.1 (Nat.le_of_ble_eq_true rfl) ⟨Nat.le_of_ble_eq_true rfl, Nat.le_of_ble_eq_true rfl⟩ dX2_record_13 (fun _ H locs _ hW => ?_)
    have hW : gW g A s.heap H _ [(h, .inr (2, [.ref q, .int (iI 3)])), (q, gR g 4 (dn3 f))] := hW
    refine W.eq (g2 := F0 m 16 ls []) rfl ?_
    refine lv_aload_n S0.1 S0.2.1 dX2_record_16 rfl (lv_at hl 0 rfl) ?_
    refine q_get (C := RX2) (T := TX2) (N := 2) S0 hK hW.1 hinX2 0 rfl rfl 1 (by decide) (List.mem_of_getElem? (i := 1) rfl) rfl rfl dX2_record_17 ?_
    refine q_if_lt (tgt := 55) S0 (by omega) dX2_record_20 (by decide) (fun c20 => ?_) (fun c20 => ?_)
    · skip
      exact q_vret S0 hr hlocks () (trivial) rfl (hW.sub [0, 1] rfl (by unfold rec4; first | (rw [if_pos (by omega), if_pos (by omega)]; rfl) | (rw [if_neg (by omega), if_neg (by omega)]; rfl) | (exfalso; omega))) (Nat.le_of_ble_eq_true rfl) (Nat.le_of_ble_eq_true rfl) dX2_record_55
    · skip
      refine lv_aload_n S0.1 S0.2.1 dX2_record_23 rfl (lv_at hl 0 rfl) ?_
      refine q_get (C := RX2) (T := TX2) (N := 2) S0 hK hW.1 hinX2 0 rfl rfl 1 (by decide) (List.mem_of_getElem? (i := 1) rfl) rfl rfl dX2_record_24 ?_
      refine lv_aload_n S0.1 S0.2.1 dX2_record_27 rfl (lv_at hl 0 rfl) ?_
      refine q_get (C := RX2) (T := TX2) (N := 2) S0 hK hW.1 hinX2 0 rfl rfl 0 (by decide) (List.mem_of_getElem? (i := 2) rfl) rfl rfl dX2_record_28 ?_
      refine q_rlen (z := 4) S0 hK hW.1 1 rfl rfl dX2_record_31 ?_
      refine q_icmp_ge (tgt := 55) S0 (by omega) dX2_record_32 (by decide) (fun c32 => ?_) (fun c32 => ?_)
      · skip
        exact absurd c32 (by omega)
      · skip
        refine lv_aload_n S0.1 S0.2.1 dX2_record_35 rfl (lv_at hl 0 rfl) ?_
        refine q_get (C := RX2) (T := TX2) (N := 2) S0 hK hW.1 hinX2 0 rfl rfl 0 (by decide) (List.mem_of_getElem? (i := 2) rfl) rfl rfl dX2_record_36 ?_
        refine lv_aload_n S0.1 S0.2.1 dX2_record_39 rfl (lv_at hl 0 rfl) ?_
        refine q_get (C := RX2) (T := TX2) (N := 2) S0 hK hW.1 hinX2 0 rfl rfl 1 (by decide) (List.mem_of_getElem? (i := 1) rfl) rfl rfl dX2_record_40 ?_
        refine lv_aload_n S0.1 S0.2.1 dX2_record_43 rfl (lv_at hl 1 rfl) ?_
        obtain ⟨vs9, hp9⟩ := hfz _ _ _ hW st hs
        refine q_aast S0 hK hW 1 0 rfl (hp9) rfl (by omega) dX2_record_44 (fun H locs hW => ?_)
        have hW : gW g A s.heap H _ [(h, .inr (2, [.ref q, .int (iI 3)])), (q, gR g 4 (up (dn3 f) 3 (some st)))] := hW
        refine lv_aload_n S0.1 S0.2.1 dX2_record_45 rfl (lv_at hl 0 rfl) ?_
        refine lv_dup S0.1 S0.2.1 dX2_record_46 rfl ?_
        refine q_get (C := RX2) (T := TX2) (N := 2) S0 hK hW.1 hinX2 0 rfl rfl 1 (by decide) (List.mem_of_getElem? (i := 1) rfl) rfl rfl dX2_record_47 ?_
        refine q_iconst S0 dX2_record_50 ?_
        refine q_iadd S0 dX2_record_51 ?_
        refine q_put (C := RX2) (T := TX2) (N := 2) S0 hK hW hinX2 tyX2_ok nmX2 0 rfl rfl 1 (by decide) (List.mem_of_getElem? (i := 1) rfl) rfl rfl rfl rfl (Nat.le_of_ble_eq_true rfl) dX2_record_52 (fun H locs hW => ?_)
        have hW : gW g A s.heap H _ [(h, .inr (2, [.ref q, .int (iI (3 + 1))])), (q, gR g 4 (up (dn3 f) 3 (some st)))] := hW
        exact q_vret S0 hr hlocks () (trivial) rfl (hW.sub [0, 1] rfl (by unfold rec4; first | (rw [if_pos (by omega), if_pos (by omega)]; rfl) | (rw [if_neg (by omega), if_neg (by omega)]; rfl) | (exfalso; omega))) (Nat.le_of_ble_eq_true rfl) (Nat.le_of_ble_eq_true rfl) dX2_record_55
