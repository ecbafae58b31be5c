set_option maxHeartbeats 4000000 in
set_option maxRecDepth 100000 in
theorem c_X11_asksT (l : Launch) (g : GG) (mo az ap ak ax a1 a2 a3 a4 a5 a6 v1 v2 v3 v4 v5 v6 : Nat) (pm ik ty th mn wt bn wh dp dg : Int) : qMet l yX11_asks wsX11_asks ({ frames := 0, cells := 0, slots := 0, locals := 0 }) g [.ref mo, .int (iI 1)] [(mo, .inr (11, [.ref az, .ref ap, .int (iI pm), .ref ak, .int (iI ik), .ref ax, .int (iI ty), .int (iI th), .ref a1, .ref a2, .int (iI mn), .ref a3, .int (iI wt), .ref a4, .ref a5, .ref a6, .ref v1, .ref v2, .ref v3, .ref v4, .ref v5, .ref v6, .int (iI bn), .int (iI wh), .int (iI dp), .int (iI dg)]))] (fun _ => True) (fun _ => True) (S := Unit) (fun _ => some (.int (iI 1))) (fun _ => [(mo, .inr (11, [.ref az, .ref ap, .int (iI pm), .ref ak, .int (iI ik), .ref ax, .int (iI ty), .int (iI 0), .ref a1, .ref a2, .int (iI mn), .ref a3, .int (iI wt), .ref a4, .ref a5, .ref a6, .ref v1, .ref v2, .ref v3, .ref v4, .ref v5, .ref v6, .int (iI bn), .int (iI wh), .int (iI dp), .int (iI dg)]))]) (fun _ => True) 0 0 := by
  refine q_ofW (cc := cX11_asks) (maxL := 2) (ret := (some .boolean)) (fun sz h => h.self) (by decide) rfl (Nat.le_of_ble_eq_true rfl) ?_
  intro p e s m args below meth c A ls S0 hr hlocks hnme hK hA hAe hW hD0 hX hl
  have hW : gW g A s.heap s.heap [] [(mo, .inr (11, [.ref az, .ref ap, .int (iI pm), .ref ak, .int (iI ik), .ref ax, .int (iI ty), .int (iI th), .ref a1, .ref a2, .int (iI mn), .ref a3, .int (iI wt), .ref a4, .ref a5, .ref a6, .ref v1, .ref v2, .ref v3, .ref v4, .ref v5, .ref v6, .int (iI bn), .int (iI wh), .int (iI dp), .int (iI dg)]))] := hW
  have hl : lv_has ls 2 [(0, .ref mo), (1, .int (iI 1))] := hl
  have hinX11 : ∀ w ∈ wsX110, w ∈ wsX11_asks := fun w h => List.mem_cons_of_mem _ (List.mem_append_right _ h)
  refine lv_aload_n S0.1 S0.2.1 dX11_asks_0 rfl (lv_at hl 0 rfl) ?_
  refine lv_iload_n S0.1 S0.2.1 dX11_asks_1 rfl (lv_at hl 1 rfl) ?_
  refine q_if_eq (tgt := 9) S0 (by omega) dX11_asks_2 (by decide) (fun c2 => ?_) (fun c2 => ?_)
  · skip
    exact absurd c2 (by omega)
  · skip
    refine q_iconst S0 dX11_asks_5 ?_
    refine lv_goto (tgt := 10) S0.1 S0.2.1 dX11_asks_6 (by decide) ?_
    refine q_put (C := RX11) (T := TX11) (N := 26) S0 hK hW hinX11 tyX11_ok nmX11 0 rfl rfl 7 (by decide) (List.mem_of_getElem? (i := 1) rfl) rfl rfl rfl rfl (Nat.le_of_ble_eq_true rfl) dX11_asks_10 (fun H locs hW => ?_)
    have hW : gW g A s.heap H _ [(mo, .inr (11, [.ref az, .ref ap, .int (iI pm), .ref ak, .int (iI ik), .ref ax, .int (iI ty), .int (iI 0), .ref a1, .ref a2, .int (iI mn), .ref a3, .int (iI wt), .ref a4, .ref a5, .ref a6, .ref v1, .ref v2, .ref v3, .ref v4, .ref v5, .ref v6, .int (iI bn), .int (iI wh), .int (iI dp), .int (iI dg)]))] := hW
    refine lv_iload_n S0.1 S0.2.1 dX11_asks_13 rfl (lv_at hl 1 rfl) ?_
    exact q_zret S0 hr hlocks () (trivial) (Or.inr rfl) (rfl) (hW.sub [0] rfl (rfl)) (Nat.le_of_ble_eq_true rfl) (Nat.le_of_ble_eq_true rfl) dX11_asks_14
set_option maxHeartbeats 4000000 in
set_option maxRecDepth 100000 in
theorem c_X11_asksF (l : Launch) (g : GG) (mo az ap ak ax a1 a2 a3 a4 a5 a6 v1 v2 v3 v4 v5 v6 : Nat) (pm ik ty th mn wt bn wh dp dg : Int) : qMet l yX11_asks wsX11_asks ({ frames := 0, cells := 0, slots := 0, locals := 0 }) g [.ref mo, .int (iI 0)] [(mo, .inr (11, [.ref az, .ref ap, .int (iI pm), .ref ak, .int (iI ik), .ref ax, .int (iI ty), .int (iI th), .ref a1, .ref a2, .int (iI mn), .ref a3, .int (iI wt), .ref a4, .ref a5, .ref a6, .ref v1, .ref v2, .ref v3, .ref v4, .ref v5, .ref v6, .int (iI bn), .int (iI wh), .int (iI dp), .int (iI dg)]))] (fun _ => True) (fun _ => True) (S := Unit) (fun _ => some (.int (iI 0))) (fun _ => [(mo, .inr (11, [.ref az, .ref ap, .int (iI pm), .ref ak, .int (iI ik), .ref ax, .int (iI ty), .int (iI 1), .ref a1, .ref a2, .int (iI mn), .ref a3, .int (iI wt), .ref a4, .ref a5, .ref a6, .ref v1, .ref v2, .ref v3, .ref v4, .ref v5, .ref v6, .int (iI bn), .int (iI wh), .int (iI dp), .int (iI dg)]))]) (fun _ => True) 0 0 := by
  refine q_ofW (cc := cX11_asks) (maxL := 2) (ret := (some .boolean)) (fun sz h => h.self) (by decide) rfl (Nat.le_of_ble_eq_true rfl) ?_
  intro p e s m args below meth c A ls S0 hr hlocks hnme hK hA hAe hW hD0 hX hl
  have hW : gW g A s.heap s.heap [] [(mo, .inr (11, [.ref az, .ref ap, .int (iI pm), .ref ak, .int (iI ik), .ref ax, .int (iI ty), .int (iI th), .ref a1, .ref a2, .int (iI mn), .ref a3, .int (iI wt), .ref a4, .ref a5, .ref a6, .ref v1, .ref v2, .ref v3, .ref v4, .ref v5, .ref v6, .int (iI bn), .int (iI wh), .int (iI dp), .int (iI dg)]))] := hW
  have hl : lv_has ls 2 [(0, .ref mo), (1, .int (iI 0))] := hl
  have hinX11 : ∀ w ∈ wsX110, w ∈ wsX11_asks := fun w h => List.mem_cons_of_mem _ (List.mem_append_right _ h)
  refine lv_aload_n S0.1 S0.2.1 dX11_asks_0 rfl (lv_at hl 0 rfl) ?_
  refine lv_iload_n S0.1 S0.2.1 dX11_asks_1 rfl (lv_at hl 1 rfl) ?_
  refine q_if_eq (tgt := 9) S0 (by omega) dX11_asks_2 (by decide) (fun c2 => ?_) (fun c2 => ?_)
  · skip
    refine q_iconst S0 dX11_asks_9 ?_
    refine q_put (C := RX11) (T := TX11) (N := 26) S0 hK hW hinX11 tyX11_ok nmX11 0 rfl rfl 7 (by decide) (List.mem_of_getElem? (i := 1) rfl) rfl rfl rfl rfl (Nat.le_of_ble_eq_true rfl) dX11_asks_10 (fun H locs hW => ?_)
    have hW : gW g A s.heap H _ [(mo, .inr (11, [.ref az, .ref ap, .int (iI pm), .ref ak, .int (iI ik), .ref ax, .int (iI ty), .int (iI 1), .ref a1, .ref a2, .int (iI mn), .ref a3, .int (iI wt), .ref a4, .ref a5, .ref a6, .ref v1, .ref v2, .ref v3, .ref v4, .ref v5, .ref v6, .int (iI bn), .int (iI wh), .int (iI dp), .int (iI dg)]))] := hW
    refine lv_iload_n S0.1 S0.2.1 dX11_asks_13 rfl (lv_at hl 1 rfl) ?_
    exact q_zret S0 hr hlocks () (trivial) (Or.inl rfl) (rfl) (hW.sub [0] rfl (rfl)) (Nat.le_of_ble_eq_true rfl) (Nat.le_of_ble_eq_true rfl) dX11_asks_14
  · skip
    exact absurd c2 (by omega)
set_option maxHeartbeats 4000000 in
set_option maxRecDepth 100000 in
theorem c_X11_asksP (l : Launch) (g : GG) (mo az ap ak ax a1 a2 a3 a4 a5 a6 v1 v2 v3 v4 v5 v6 : Nat) (pm ik ty th mn wt bn wh dp dg : Int) (P : Prop) [Decidable P] (hP : P) : qMet l yX11_asks wsX11_asks ({ frames := 0, cells := 0, slots := 0, locals := 0 }) g [.ref mo, .int (iI (if P then (1 : Int) else 0))] [(mo, .inr (11, [.ref az, .ref ap, .int (iI pm), .ref ak, .int (iI ik), .ref ax, .int (iI ty), .int (iI th), .ref a1, .ref a2, .int (iI mn), .ref a3, .int (iI wt), .ref a4, .ref a5, .ref a6, .ref v1, .ref v2, .ref v3, .ref v4, .ref v5, .ref v6, .int (iI bn), .int (iI wh), .int (iI dp), .int (iI dg)]))] (fun _ => True) (fun _ => True) (S := Unit) (fun _ => some (.int (iI 1))) (fun _ => [(mo, .inr (11, [.ref az, .ref ap, .int (iI pm), .ref ak, .int (iI ik), .ref ax, .int (iI ty), .int (iI 0), .ref a1, .ref a2, .int (iI mn), .ref a3, .int (iI wt), .ref a4, .ref a5, .ref a6, .ref v1, .ref v2, .ref v3, .ref v4, .ref v5, .ref v6, .int (iI bn), .int (iI wh), .int (iI dp), .int (iI dg)]))]) (fun _ => True) 0 0 := by
  refine q_ofW (cc := cX11_asks) (maxL := 2) (ret := (some .boolean)) (fun sz h => h.self) (by decide) rfl (Nat.le_of_ble_eq_true rfl) ?_
  intro p e s m args below meth c A ls S0 hr hlocks hnme hK hA hAe hW hD0 hX hl
  have hW : gW g A s.heap s.heap [] [(mo, .inr (11, [.ref az, .ref ap, .int (iI pm), .ref ak, .int (iI ik), .ref ax, .int (iI ty), .int (iI th), .ref a1, .ref a2, .int (iI mn), .ref a3, .int (iI wt), .ref a4, .ref a5, .ref a6, .ref v1, .ref v2, .ref v3, .ref v4, .ref v5, .ref v6, .int (iI bn), .int (iI wh), .int (iI dp), .int (iI dg)]))] := hW
  have hl : lv_has ls 2 [(0, .ref mo), (1, .int (iI (if P then (1 : Int) else 0)))] := hl
  have hinX11 : ∀ w ∈ wsX110, w ∈ wsX11_asks := fun w h => List.mem_cons_of_mem _ (List.mem_append_right _ h)
  refine lv_aload_n S0.1 S0.2.1 dX11_asks_0 rfl (lv_at hl 0 rfl) ?_
  refine lv_iload_n S0.1 S0.2.1 dX11_asks_1 rfl (lv_at hl 1 rfl) ?_
  refine q_if_eqP (tgt := 9) S0 dX11_asks_2 (by decide) (fun c2 => ?_) (fun c2 => ?_)
  · skip
    exact absurd hP c2
  · skip
    refine q_iconst S0 dX11_asks_5 ?_
    refine lv_goto (tgt := 10) S0.1 S0.2.1 dX11_asks_6 (by decide) ?_
    refine q_put (C := RX11) (T := TX11) (N := 26) S0 hK hW hinX11 tyX11_ok nmX11 0 rfl rfl 7 (by decide) (List.mem_of_getElem? (i := 1) rfl) rfl rfl rfl rfl (Nat.le_of_ble_eq_true rfl) dX11_asks_10 (fun H locs hW => ?_)
    have hW : gW g A s.heap H _ [(mo, .inr (11, [.ref az, .ref ap, .int (iI pm), .ref ak, .int (iI ik), .ref ax, .int (iI ty), .int (iI 0), .ref a1, .ref a2, .int (iI mn), .ref a3, .int (iI wt), .ref a4, .ref a5, .ref a6, .ref v1, .ref v2, .ref v3, .ref v4, .ref v5, .ref v6, .int (iI bn), .int (iI wh), .int (iI dp), .int (iI dg)]))] := hW
    refine lv_iload_n S0.1 S0.2.1 dX11_asks_13 rfl (lv_at hl 1 rfl) ?_
    exact q_zret S0 hr hlocks () (trivial) (by first | exact Or.inr rfl | (split <;> simp)) (by rw [if_pos hP]) (hW.sub [0] rfl (rfl)) (Nat.le_of_ble_eq_true rfl) (Nat.le_of_ble_eq_true rfl) dX11_asks_14
set_option maxHeartbeats 4000000 in
set_option maxRecDepth 100000 in
theorem c_X11_asksN (l : Launch) (g : GG) (mo az ap ak ax a1 a2 a3 a4 a5 a6 v1 v2 v3 v4 v5 v6 : Nat) (pm ik ty th mn wt bn wh dp dg : Int) (P : Prop) [Decidable P] (hP : ¬ P) : qMet l yX11_asks wsX11_asks ({ frames := 0, cells := 0, slots := 0, locals := 0 }) g [.ref mo, .int (iI (if P then (1 : Int) else 0))] [(mo, .inr (11, [.ref az, .ref ap, .int (iI pm), .ref ak, .int (iI ik), .ref ax, .int (iI ty), .int (iI th), .ref a1, .ref a2, .int (iI mn), .ref a3, .int (iI wt), .ref a4, .ref a5, .ref a6, .ref v1, .ref v2, .ref v3, .ref v4, .ref v5, .ref v6, .int (iI bn), .int (iI wh), .int (iI dp), .int (iI dg)]))] (fun _ => True) (fun _ => True) (S := Unit) (fun _ => some (.int (iI 0))) (fun _ => [(mo, .inr (11, [.ref az, .ref ap, .int (iI pm), .ref ak, .int (iI ik), .ref ax, .int (iI ty), .int (iI 1), .ref a1, .ref a2, .int (iI mn), .ref a3, .int (iI wt), .ref a4, .ref a5, .ref a6, .ref v1, .ref v2, .ref v3, .ref v4, .ref v5, .ref v6, .int (iI bn), .int (iI wh), .int (iI dp), .int (iI dg)]))]) (fun _ => True) 0 0 := by
  refine q_ofW (cc := cX11_asks) (maxL := 2) (ret := (some .boolean)) (fun sz h => h.self) (by decide) rfl (Nat.le_of_ble_eq_true rfl) ?_
  intro p e s m args below meth c A ls S0 hr hlocks hnme hK hA hAe hW hD0 hX hl
  have hW : gW g A s.heap s.heap [] [(mo, .inr (11, [.ref az, .ref ap, .int (iI pm), .ref ak, .int (iI ik), .ref ax, .int (iI ty), .int (iI th), .ref a1, .ref a2, .int (iI mn), .ref a3, .int (iI wt), .ref a4, .ref a5, .ref a6, .ref v1, .ref v2, .ref v3, .ref v4, .ref v5, .ref v6, .int (iI bn), .int (iI wh), .int (iI dp), .int (iI dg)]))] := hW
  have hl : lv_has ls 2 [(0, .ref mo), (1, .int (iI (if P then (1 : Int) else 0)))] := hl
  have hinX11 : ∀ w ∈ wsX110, w ∈ wsX11_asks := fun w h => List.mem_cons_of_mem _ (List.mem_append_right _ h)
  refine lv_aload_n S0.1 S0.2.1 dX11_asks_0 rfl (lv_at hl 0 rfl) ?_
  refine lv_iload_n S0.1 S0.2.1 dX11_asks_1 rfl (lv_at hl 1 rfl) ?_
  refine q_if_eqP (tgt := 9) S0 dX11_asks_2 (by decide) (fun c2 => ?_) (fun c2 => ?_)
  · skip
    refine q_iconst S0 dX11_asks_9 ?_
    refine q_put (C := RX11) (T := TX11) (N := 26) S0 hK hW hinX11 tyX11_ok nmX11 0 rfl rfl 7 (by decide) (List.mem_of_getElem? (i := 1) rfl) rfl rfl rfl rfl (Nat.le_of_ble_eq_true rfl) dX11_asks_10 (fun H locs hW => ?_)
    have hW : gW g A s.heap H _ [(mo, .inr (11, [.ref az, .ref ap, .int (iI pm), .ref ak, .int (iI ik), .ref ax, .int (iI ty), .int (iI 1), .ref a1, .ref a2, .int (iI mn), .ref a3, .int (iI wt), .ref a4, .ref a5, .ref a6, .ref v1, .ref v2, .ref v3, .ref v4, .ref v5, .ref v6, .int (iI bn), .int (iI wh), .int (iI dp), .int (iI dg)]))] := hW
    refine lv_iload_n S0.1 S0.2.1 dX11_asks_13 rfl (lv_at hl 1 rfl) ?_
    exact q_zret S0 hr hlocks () (trivial) (by first | exact Or.inl rfl | (split <;> simp)) (by rw [if_neg hP]) (hW.sub [0] rfl (rfl)) (Nat.le_of_ble_eq_true rfl) (Nat.le_of_ble_eq_true rfl) dX11_asks_14
  · skip
    exact absurd c2 hP
set_option maxHeartbeats 4000000 in
set_option maxRecDepth 100000 in
theorem c_X11_record4 (l : Launch) (g : GG) (mo az ap ak ax a1 a2 a3 a4 a5 a6 v1 v2 v3 v4 v5 v6 : Nat) (ik ty th mn wt bn wh dp dg : Int) (Z P : Nat → Int) : qMet l yX11_record wsX11_record ({ frames := 0, cells := 0, slots := 0, locals := 0 }) g [.ref mo] [(mo, .inr (11, [.ref az, .ref ap, .int (iI 4), .ref ak, .int (iI ik), .ref ax, .int (iI ty), .int (iI th), .ref a1, .ref a2, .int (iI mn), .ref a3, .int (iI wt), .ref a4, .ref a5, .ref a6, .ref v1, .ref v2, .ref v3, .ref v4, .ref v5, .ref v6, .int (iI bn), .int (iI wh), .int (iI dp), .int (iI dg)])), (az, gI g 325 Z), (ap, gI g 1300 P)] (fun _ => True) (fun _ => True) (S := Unit) (fun _ => none) (fun _ => [(mo, .inr (11, [.ref az, .ref ap, .int (iI (recN 4)), .ref ak, .int (iI ik), .ref ax, .int (iI ty), .int (iI th), .ref a1, .ref a2, .int (iI mn), .ref a3, .int (iI wt), .ref a4, .ref a5, .ref a6, .ref v1, .ref v2, .ref v3, .ref v4, .ref v5, .ref v6, .int (iI bn), .int (iI wh), .int (iI dp), .int (iI dg)])), (az, gI g 325 Z), (ap, gI g 1300 (recM 4 P Z))]) (fun _ => True) 0 0 := by
  refine q_ofW (cc := cX11_record) (maxL := 2) (ret := none) (fun sz h => h.self) (by decide) rfl (Nat.le_of_ble_eq_true rfl) ?_
  intro p e s m args below meth c A ls S0 hr hlocks hnme hK hA hAe hW hD0 hX hl
  have hW : gW g A s.heap s.heap [] [(mo, .inr (11, [.ref az, .ref ap, .int (iI 4), .ref ak, .int (iI ik), .ref ax, .int (iI ty), .int (iI th), .ref a1, .ref a2, .int (iI mn), .ref a3, .int (iI wt), .ref a4, .ref a5, .ref a6, .ref v1, .ref v2, .ref v3, .ref v4, .ref v5, .ref v6, .int (iI bn), .int (iI wh), .int (iI dp), .int (iI dg)])), (az, gI g 325 Z), (ap, gI g 1300 P)] := hW
  have hl : lv_has ls 2 [(0, .ref mo)] := hl
  have hinX11 : ∀ w ∈ wsX110, w ∈ wsX11_record := fun w h => List.mem_cons_of_mem _ (List.mem_append_right _ h)
  refine lv_aload_n S0.1 S0.2.1 dX11_record_0 rfl (lv_at hl 0 rfl) ?_
  refine q_get (C := RX11) (T := TX11) (N := 26) S0 hK hW.1 hinX11 0 rfl rfl 2 (by decide) (List.mem_of_getElem? (i := 1) rfl) rfl rfl dX11_record_1 ?_
  refine q_iconst S0 dX11_record_4 ?_
  refine q_icmp_ne (tgt := 49) S0 (by omega) dX11_record_5 (by decide) (fun c5 => ?_) (fun c5 => ?_)
  · skip
    exact absurd c5 (by omega)
  · skip
    refine q_iconst S0 dX11_record_8 ?_
    refine lv_istore_n (lv' := [(1, .int (iI 0)), (0, .ref mo)]) S0.1 S0.2.1 dX11_record_9 rfl hl (by decide) rfl (fun ls hl => ?_)
    refine q_loop (α := Int × (Nat → Int)) (fun (z_ : Int × (Nat → Int)) => match z_ with | (k9, h9) => (0 ≤ k9 ∧ k9 ≤ 975) ∧ h9 = shf P k9.toNat) (fun (z_ : Int × (Nat → Int)) => match z_ with | (k9, h9) => (975 - k9).toNat) (fun (z_ : Int × (Nat → Int)) => match z_ with | (k9, h9) => [(mo, .inr (11, [.ref az, .ref ap, .int (iI 4), .ref ak, .int (iI ik), .ref ax, .int (iI ty), .int (iI th), .ref a1, .ref a2, .int (iI mn), .ref a3, .int (iI wt), .ref a4, .ref a5, .ref a6, .ref v1, .ref v2, .ref v3, .ref v4, .ref v5, .ref v6, .int (iI bn), .int (iI wh), .int (iI dp), .int (iI dg)])), (az, gI g 325 Z), (ap, gI g 1300 h9)]) (fun (z_ : Int × (Nat → Int)) => match z_ with | (k9, h9) => [(1, .int (iI k9)), (0, .ref mo)]) ?_ (0, P) (by refine ⟨by omega, ?_⟩; exact (shf_0 P).symm) hW (lv_sub hl [0, 1] rfl)
    rintro ⟨k9, h9⟩ hinv IHl H locs ls hW hl
    try dsimp only at hinv
    have hW : gW g A s.heap H _ [(mo, .inr (11, [.ref az, .ref ap, .int (iI 4), .ref ak, .int (iI ik), .ref ax, .int (iI ty), .int (iI th), .ref a1, .ref a2, .int (iI mn), .ref a3, .int (iI wt), .ref a4, .ref a5, .ref a6, .ref v1, .ref v2, .ref v3, .ref v4, .ref v5, .ref v6, .int (iI bn), .int (iI wh), .int (iI dp), .int (iI dg)])), (az, gI g 325 Z), (ap, gI g 1300 h9)] := hW
    have hl : lv_has ls 2 [(1, .int (iI k9)), (0, .ref mo)] := hl
    obtain ⟨hk9, hh9⟩ := hinv
    refine lv_iload_n S0.1 S0.2.1 dX11_record_10 rfl (lv_at hl 0 rfl) ?_
    refine q_sipush S0 (by decide) dX11_record_11 ?_
    refine q_icmp_ge (tgt := 39) S0 (by omega) dX11_record_14 (by decide) (fun c14 => ?_) (fun c14 => ?_)
    · skip
      have hfin9 : h9 = shf P 975 := by rw [hh9, show k9.toNat = 975 by omega]
      subst hfin9
      refine lv_aload_n S0.1 S0.2.1 dX11_record_39 rfl (lv_at hl 1 rfl) ?_
      refine lv_dup S0.1 S0.2.1 dX11_record_40 rfl ?_
      refine q_get (C := RX11) (T := TX11) (N := 26) S0 hK hW.1 hinX11 0 rfl rfl 2 (by decide) (List.mem_of_getElem? (i := 1) rfl) rfl rfl dX11_record_41 ?_
      refine q_iconst S0 dX11_record_44 ?_
      refine q_isub S0 dX11_record_45 ?_
      refine q_put (C := RX11) (T := TX11) (N := 26) S0 hK hW hinX11 tyX11_ok nmX11 0 rfl rfl 2 (by decide) (List.mem_of_getElem? (i := 1) rfl) rfl rfl rfl rfl (Nat.le_of_ble_eq_true rfl) dX11_record_46 (fun H locs hW => ?_)
      have hW : gW g A s.heap H _ [(mo, .inr (11, [.ref az, .ref ap, .int (iI (4 - 1)), .ref ak, .int (iI ik), .ref ax, .int (iI ty), .int (iI th), .ref a1, .ref a2, .int (iI mn), .ref a3, .int (iI wt), .ref a4, .ref a5, .ref a6, .ref v1, .ref v2, .ref v3, .ref v4, .ref v5, .ref v6, .int (iI bn), .int (iI wh), .int (iI dp), .int (iI dg)])), (az, gI g 325 Z), (ap, gI g 1300 (shf P 975))] := hW
      refine q_iconst S0 dX11_record_49 ?_
      refine lv_istore_n (lv' := [(1, .int (iI 0)), (0, .ref mo)]) S0.1 S0.2.1 dX11_record_50 rfl hl (by decide) rfl (fun ls hl => ?_)
      refine q_loop (α := Int × (Nat → Int)) (fun (z_ : Int × (Nat → Int)) => match z_ with | (k9, h9) => (0 ≤ k9 ∧ k9 ≤ 325) ∧ h9 = cpo Z (shf P 975) (975) k9.toNat) (fun (z_ : Int × (Nat → Int)) => match z_ with | (k9, h9) => (325 - k9).toNat) (fun (z_ : Int × (Nat → Int)) => match z_ with | (k9, h9) => [(mo, .inr (11, [.ref az, .ref ap, .int (iI (4 - 1)), .ref ak, .int (iI ik), .ref ax, .int (iI ty), .int (iI th), .ref a1, .ref a2, .int (iI mn), .ref a3, .int (iI wt), .ref a4, .ref a5, .ref a6, .ref v1, .ref v2, .ref v3, .ref v4, .ref v5, .ref v6, .int (iI bn), .int (iI wh), .int (iI dp), .int (iI dg)])), (az, gI g 325 Z), (ap, gI g 1300 h9)]) (fun (z_ : Int × (Nat → Int)) => match z_ with | (k9, h9) => [(1, .int (iI k9)), (0, .ref mo)]) ?_ (0, shf P 975) (by refine ⟨by omega, ?_⟩; exact (cpo_0 Z (shf P 975) (975)).symm) hW (lv_sub hl [0, 1] rfl)
      rintro ⟨k9, h9⟩ hinv IHl H locs ls hW hl
      try dsimp only at hinv
      have hW : gW g A s.heap H _ [(mo, .inr (11, [.ref az, .ref ap, .int (iI (4 - 1)), .ref ak, .int (iI ik), .ref ax, .int (iI ty), .int (iI th), .ref a1, .ref a2, .int (iI mn), .ref a3, .int (iI wt), .ref a4, .ref a5, .ref a6, .ref v1, .ref v2, .ref v3, .ref v4, .ref v5, .ref v6, .int (iI bn), .int (iI wh), .int (iI dp), .int (iI dg)])), (az, gI g 325 Z), (ap, gI g 1300 h9)] := hW
      have hl : lv_has ls 2 [(1, .int (iI k9)), (0, .ref mo)] := hl
      obtain ⟨hk9, hh9⟩ := hinv
      refine lv_iload_n S0.1 S0.2.1 dX11_record_51 rfl (lv_at hl 0 rfl) ?_
      refine q_sipush S0 (by decide) dX11_record_52 ?_
      refine q_icmp_ge (tgt := 85) S0 (by omega) dX11_record_55 (by decide) (fun c55 => ?_) (fun c55 => ?_)
      · skip
        refine lv_aload_n S0.1 S0.2.1 dX11_record_85 rfl (lv_at hl 1 rfl) ?_
        refine lv_dup S0.1 S0.2.1 dX11_record_86 rfl ?_
        refine q_get (C := RX11) (T := TX11) (N := 26) S0 hK hW.1 hinX11 0 rfl rfl 2 (by decide) (List.mem_of_getElem? (i := 1) rfl) rfl rfl dX11_record_87 ?_
        refine q_iconst S0 dX11_record_90 ?_
        refine q_iadd S0 dX11_record_91 ?_
        refine q_put (C := RX11) (T := TX11) (N := 26) S0 hK hW hinX11 tyX11_ok nmX11 0 rfl rfl 2 (by decide) (List.mem_of_getElem? (i := 1) rfl) rfl rfl rfl rfl (Nat.le_of_ble_eq_true rfl) dX11_record_92 (fun H locs hW => ?_)
        have hW : gW g A s.heap H _ [(mo, .inr (11, [.ref az, .ref ap, .int (iI ((4 - 1) + 1)), .ref ak, .int (iI ik), .ref ax, .int (iI ty), .int (iI th), .ref a1, .ref a2, .int (iI mn), .ref a3, .int (iI wt), .ref a4, .ref a5, .ref a6, .ref v1, .ref v2, .ref v3, .ref v4, .ref v5, .ref v6, .int (iI bn), .int (iI wh), .int (iI dp), .int (iI dg)])), (az, gI g 325 Z), (ap, gI g 1300 h9)] := hW
        exact q_vret S0 hr hlocks () (trivial) rfl (hW.sub [0, 1, 2] rfl (by unfold recM recN; first | (rw [if_pos rfl, if_pos rfl, hh9, show k9.toNat = 325 by omega]; rfl) | (rw [if_neg (by omega), if_neg (by omega), hh9, show k9.toNat = 325 by omega]; rfl))) (Nat.le_of_ble_eq_true rfl) (Nat.le_of_ble_eq_true rfl) dX11_record_95
      · skip
        refine lv_aload_n S0.1 S0.2.1 dX11_record_58 rfl (lv_at hl 1 rfl) ?_
        refine q_get (C := RX11) (T := TX11) (N := 26) S0 hK hW.1 hinX11 0 rfl rfl 1 (by decide) (List.mem_of_getElem? (i := 2) rfl) rfl rfl dX11_record_59 ?_
        refine lv_aload_n S0.1 S0.2.1 dX11_record_62 rfl (lv_at hl 1 rfl) ?_
        refine q_get (C := RX11) (T := TX11) (N := 26) S0 hK hW.1 hinX11 0 rfl rfl 2 (by decide) (List.mem_of_getElem? (i := 1) rfl) rfl rfl dX11_record_63 ?_
        refine q_sipush S0 (by decide) dX11_record_66 ?_
        refine q_imul S0 dX11_record_69 ?_
        refine lv_iload_n S0.1 S0.2.1 dX11_record_70 rfl (lv_at hl 0 rfl) ?_
        refine q_iadd S0 dX11_record_71 ?_
        refine lv_aload_n S0.1 S0.2.1 dX11_record_72 rfl (lv_at hl 1 rfl) ?_
        refine q_get (C := RX11) (T := TX11) (N := 26) S0 hK hW.1 hinX11 0 rfl rfl 0 (by decide) (List.mem_of_getElem? (i := 3) rfl) rfl rfl dX11_record_73 ?_
        refine lv_iload_n S0.1 S0.2.1 dX11_record_76 rfl (lv_at hl 0 rfl) ?_
        refine q_iald S0 hK hW.1 1 rfl (by omega) dX11_record_77 ?_
        refine q_iast S0 hK hW 2 rfl (by omega) dX11_record_78 (fun H locs hW => ?_)
        rw [show (((4 - 1) * 325) + k9).toNat = 975 + k9.toNat from by omega] at hW
        have hW : gW g A s.heap H _ [(mo, .inr (11, [.ref az, .ref ap, .int (iI (4 - 1)), .ref ak, .int (iI ik), .ref ax, .int (iI ty), .int (iI th), .ref a1, .ref a2, .int (iI mn), .ref a3, .int (iI wt), .ref a4, .ref a5, .ref a6, .ref v1, .ref v2, .ref v3, .ref v4, .ref v5, .ref v6, .int (iI bn), .int (iI wh), .int (iI dp), .int (iI dg)])), (az, gI g 325 Z), (ap, gI g 1300 (up h9 (975 + k9.toNat) (Z (k9).toNat)))] := hW
        refine q_iinc (lv' := [(1, .int (iI (k9 + 1))), (0, .ref mo)]) S0 dX11_record_79 hl (k := 0) rfl (by decide) rfl (fun ls hl => ?_)
        refine lv_goto (tgt := 51) S0.1 S0.2.1 dX11_record_82 (by decide) ?_
        exact IHl (k9 + 1, up h9 (975 + k9.toNat) (Z k9.toNat)) H locs ls (by refine ⟨by omega, ?_⟩; rw [show (k9 + 1).toNat = k9.toNat + 1 by omega, ← cpo_up, hh9]) (by (try dsimp only); omega) hW (lv_sub hl [0, 1] rfl)
    · skip
      refine lv_aload_n S0.1 S0.2.1 dX11_record_17 rfl (lv_at hl 1 rfl) ?_
      refine q_get (C := RX11) (T := TX11) (N := 26) S0 hK hW.1 hinX11 0 rfl rfl 1 (by decide) (List.mem_of_getElem? (i := 2) rfl) rfl rfl dX11_record_18 ?_
      refine lv_iload_n S0.1 S0.2.1 dX11_record_21 rfl (lv_at hl 0 rfl) ?_
      refine lv_aload_n S0.1 S0.2.1 dX11_record_22 rfl (lv_at hl 1 rfl) ?_
      refine q_get (C := RX11) (T := TX11) (N := 26) S0 hK hW.1 hinX11 0 rfl rfl 1 (by decide) (List.mem_of_getElem? (i := 2) rfl) rfl rfl dX11_record_23 ?_
      refine lv_iload_n S0.1 S0.2.1 dX11_record_26 rfl (lv_at hl 0 rfl) ?_
      refine q_sipush S0 (by decide) dX11_record_27 ?_
      refine q_iadd S0 dX11_record_30 ?_
      refine q_iald S0 hK hW.1 2 rfl (by omega) dX11_record_31 ?_
      refine q_topI (b := P (k9.toNat + 325)) (by rw [hh9, show (k9 + 325).toNat = k9.toNat + 325 by omega, shf_at]) ?_
      refine q_iast S0 hK hW 2 rfl (by omega) dX11_record_32 (fun H locs hW => ?_)
      have hW : gW g A s.heap H _ [(mo, .inr (11, [.ref az, .ref ap, .int (iI 4), .ref ak, .int (iI ik), .ref ax, .int (iI ty), .int (iI th), .ref a1, .ref a2, .int (iI mn), .ref a3, .int (iI wt), .ref a4, .ref a5, .ref a6, .ref v1, .ref v2, .ref v3, .ref v4, .ref v5, .ref v6, .int (iI bn), .int (iI wh), .int (iI dp), .int (iI dg)])), (az, gI g 325 Z), (ap, gI g 1300 (up h9 ((k9).toNat) (P (k9.toNat + 325))))] := hW
      refine q_iinc (lv' := [(1, .int (iI (k9 + 1))), (0, .ref mo)]) S0 dX11_record_33 hl (k := 0) rfl (by decide) rfl (fun ls hl => ?_)
      refine lv_goto (tgt := 10) S0.1 S0.2.1 dX11_record_36 (by decide) ?_
      exact IHl (k9 + 1, up h9 k9.toNat (P (k9.toNat + 325))) H locs ls (by refine ⟨by omega, ?_⟩; rw [show (k9 + 1).toNat = k9.toNat + 1 by omega, ← shf_up, hh9]) (by (try dsimp only); omega) hW (lv_sub hl [0, 1] rfl)
set_option maxHeartbeats 4000000 in
set_option maxRecDepth 100000 in
theorem c_X11_record3 (l : Launch) (g : GG) (mo az ap ak ax a1 a2 a3 a4 a5 a6 v1 v2 v3 v4 v5 v6 : Nat) (pm ik ty th mn wt bn wh dp dg : Int) (Z P : Nat → Int) (hp : 0 ≤ pm ∧ pm < 4) : qMet l yX11_record wsX11_record ({ frames := 0, cells := 0, slots := 0, locals := 0 }) g [.ref mo] [(mo, .inr (11, [.ref az, .ref ap, .int (iI pm), .ref ak, .int (iI ik), .ref ax, .int (iI ty), .int (iI th), .ref a1, .ref a2, .int (iI mn), .ref a3, .int (iI wt), .ref a4, .ref a5, .ref a6, .ref v1, .ref v2, .ref v3, .ref v4, .ref v5, .ref v6, .int (iI bn), .int (iI wh), .int (iI dp), .int (iI dg)])), (az, gI g 325 Z), (ap, gI g 1300 P)] (fun _ => True) (fun _ => True) (S := Unit) (fun _ => none) (fun _ => [(mo, .inr (11, [.ref az, .ref ap, .int (iI (recN pm)), .ref ak, .int (iI ik), .ref ax, .int (iI ty), .int (iI th), .ref a1, .ref a2, .int (iI mn), .ref a3, .int (iI wt), .ref a4, .ref a5, .ref a6, .ref v1, .ref v2, .ref v3, .ref v4, .ref v5, .ref v6, .int (iI bn), .int (iI wh), .int (iI dp), .int (iI dg)])), (az, gI g 325 Z), (ap, gI g 1300 (recM pm P Z))]) (fun _ => True) 0 0 := by
  refine q_ofW (cc := cX11_record) (maxL := 2) (ret := none) (fun sz h => h.self) (by decide) rfl (Nat.le_of_ble_eq_true rfl) ?_
  intro p e s m args below meth c A ls S0 hr hlocks hnme hK hA hAe hW hD0 hX hl
  have hW : gW g A s.heap s.heap [] [(mo, .inr (11, [.ref az, .ref ap, .int (iI pm), .ref ak, .int (iI ik), .ref ax, .int (iI ty), .int (iI th), .ref a1, .ref a2, .int (iI mn), .ref a3, .int (iI wt), .ref a4, .ref a5, .ref a6, .ref v1, .ref v2, .ref v3, .ref v4, .ref v5, .ref v6, .int (iI bn), .int (iI wh), .int (iI dp), .int (iI dg)])), (az, gI g 325 Z), (ap, gI g 1300 P)] := hW
  have hl : lv_has ls 2 [(0, .ref mo)] := hl
  have hinX11 : ∀ w ∈ wsX110, w ∈ wsX11_record := fun w h => List.mem_cons_of_mem _ (List.mem_append_right _ h)
  refine lv_aload_n S0.1 S0.2.1 dX11_record_0 rfl (lv_at hl 0 rfl) ?_
  refine q_get (C := RX11) (T := TX11) (N := 26) S0 hK hW.1 hinX11 0 rfl rfl 2 (by decide) (List.mem_of_getElem? (i := 1) rfl) rfl rfl dX11_record_1 ?_
  refine q_iconst S0 dX11_record_4 ?_
  refine q_icmp_ne (tgt := 49) S0 (by omega) dX11_record_5 (by decide) (fun c5 => ?_) (fun c5 => ?_)
  · skip
    refine q_iconst S0 dX11_record_49 ?_
    refine lv_istore_n (lv' := [(1, .int (iI 0)), (0, .ref mo)]) S0.1 S0.2.1 dX11_record_50 rfl hl (by decide) rfl (fun ls hl => ?_)
    refine q_loop (α := Int × (Nat → Int)) (fun (z_ : Int × (Nat → Int)) => match z_ with | (k9, h9) => (0 ≤ k9 ∧ k9 ≤ 325) ∧ h9 = cpo Z (P) ((325 * pm).toNat) k9.toNat) (fun (z_ : Int × (Nat → Int)) => match z_ with | (k9, h9) => (325 - k9).toNat) (fun (z_ : Int × (Nat → Int)) => match z_ with | (k9, h9) => [(mo, .inr (11, [.ref az, .ref ap, .int (iI pm), .ref ak, .int (iI ik), .ref ax, .int (iI ty), .int (iI th), .ref a1, .ref a2, .int (iI mn), .ref a3, .int (iI wt), .ref a4, .ref a5, .ref a6, .ref v1, .ref v2, .ref v3, .ref v4, .ref v5, .ref v6, .int (iI bn), .int (iI wh), .int (iI dp), .int (iI dg)])), (az, gI g 325 Z), (ap, gI g 1300 h9)]) (fun (z_ : Int × (Nat → Int)) => match z_ with | (k9, h9) => [(1, .int (iI k9)), (0, .ref mo)]) ?_ (0, P) (by refine ⟨by omega, ?_⟩; exact (cpo_0 Z (P) ((325 * pm).toNat)).symm) hW (lv_sub hl [0, 1] rfl)
    rintro ⟨k9, h9⟩ hinv IHl H locs ls hW hl
    try dsimp only at hinv
    have hW : gW g A s.heap H _ [(mo, .inr (11, [.ref az, .ref ap, .int (iI pm), .ref ak, .int (iI ik), .ref ax, .int (iI ty), .int (iI th), .ref a1, .ref a2, .int (iI mn), .ref a3, .int (iI wt), .ref a4, .ref a5, .ref a6, .ref v1, .ref v2, .ref v3, .ref v4, .ref v5, .ref v6, .int (iI bn), .int (iI wh), .int (iI dp), .int (iI dg)])), (az, gI g 325 Z), (ap, gI g 1300 h9)] := hW
    have hl : lv_has ls 2 [(1, .int (iI k9)), (0, .ref mo)] := hl
    obtain ⟨hk9, hh9⟩ := hinv
    refine lv_iload_n S0.1 S0.2.1 dX11_record_51 rfl (lv_at hl 0 rfl) ?_
    refine q_sipush S0 (by decide) dX11_record_52 ?_
    refine q_icmp_ge (tgt := 85) S0 (by omega) dX11_record_55 (by decide) (fun c55 => ?_) (fun c55 => ?_)
    · skip
      refine lv_aload_n S0.1 S0.2.1 dX11_record_85 rfl (lv_at hl 1 rfl) ?_
      refine lv_dup S0.1 S0.2.1 dX11_record_86 rfl ?_
      refine q_get (C := RX11) (T := TX11) (N := 26) S0 hK hW.1 hinX11 0 rfl rfl 2 (by decide) (List.mem_of_getElem? (i := 1) rfl) rfl rfl dX11_record_87 ?_
      refine q_iconst S0 dX11_record_90 ?_
      refine q_iadd S0 dX11_record_91 ?_
      refine q_put (C := RX11) (T := TX11) (N := 26) S0 hK hW hinX11 tyX11_ok nmX11 0 rfl rfl 2 (by decide) (List.mem_of_getElem? (i := 1) rfl) rfl rfl rfl rfl (Nat.le_of_ble_eq_true rfl) dX11_record_92 (fun H locs hW => ?_)
      have hW : gW g A s.heap H _ [(mo, .inr (11, [.ref az, .ref ap, .int (iI (pm + 1)), .ref ak, .int (iI ik), .ref ax, .int (iI ty), .int (iI th), .ref a1, .ref a2, .int (iI mn), .ref a3, .int (iI wt), .ref a4, .ref a5, .ref a6, .ref v1, .ref v2, .ref v3, .ref v4, .ref v5, .ref v6, .int (iI bn), .int (iI wh), .int (iI dp), .int (iI dg)])), (az, gI g 325 Z), (ap, gI g 1300 h9)] := hW
      exact q_vret S0 hr hlocks () (trivial) rfl (hW.sub [0, 1, 2] rfl (by unfold recM recN; first | (rw [if_pos rfl, if_pos rfl, hh9, show k9.toNat = 325 by omega]; rfl) | (rw [if_neg (by omega), if_neg (by omega), hh9, show k9.toNat = 325 by omega]; rfl))) (Nat.le_of_ble_eq_true rfl) (Nat.le_of_ble_eq_true rfl) dX11_record_95
    · skip
      refine lv_aload_n S0.1 S0.2.1 dX11_record_58 rfl (lv_at hl 1 rfl) ?_
      refine q_get (C := RX11) (T := TX11) (N := 26) S0 hK hW.1 hinX11 0 rfl rfl 1 (by decide) (List.mem_of_getElem? (i := 2) rfl) rfl rfl dX11_record_59 ?_
      refine lv_aload_n S0.1 S0.2.1 dX11_record_62 rfl (lv_at hl 1 rfl) ?_
      refine q_get (C := RX11) (T := TX11) (N := 26) S0 hK hW.1 hinX11 0 rfl rfl 2 (by decide) (List.mem_of_getElem? (i := 1) rfl) rfl rfl dX11_record_63 ?_
      refine q_sipush S0 (by decide) dX11_record_66 ?_
      refine q_imul S0 dX11_record_69 ?_
      refine lv_iload_n S0.1 S0.2.1 dX11_record_70 rfl (lv_at hl 0 rfl) ?_
      refine q_iadd S0 dX11_record_71 ?_
      refine lv_aload_n S0.1 S0.2.1 dX11_record_72 rfl (lv_at hl 1 rfl) ?_
      refine q_get (C := RX11) (T := TX11) (N := 26) S0 hK hW.1 hinX11 0 rfl rfl 0 (by decide) (List.mem_of_getElem? (i := 3) rfl) rfl rfl dX11_record_73 ?_
      refine lv_iload_n S0.1 S0.2.1 dX11_record_76 rfl (lv_at hl 0 rfl) ?_
      refine q_iald S0 hK hW.1 1 rfl (by omega) dX11_record_77 ?_
      refine q_iast S0 hK hW 2 rfl (by omega) dX11_record_78 (fun H locs hW => ?_)
      rw [show ((pm * 325) + k9).toNat = (325 * pm).toNat + k9.toNat from by omega] at hW
      have hW : gW g A s.heap H _ [(mo, .inr (11, [.ref az, .ref ap, .int (iI pm), .ref ak, .int (iI ik), .ref ax, .int (iI ty), .int (iI th), .ref a1, .ref a2, .int (iI mn), .ref a3, .int (iI wt), .ref a4, .ref a5, .ref a6, .ref v1, .ref v2, .ref v3, .ref v4, .ref v5, .ref v6, .int (iI bn), .int (iI wh), .int (iI dp), .int (iI dg)])), (az, gI g 325 Z), (ap, gI g 1300 (up h9 ((325 * pm).toNat + k9.toNat) (Z (k9).toNat)))] := hW
      refine q_iinc (lv' := [(1, .int (iI (k9 + 1))), (0, .ref mo)]) S0 dX11_record_79 hl (k := 0) rfl (by decide) rfl (fun ls hl => ?_)
      refine lv_goto (tgt := 51) S0.1 S0.2.1 dX11_record_82 (by decide) ?_
      exact IHl (k9 + 1, up h9 (((325 * pm).toNat) + k9.toNat) (Z k9.toNat)) H locs ls (by refine ⟨by omega, ?_⟩; rw [show (k9 + 1).toNat = k9.toNat + 1 by omega, ← cpo_up, hh9]) (by (try dsimp only); omega) hW (lv_sub hl [0, 1] rfl)
  · skip
    exact absurd c5 (by omega)
