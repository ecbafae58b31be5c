theorem WZ_mRd {f : Nat → Int} (hf : ∀ j, 0 ≤ f j ∧ f j < 65536) : ∀ (k : Nat) (i : Int) (N : NT), 0 ≤ i → i + k ≤ 40 → WN i N → WZ (mRd f k i N).1 ∧ (((mRd f k i N).2 = -2 ∧ WN (i + k) (mRd f k i N).1) ∨ (i ≤ (mRd f k i N).2 ∧ (mRd f k i N).2 < 40))
  | 0, i, N, _, _, h => ⟨h.2.1, Or.inl ⟨rfl, by rw [show i + ((0 : Nat) : Int) = i by omega]; exact h⟩⟩
  | k + 1, i, N, h0, hi, h => by
    have hq := hf i.toNat
    have hw := WN_reads (c := f i.toNat) h (by omega) (by omega)
    unfold mRd
    split
    · exact ⟨hw.1, Or.inr ⟨Int.le_refl i, by show i < 40; omega⟩⟩
    · rename_i hne
      have ih := WZ_mRd hf k (i + 1) _ (by omega) (by omega) (hw.2 hne)
      refine ⟨ih.1, ?_⟩
      rcases ih.2 with q | q
      · exact Or.inl ⟨q.1, by rw [show i + ((k + 1 : Nat) : Int) = i + 1 + k by omega]; exact q.2⟩
      · exact Or.inr ⟨by omega, q.2⟩
theorem mRead_all {N : NT} {f : Nat → Int} {n : Int} (h : WZ N) (hn : 0 ≤ n ∧ n ≤ 40) (hf : ∀ j, 0 ≤ f j ∧ f j < 65536) : WZ (mRead N f n).1 ∧ ((mRead N f n).2 = -1 → RN n (mRead N f n).1) ∧ (-1 ≤ (mRead N f n).2 ∧ (mRead N f n).2 ≤ 40) := by
  have q := WZ_mRd hf n.toNat 0 (mR0 N) (by omega) (by omega) (WN_0 h)
  rw [show (0 : Int) + ((n.toNat : Nat) : Int) = n by omega] at q
  unfold mRead mRz
  split
  · rename_i h2
    split
    · exact ⟨q.1, fun z => absurd (show n = -1 from z) (by omega), by show -1 ≤ n ∧ n ≤ 40; omega⟩
    · rename_i h3
      have hN : WN n (mRd f n.toNat 0 (mR0 N)).1 := by
        rcases q.2 with z | z
        · exact z.2
        · omega
      have hB := WB_ends hN (by have := hN.2.2.1; omega)
      exact ⟨WZ_bnd _ _ hB.2.1, fun _ => RN_binds hB.1, by show -1 ≤ (-1 : Int) ∧ (-1 : Int) ≤ 40; omega⟩
  · rename_i h2
    refine ⟨q.1, fun z => ?_, ?_⟩
    · rcases q.2 with y | y
      · exact absurd y.1 h2
      · omega
    · rcases q.2 with y | y
      · exact absurd y.1 h2
      · omega
theorem WZ_mRead {N : NT} {f : Nat → Int} {n : Int} (h : WZ N) (hn : 0 ≤ n ∧ n ≤ 40) (hf : ∀ j, 0 ≤ f j ∧ f j < 65536) : WZ (mRead N f n).1 := (mRead_all h hn hf).1
theorem RN_mRead {N : NT} {f : Nat → Int} {n : Int} (h : WZ N) (hn : 0 ≤ n ∧ n ≤ 40) (hf : ∀ j, 0 ≤ f j ∧ f j < 65536) : (mRead N f n).2 = -1 → 0 ≤ nN (mRead N f n).1 ∧ nN (mRead N f n).1 ≤ 40 := fun e => by
  have q := (mRead_all h hn hf).2.1 e
  unfold RN at q
  omega
theorem mRead_rng {N : NT} {f : Nat → Int} {n : Int} (h : WZ N) (hn : 0 ≤ n ∧ n ≤ 40) (hf : ∀ j, 0 ≤ f j ∧ f j < 65536) : -1 ≤ (mRead N f n).2 ∧ (mRead N f n).2 ≤ 40 := (mRead_all h hn hf).2.2
theorem lea_rng {K U : Nat → Int} (hU : ∀ j, 0 ≤ U j ∧ U j ≤ 999) : ∀ (k : Nat) (i l : Int), 0 ≤ l → l ≤ 1000 → 0 ≤ lea K U k i l ∧ lea K U k i l ≤ 1000
  | 0, _, l, a, b => ⟨a, b⟩
  | k + 1, i, l, a, b => by
    have h := hU i.toNat
    exact lea_rng hU k (i + 1) _ (by split <;> omega) (by split <;> omega)
theorem mLe_rng {N : NT} (h : WZ N) (_ : 0 ≤ nN N ∧ nN N ≤ 40) : 0 ≤ mLe N ∧ mLe N ≤ 1000 := lea_rng h.2.2.1 _ _ _ (by omega) (by omega)

set_option maxHeartbeats 4000000 in
set_option maxRecDepth 100000 in
theorem c_X11_least (l : Launch) (g : GG) (mo az ap ak ax a1 a2 a3 a4 a5 a6 v1 v2 v3 v4 v5 v6 : Nat) (pm ik ty th bn : Int) (N : NT) (hZ : WZ N) (hn : 0 ≤ nN N ∧ nN N ≤ 40) : qPure l yX11_least wsX11_least ({ frames := 0, cells := 0, slots := 0, locals := 0 }) g [.ref mo] [(mo, .inr (11, [.ref az, .ref ap, .int (iI pm), .ref ak, .int (iI ik), .ref ax, .int (iI ty), .int (iI th), .ref a1, .ref a2, .int (iI (nN N)), .ref a3, .int (iI (nP N)), .ref a4, .ref a5, .ref a6, .ref v1, .ref v2, .ref v3, .ref v4, .ref v5, .ref v6, .int (iI bn), .int (iI (nWh N)), .int (iI (nD N)), .int (iI (nG N))])), (a1, gI g 41 (nK N)), (a2, gI g 41 (nU N))] (fun _ => True) (some (.int (iI (mLe N)))) := by
  refine q_ofP (cc := cX11_least) (maxL := 3) (ret := (some .int)) (by decide) rfl (Nat.le_of_ble_eq_true rfl) ?_
  intro p e s m args below meth c ls S0 hr hlocks hK hP hX hl
  have hP : va_P g.1 vwCl [(mo, .inr (11, [.ref az, .ref ap, .int (iI pm), .ref ak, .int (iI ik), .ref ax, .int (iI ty), .int (iI th), .ref a1, .ref a2, .int (iI (nN N)), .ref a3, .int (iI (nP N)), .ref a4, .ref a5, .ref a6, .ref v1, .ref v2, .ref v3, .ref v4, .ref v5, .ref v6, .int (iI bn), .int (iI (nWh N)), .int (iI (nD N)), .int (iI (nG N))])), (a1, gI g 41 (nK N)), (a2, gI g 41 (nU N))] s.heap := hP
  have hl : lv_has ls 3 [(0, .ref mo)] := hl
  have hinX11 : ∀ w ∈ wsX110, w ∈ wsX11_least := fun w h => List.mem_cons_of_mem _ (List.mem_append_right _ h)
  refine q_iconst S0 dX11_least_0 ?_
  refine lv_istore_n (lv' := [(1, .int (iI 0)), (0, .ref mo)]) S0.1 S0.2.1 dX11_least_1 rfl hl (by decide) rfl (fun ls hl => ?_)
  refine q_iconst S0 dX11_least_2 ?_
  refine lv_istore_n (lv' := [(2, .int (iI 0)), (1, .int (iI 0)), (0, .ref mo)]) S0.1 S0.2.1 dX11_least_3 rfl hl (by decide) rfl (fun ls hl => ?_)
  refine q_loopP (α := Int × Int) (fun (z_ : Int × Int) => match z_ with | (i, l9) => (0 ≤ i ∧ i ≤ nN N) ∧ (0 ≤ l9 ∧ l9 ≤ 1000) ∧ lea (nK N) (nU N) (nN N - i).toNat i l9 = mLe N) (fun (z_ : Int × Int) => match z_ with | (i, l9) => (nN N - i).toNat) (fun (z_ : Int × Int) => match z_ with | (i, l9) => [(2, .int (iI i)), (1, .int (iI l9)), (0, .ref mo)]) ?_ (0, 0) (by refine ⟨by omega, by omega, by rw [show nN N - 0 = nN N by omega]; rfl⟩) (lv_sub hl [0, 1, 2] rfl)
  rintro ⟨i, l9⟩ hinv IHl ls hl
  try dsimp only at hinv
  have hl : lv_has ls 3 [(2, .int (iI i)), (1, .int (iI l9)), (0, .ref mo)] := hl
  obtain ⟨hi, hl9, heq⟩ := hinv
  have hkk := hZ.2.1 i.toNat
  have huu := hZ.2.2.1 i.toNat
  refine lv_iload_n S0.1 S0.2.1 dX11_least_4 rfl (lv_at hl 0 rfl) ?_
  refine lv_aload_n S0.1 S0.2.1 dX11_least_5 rfl (lv_at hl 2 rfl) ?_
  refine q_get (C := RX11) (T := TX11) (N := 26) S0 hK hP hinX11 0 rfl rfl 10 (by decide) (List.mem_of_getElem? (i := 1) rfl) rfl rfl dX11_least_6 ?_
  refine q_icmp_ge (tgt := 52) S0 (by omega) dX11_least_9 (by decide) (fun c9 => ?_) (fun c9 => ?_)
  · skip
    refine lv_iload_n S0.1 S0.2.1 dX11_least_52 rfl (lv_at hl 1 rfl) ?_
    exact qp_iret S0 hr hlocks (by rw [← heq, show (nN N - i).toNat = 0 by omega]; rfl) dX11_least_53
  · skip
    refine lv_aload_n S0.1 S0.2.1 dX11_least_12 rfl (lv_at hl 2 rfl) ?_
    refine q_get (C := RX11) (T := TX11) (N := 26) S0 hK hP hinX11 0 rfl rfl 8 (by decide) (List.mem_of_getElem? (i := 2) rfl) rfl rfl dX11_least_13 ?_
    refine lv_iload_n S0.1 S0.2.1 dX11_least_16 rfl (lv_at hl 0 rfl) ?_
    refine q_iald S0 hK hP 1 rfl (by omega) dX11_least_17 ?_
    refine q_bipush S0 (by decide) dX11_least_18 ?_
    refine q_icmp_ne (tgt := 44) S0 (by omega) dX11_least_20 (by decide) (fun c20 => ?_) (fun c20 => ?_)
    · skip
      refine lv_iload_n S0.1 S0.2.1 dX11_least_44 rfl (lv_at hl 1 rfl) ?_
      refine lv_istore_n (lv' := [(1, .int (iI l9)), (2, .int (iI i)), (0, .ref mo)]) S0.1 S0.2.1 dX11_least_45 rfl hl (by decide) rfl (fun ls hl => ?_)
      refine q_iinc (lv' := [(2, .int (iI (i + 1))), (1, .int (iI l9)), (0, .ref mo)]) S0 dX11_least_46 hl (k := 1) rfl (by decide) rfl (fun ls hl => ?_)
      refine lv_goto (tgt := 4) S0.1 S0.2.1 dX11_least_49 (by decide) ?_
      exact IHl (i + 1, l9) ls (by refine ⟨by omega, by omega, ?_⟩; rw [← heq, show (nN N - i).toNat = (nN N - (i + 1)).toNat + 1 by omega]; show _ = lea (nK N) (nU N) _ (i + 1) (if nK N i.toNat = 8 ∧ l9 ≤ nU N i.toNat then nU N i.toNat + 1 else l9); first | rw [if_pos (by omega)] | rw [if_neg (by omega)]) (by dsimp only; omega) (lv_sub hl [0, 1, 2] rfl)
    · skip
      refine lv_aload_n S0.1 S0.2.1 dX11_least_23 rfl (lv_at hl 2 rfl) ?_
      refine q_get (C := RX11) (T := TX11) (N := 26) S0 hK hP hinX11 0 rfl rfl 9 (by decide) (List.mem_of_getElem? (i := 3) rfl) rfl rfl dX11_least_24 ?_
      refine lv_iload_n S0.1 S0.2.1 dX11_least_27 rfl (lv_at hl 0 rfl) ?_
      refine q_iald S0 hK hP 2 rfl (by omega) dX11_least_28 ?_
      refine lv_iload_n S0.1 S0.2.1 dX11_least_29 rfl (lv_at hl 1 rfl) ?_
      refine q_icmp_lt (tgt := 44) S0 (by omega) dX11_least_30 (by decide) (fun c30 => ?_) (fun c30 => ?_)
      · skip
        refine lv_iload_n S0.1 S0.2.1 dX11_least_44 rfl (lv_at hl 1 rfl) ?_
        refine lv_istore_n (lv' := [(1, .int (iI l9)), (2, .int (iI i)), (0, .ref mo)]) S0.1 S0.2.1 dX11_least_45 rfl hl (by decide) rfl (fun ls hl => ?_)
        refine q_iinc (lv' := [(2, .int (iI (i + 1))), (1, .int (iI l9)), (0, .ref mo)]) S0 dX11_least_46 hl (k := 1) rfl (by decide) rfl (fun ls hl => ?_)
        refine lv_goto (tgt := 4) S0.1 S0.2.1 dX11_least_49 (by decide) ?_
        exact IHl (i + 1, l9) ls (by refine ⟨by omega, by omega, ?_⟩; rw [← heq, show (nN N - i).toNat = (nN N - (i + 1)).toNat + 1 by omega]; show _ = lea (nK N) (nU N) _ (i + 1) (if nK N i.toNat = 8 ∧ l9 ≤ nU N i.toNat then nU N i.toNat + 1 else l9); first | rw [if_pos (by omega)] | rw [if_neg (by omega)]) (by dsimp only; omega) (lv_sub hl [0, 1, 2] rfl)
      · skip
        refine lv_aload_n S0.1 S0.2.1 dX11_least_33 rfl (lv_at hl 2 rfl) ?_
        refine q_get (C := RX11) (T := TX11) (N := 26) S0 hK hP hinX11 0 rfl rfl 9 (by decide) (List.mem_of_getElem? (i := 3) rfl) rfl rfl dX11_least_34 ?_
        refine lv_iload_n S0.1 S0.2.1 dX11_least_37 rfl (lv_at hl 0 rfl) ?_
        refine q_iald S0 hK hP 2 rfl (by omega) dX11_least_38 ?_
        refine q_iconst S0 dX11_least_39 ?_
        refine q_iadd S0 dX11_least_40 ?_
        refine lv_goto (tgt := 45) S0.1 S0.2.1 dX11_least_41 (by decide) ?_
        refine lv_istore_n (lv' := [(1, .int (iI (((nU N) (i).toNat) + 1))), (2, .int (iI i)), (0, .ref mo)]) S0.1 S0.2.1 dX11_least_45 rfl hl (by decide) rfl (fun ls hl => ?_)
        refine q_iinc (lv' := [(2, .int (iI (i + 1))), (1, .int (iI (((nU N) (i).toNat) + 1))), (0, .ref mo)]) S0 dX11_least_46 hl (k := 1) rfl (by decide) rfl (fun ls hl => ?_)
        refine lv_goto (tgt := 4) S0.1 S0.2.1 dX11_least_49 (by decide) ?_
        exact IHl (i + 1, ((nU N) (i).toNat) + 1) ls (by refine ⟨by omega, by omega, ?_⟩; rw [← heq, show (nN N - i).toNat = (nN N - (i + 1)).toNat + 1 by omega]; show _ = lea (nK N) (nU N) _ (i + 1) (if nK N i.toNat = 8 ∧ l9 ≤ nU N i.toNat then nU N i.toNat + 1 else l9); first | rw [if_pos (by omega)] | rw [if_neg (by omega)]) (by dsimp only; omega) (lv_sub hl [0, 1, 2] rfl)
set_option maxHeartbeats 4000000 in
set_option maxRecDepth 100000 in
theorem c_X11_gets (l : Launch) (g : GG) (mo az ap ak ax a1 a2 a3 a4 a5 a6 v1 v2 v3 v4 v5 v6 : Nat) (pm ik ty th bn : Int) (N : NT) (Z : Nat → Int) (u : Int) (hu : 0 ≤ u ∧ u < 4) (hn : 0 ≤ nN N ∧ nN N ≤ 40) : qMet l yX11_gets wsX11_gets ({ frames := 0, cells := 0, slots := 0, locals := 0 }) g [.ref mo, .int (iI u)] [(mo, .inr (11, [.ref az, .ref ap, .int (iI pm), .ref ak, .int (iI ik), .ref ax, .int (iI ty), .int (iI th), .ref a1, .ref a2, .int (iI (nN N)), .ref a3, .int (iI (nP N)), .ref a4, .ref a5, .ref a6, .ref v1, .ref v2, .ref v3, .ref v4, .ref v5, .ref v6, .int (iI bn), .int (iI (nWh N)), .int (iI (nD N)), .int (iI (nG N))])), (a1, gI g 41 (nK N)), (a2, gI g 41 (nU N)), (az, gI g 325 Z)] (fun _ => True) (fun _ => True) (S := Unit) (fun _ => some (.int (iI (nN N)))) (fun _ => [(mo, .inr (11, [.ref az, .ref ap, .int (iI pm), .ref ak, .int (iI ik), .ref ax, .int (iI ty), .int (iI th), .ref a1, .ref a2, .int (iI (nN N)), .ref a3, .int (iI (nP N)), .ref a4, .ref a5, .ref a6, .ref v1, .ref v2, .ref v3, .ref v4, .ref v5, .ref v6, .int (iI bn), .int (iI (nWh N)), .int (iI (nD N)), .int (iI (nG N))])), (a1, gI g 41 (nK N)), (a2, gI g 41 (nU N)), (az, gI g 325 (gzs N Z u 40))]) (fun _ => True) 0 0 := by
  refine q_ofW (cc := cX11_gets) (maxL := 3) (ret := (some .int)) (fun sz h => h.self) (by decide) rfl (Nat.le_of_ble_eq_true rfl) ?_
  intro p e s m args below meth c A ls S0 hr hlocks hnme hK hA hAe hW hD0 hX hl
  have hW : gW g A s.heap s.heap [] [(mo, .inr (11, [.ref az, .ref ap, .int (iI pm), .ref ak, .int (iI ik), .ref ax, .int (iI ty), .int (iI th), .ref a1, .ref a2, .int (iI (nN N)), .ref a3, .int (iI (nP N)), .ref a4, .ref a5, .ref a6, .ref v1, .ref v2, .ref v3, .ref v4, .ref v5, .ref v6, .int (iI bn), .int (iI (nWh N)), .int (iI (nD N)), .int (iI (nG N))])), (a1, gI g 41 (nK N)), (a2, gI g 41 (nU N)), (az, gI g 325 Z)] := hW
  have hl : lv_has ls 3 [(0, .ref mo), (1, .int (iI u))] := hl
  have hinX11 : ∀ w ∈ wsX110, w ∈ wsX11_gets := fun w h => List.mem_cons_of_mem _ (List.mem_append_right _ h)
  refine lv_aload_n S0.1 S0.2.1 dX11_gets_0 rfl (lv_at hl 0 rfl) ?_
  refine q_get (C := RX11) (T := TX11) (N := 26) S0 hK hW.1 hinX11 0 rfl rfl 0 (by decide) (List.mem_of_getElem? (i := 1) rfl) rfl rfl dX11_gets_1 ?_
  refine q_iconst S0 dX11_gets_4 ?_
  refine q_bipush S0 (by decide) dX11_gets_5 ?_
  refine lv_iload_n S0.1 S0.2.1 dX11_gets_7 rfl (lv_at hl 1 rfl) ?_
  refine q_imul S0 dX11_gets_8 ?_
  refine q_iadd S0 dX11_gets_9 ?_
  refine lv_aload_n S0.1 S0.2.1 dX11_gets_10 rfl (lv_at hl 0 rfl) ?_
  refine q_get (C := RX11) (T := TX11) (N := 26) S0 hK hW.1 hinX11 0 rfl rfl 10 (by decide) (List.mem_of_getElem? (i := 2) rfl) rfl rfl dX11_gets_11 ?_
  refine q_iast S0 hK hW 3 rfl (by omega) dX11_gets_14 (fun H locs hW => ?_)
  rw [show (1 + (81 * u)).toNat = (1 + 81 * u).toNat from rfl] at hW
  have hW : gW g A s.heap H _ [(mo, .inr (11, [.ref az, .ref ap, .int (iI pm), .ref ak, .int (iI ik), .ref ax, .int (iI ty), .int (iI th), .ref a1, .ref a2, .int (iI (nN N)), .ref a3, .int (iI (nP N)), .ref a4, .ref a5, .ref a6, .ref v1, .ref v2, .ref v3, .ref v4, .ref v5, .ref v6, .int (iI bn), .int (iI (nWh N)), .int (iI (nD N)), .int (iI (nG N))])), (a1, gI g 41 (nK N)), (a2, gI g 41 (nU N)), (az, gI g 325 (up Z ((1 + 81 * u).toNat) (nN N)))] := hW
  refine q_iconst S0 dX11_gets_15 ?_
  refine lv_istore_n (lv' := [(2, .int (iI 0)), (0, .ref mo), (1, .int (iI u))]) S0.1 S0.2.1 dX11_gets_16 rfl hl (by decide) rfl (fun ls hl => ?_)
  refine q_loop (α := Int × (Nat → Int)) (fun (z_ : Int × (Nat → Int)) => match z_ with | (k9, h9) => (0 ≤ k9 ∧ k9 ≤ 40) ∧ h9 = gzs N Z u k9.toNat) (fun (z_ : Int × (Nat → Int)) => match z_ with | (k9, h9) => (40 - k9).toNat) (fun (z_ : Int × (Nat → Int)) => match z_ with | (k9, h9) => [(mo, .inr (11, [.ref az, .ref ap, .int (iI pm), .ref ak, .int (iI ik), .ref ax, .int (iI ty), .int (iI th), .ref a1, .ref a2, .int (iI (nN N)), .ref a3, .int (iI (nP N)), .ref a4, .ref a5, .ref a6, .ref v1, .ref v2, .ref v3, .ref v4, .ref v5, .ref v6, .int (iI bn), .int (iI (nWh N)), .int (iI (nD N)), .int (iI (nG N))])), (a1, gI g 41 (nK N)), (a2, gI g 41 (nU N)), (az, gI g 325 h9)]) (fun (z_ : Int × (Nat → Int)) => match z_ with | (k9, h9) => [(2, .int (iI k9)), (0, .ref mo), (1, .int (iI u))]) ?_ (0, gzs N Z u 0) (by exact ⟨by omega, rfl⟩) hW (lv_sub hl [0, 1, 2] rfl)
  rintro ⟨k9, h9⟩ hinv IHl H locs ls hW hl
  try dsimp only at hinv
  have hW : gW g A s.heap H _ [(mo, .inr (11, [.ref az, .ref ap, .int (iI pm), .ref ak, .int (iI ik), .ref ax, .int (iI ty), .int (iI th), .ref a1, .ref a2, .int (iI (nN N)), .ref a3, .int (iI (nP N)), .ref a4, .ref a5, .ref a6, .ref v1, .ref v2, .ref v3, .ref v4, .ref v5, .ref v6, .int (iI bn), .int (iI (nWh N)), .int (iI (nD N)), .int (iI (nG N))])), (a1, gI g 41 (nK N)), (a2, gI g 41 (nU N)), (az, gI g 325 h9)] := hW
  have hl : lv_has ls 3 [(2, .int (iI k9)), (0, .ref mo), (1, .int (iI u))] := hl
  obtain ⟨hk9, hh9⟩ := hinv
  refine lv_iload_n S0.1 S0.2.1 dX11_gets_17 rfl (lv_at hl 0 rfl) ?_
  refine q_bipush S0 (by decide) dX11_gets_18 ?_
  refine q_icmp_ge (tgt := 95) S0 (by omega) dX11_gets_20 (by decide) (fun c20 => ?_) (fun c20 => ?_)
  · skip
    refine lv_aload_n S0.1 S0.2.1 dX11_gets_95 rfl (lv_at hl 1 rfl) ?_
    refine q_get (C := RX11) (T := TX11) (N := 26) S0 hK hW.1 hinX11 0 rfl rfl 10 (by decide) (List.mem_of_getElem? (i := 2) rfl) rfl rfl dX11_gets_96 ?_
    have hfin9 : h9 = gzs N Z u 40 := by rw [hh9, show k9.toNat = 40 by omega]
    subst hfin9
    exact q_iret S0 hr hlocks () (trivial) (rfl) (hW.sub [0, 1, 2, 3] rfl (rfl)) (Nat.le_of_ble_eq_true rfl) (Nat.le_of_ble_eq_true rfl) dX11_gets_99
  · skip
    refine lv_aload_n S0.1 S0.2.1 dX11_gets_23 rfl (lv_at hl 1 rfl) ?_
    refine q_get (C := RX11) (T := TX11) (N := 26) S0 hK hW.1 hinX11 0 rfl rfl 0 (by decide) (List.mem_of_getElem? (i := 1) rfl) rfl rfl dX11_gets_24 ?_
    refine q_iconst S0 dX11_gets_27 ?_
    refine q_bipush S0 (by decide) dX11_gets_28 ?_
    refine lv_iload_n S0.1 S0.2.1 dX11_gets_30 rfl (lv_at hl 2 rfl) ?_
    refine q_imul S0 dX11_gets_31 ?_
    refine q_iadd S0 dX11_gets_32 ?_
    refine q_iconst S0 dX11_gets_33 ?_
    refine lv_iload_n S0.1 S0.2.1 dX11_gets_34 rfl (lv_at hl 0 rfl) ?_
    refine q_imul S0 dX11_gets_35 ?_
    refine q_iadd S0 dX11_gets_36 ?_
    refine q_cut (α := Int) (fun x9 => F0 m 55 ls (.int (iI x9) :: [.int (iI ((2 + (81 * u)) + (2 * k9))), .ref az])) (fun x9 => x9 = if k9 < nN N then nK N k9.toNat else 0) (fun x9 hx9 => ?_) (fun hJ37 => ?_)
    · skip
      refine q_iast S0 hK hW 3 rfl (by omega) dX11_gets_55 (fun H locs hW => ?_)
      rw [show ((2 + (81 * u)) + (2 * k9)).toNat = (2 + 81 * u + 2 * k9).toNat from rfl] at hW
      have hW : gW g A s.heap H _ [(mo, .inr (11, [.ref az, .ref ap, .int (iI pm), .ref ak, .int (iI ik), .ref ax, .int (iI ty), .int (iI th), .ref a1, .ref a2, .int (iI (nN N)), .ref a3, .int (iI (nP N)), .ref a4, .ref a5, .ref a6, .ref v1, .ref v2, .ref v3, .ref v4, .ref v5, .ref v6, .int (iI bn), .int (iI (nWh N)), .int (iI (nD N)), .int (iI (nG N))])), (a1, gI g 41 (nK N)), (a2, gI g 41 (nU N)), (az, gI g 325 (up h9 ((2 + 81 * u + 2 * k9).toNat) x9))] := hW
      refine lv_aload_n S0.1 S0.2.1 dX11_gets_56 rfl (lv_at hl 1 rfl) ?_
      refine q_get (C := RX11) (T := TX11) (N := 26) S0 hK hW.1 hinX11 0 rfl rfl 0 (by decide) (List.mem_of_getElem? (i := 1) rfl) rfl rfl dX11_gets_57 ?_
      refine q_iconst S0 dX11_gets_60 ?_
      refine q_bipush S0 (by decide) dX11_gets_61 ?_
      refine lv_iload_n S0.1 S0.2.1 dX11_gets_63 rfl (lv_at hl 2 rfl) ?_
      refine q_imul S0 dX11_gets_64 ?_
      refine q_iadd S0 dX11_gets_65 ?_
      refine q_iconst S0 dX11_gets_66 ?_
      refine lv_iload_n S0.1 S0.2.1 dX11_gets_67 rfl (lv_at hl 0 rfl) ?_
      refine q_imul S0 dX11_gets_68 ?_
      refine q_iadd S0 dX11_gets_69 ?_
      refine q_cut (α := Int) (fun y9 => F0 m 88 ls (.int (iI y9) :: [.int (iI ((3 + (81 * u)) + (2 * k9))), .ref az])) (fun y9 => y9 = if k9 < nN N then nU N k9.toNat else 0) (fun y9 hy9 => ?_) (fun hJ70 => ?_)
      · skip
        refine q_iast S0 hK hW 3 rfl (by omega) dX11_gets_88 (fun H locs hW => ?_)
        rw [show ((3 + (81 * u)) + (2 * k9)).toNat = (3 + 81 * u + 2 * k9).toNat from rfl] at hW
        have hW : gW g A s.heap H _ [(mo, .inr (11, [.ref az, .ref ap, .int (iI pm), .ref ak, .int (iI ik), .ref ax, .int (iI ty), .int (iI th), .ref a1, .ref a2, .int (iI (nN N)), .ref a3, .int (iI (nP N)), .ref a4, .ref a5, .ref a6, .ref v1, .ref v2, .ref v3, .ref v4, .ref v5, .ref v6, .int (iI bn), .int (iI (nWh N)), .int (iI (nD N)), .int (iI (nG N))])), (a1, gI g 41 (nK N)), (a2, gI g 41 (nU N)), (az, gI g 325 (up (up h9 ((2 + 81 * u + 2 * k9).toNat) x9) ((3 + 81 * u + 2 * k9).toNat) y9))] := hW
        refine q_iinc (lv' := [(2, .int (iI (k9 + 1))), (0, .ref mo), (1, .int (iI u))]) S0 dX11_gets_89 hl (k := 0) rfl (by decide) rfl (fun ls hl => ?_)
        refine lv_goto (tgt := 17) S0.1 S0.2.1 dX11_gets_92 (by decide) ?_
        exact IHl (k9 + 1, up (up h9 (2 + 81 * u + 2 * k9).toNat x9) (3 + 81 * u + 2 * k9).toNat y9) H locs ls (by refine ⟨by omega, ?_⟩; rw [gzs_s N Z hk9.1, hh9, hx9, hy9]) (by (try dsimp only); omega) hW (lv_sub hl [0, 1, 2] rfl)
      · skip
        refine lv_iload_n S0.1 S0.2.1 dX11_gets_70 rfl (lv_at hl 0 rfl) ?_
        refine lv_aload_n S0.1 S0.2.1 dX11_gets_71 rfl (lv_at hl 1 rfl) ?_
        refine q_get (C := RX11) (T := TX11) (N := 26) S0 hK hW.1 hinX11 0 rfl rfl 10 (by decide) (List.mem_of_getElem? (i := 2) rfl) rfl rfl dX11_gets_72 ?_
        refine q_icmp_ge (tgt := 87) S0 (by omega) dX11_gets_75 (by decide) (fun c75 => ?_) (fun c75 => ?_)
        · skip
          refine q_iconst S0 dX11_gets_87 ?_
          exact hJ70 _ (by first | (rw [if_pos (by omega)]; done) | (rw [if_neg (by omega)]; done) | omega)
        · skip
          refine lv_aload_n S0.1 S0.2.1 dX11_gets_78 rfl (lv_at hl 1 rfl) ?_
          refine q_get (C := RX11) (T := TX11) (N := 26) S0 hK hW.1 hinX11 0 rfl rfl 9 (by decide) (List.mem_of_getElem? (i := 4) rfl) rfl rfl dX11_gets_79 ?_
          refine lv_iload_n S0.1 S0.2.1 dX11_gets_82 rfl (lv_at hl 0 rfl) ?_
          refine q_iald S0 hK hW.1 2 rfl (by omega) dX11_gets_83 ?_
          refine lv_goto (tgt := 88) S0.1 S0.2.1 dX11_gets_84 (by decide) ?_
          exact hJ70 _ (by first | (rw [if_pos (by omega)]; done) | (rw [if_neg (by omega)]; done) | omega)
    · skip
      refine lv_iload_n S0.1 S0.2.1 dX11_gets_37 rfl (lv_at hl 0 rfl) ?_
      refine lv_aload_n S0.1 S0.2.1 dX11_gets_38 rfl (lv_at hl 1 rfl) ?_
      refine q_get (C := RX11) (T := TX11) (N := 26) S0 hK hW.1 hinX11 0 rfl rfl 10 (by decide) (List.mem_of_getElem? (i := 2) rfl) rfl rfl dX11_gets_39 ?_
      refine q_icmp_ge (tgt := 54) S0 (by omega) dX11_gets_42 (by decide) (fun c42 => ?_) (fun c42 => ?_)
      · skip
        refine q_iconst S0 dX11_gets_54 ?_
        exact hJ37 _ (by first | (rw [if_pos (by omega)]; done) | (rw [if_neg (by omega)]; done) | omega)
      · skip
        refine lv_aload_n S0.1 S0.2.1 dX11_gets_45 rfl (lv_at hl 1 rfl) ?_
        refine q_get (C := RX11) (T := TX11) (N := 26) S0 hK hW.1 hinX11 0 rfl rfl 8 (by decide) (List.mem_of_getElem? (i := 3) rfl) rfl rfl dX11_gets_46 ?_
        refine lv_iload_n S0.1 S0.2.1 dX11_gets_49 rfl (lv_at hl 0 rfl) ?_
        refine q_iald S0 hK hW.1 1 rfl (by omega) dX11_gets_50 ?_
        refine lv_goto (tgt := 55) S0.1 S0.2.1 dX11_gets_51 (by decide) ?_
        exact hJ37 _ (by first | (rw [if_pos (by omega)]; done) | (rw [if_neg (by omega)]; done) | omega)
set_option maxHeartbeats 4000000 in
set_option maxRecDepth 100000 in
theorem c_X11_takes (l : Launch) (g : GG) (mo az ap ak ax a1 a2 a3 a4 a5 a6 v1 v2 v3 v4 v5 v6 : Nat) (pm ik ty th bn : Int) (N : NT) (Z : Nat → Int) (u : Int) (hu : 0 ≤ u ∧ u < 4) (hs : 0 ≤ Z (1 + 81 * u).toNat ∧ Z (1 + 81 * u).toNat ≤ 40) : qMet l yX11_takes wsX11_takes ({ frames := 1, cells := 0, slots := 0, locals := 22 }) g [.ref mo, .int (iI u)] [(mo, .inr (11, [.ref az, .ref ap, .int (iI pm), .ref ak, .int (iI ik), .ref ax, .int (iI ty), .int (iI th), .ref a1, .ref a2, .int (iI (nN N)), .ref a3, .int (iI (nP N)), .ref a4, .ref a5, .ref a6, .ref v1, .ref v2, .ref v3, .ref v4, .ref v5, .ref v6, .int (iI bn), .int (iI (nWh N)), .int (iI (nD N)), .int (iI (nG N))])), (a1, gI g 41 (nK N)), (a2, gI g 41 (nU N)), (az, gI g 325 Z)] (fun _ => True) (fun _ => True) (S := Unit) (fun _ => none) (fun _ => [(mo, .inr (11, [.ref az, .ref ap, .int (iI pm), .ref ak, .int (iI ik), .ref ax, .int (iI ty), .int (iI th), .ref a1, .ref a2, .int (iI (nN (mTake N Z u))), .ref a3, .int (iI (nP (mTake N Z u))), .ref a4, .ref a5, .ref a6, .ref v1, .ref v2, .ref v3, .ref v4, .ref v5, .ref v6, .int (iI bn), .int (iI (nWh (mTake N Z u))), .int (iI (nD (mTake N Z u))), .int (iI (nG (mTake N Z u)))])), (a1, gI g 41 (nK (mTake N Z u))), (a2, gI g 41 (nU (mTake N Z u))), (az, gI g 325 Z)]) (fun _ => True) 0 0 := by
  refine q_ofW (cc := cX11_takes) (maxL := 3) (ret := none) (fun sz h => h.self) (by decide) rfl (Nat.le_of_ble_eq_true rfl) ?_
  intro p e s m args below meth c A ls S0 hr hlocks hnme hK hA hAe hW hD0 hX hl
  have hW : gW g A s.heap s.heap [] [(mo, .inr (11, [.ref az, .ref ap, .int (iI pm), .ref ak, .int (iI ik), .ref ax, .int (iI ty), .int (iI th), .ref a1, .ref a2, .int (iI (nN N)), .ref a3, .int (iI (nP N)), .ref a4, .ref a5, .ref a6, .ref v1, .ref v2, .ref v3, .ref v4, .ref v5, .ref v6, .int (iI bn), .int (iI (nWh N)), .int (iI (nD N)), .int (iI (nG N))])), (a1, gI g 41 (nK N)), (a2, gI g 41 (nU N)), (az, gI g 325 Z)] := hW
  have hl : lv_has ls 3 [(0, .ref mo), (1, .int (iI u))] := hl
  have hinX11 : ∀ w ∈ wsX110, w ∈ wsX11_takes := fun w h => List.mem_cons_of_mem _ (List.mem_append_right _ h)
  refine lv_aload_n S0.1 S0.2.1 dX11_takes_0 rfl (lv_at hl 0 rfl) ?_
  refine lv_aload_n S0.1 S0.2.1 dX11_takes_1 rfl (lv_at hl 0 rfl) ?_
  refine lv_iload_n S0.1 S0.2.1 dX11_takes_2 rfl (lv_at hl 1 rfl) ?_
  refine q_pV (n := 1) (rest := [.ref mo]) S0 hK (c_X11_size l g mo az ap ak ax a1 a2 a3 a4 a5 a6 v1 v2 v3 v4 v5 v6 pm ik ty th (nN N) (nP N) bn (nWh N) (nD N) (nG N) Z u (by omega)) (subP hW.1 [0, 3] rfl) (trivial) gX11_takes_X11_size rfl rfl rfl (by decide +kernel) ⟨Nat.le_of_ble_eq_true rfl, Nat.le_of_ble_eq_true rfl⟩ (q_recv hK hW.1 (ci := 11) (q0 := 0) rfl rfl) rfl rfl hl.1 (Nat.le_of_ble_eq_true rfl) ⟨Nat.le_of_ble_eq_true rfl, Nat.le_of_ble_eq_true rfl⟩ dX11_takes_3 ?_
  refine W.eq (g2 := F0 m 6 ls [.int (iI (Z (1 + 81 * u).toNat)), .ref mo]) rfl ?_
  refine q_put (C := RX11) (T := TX11) (N := 26) S0 hK hW hinX11 tyX11_ok nmX11 0 rfl rfl 10 (by decide) (List.mem_of_getElem? (i := 1) rfl) rfl rfl rfl rfl (Nat.le_of_ble_eq_true rfl) dX11_takes_6 (fun H locs hW => ?_)
  have hW : gW g A s.heap H _ [(mo, .inr (11, [.ref az, .ref ap, .int (iI pm), .ref ak, .int (iI ik), .ref ax, .int (iI ty), .int (iI th), .ref a1, .ref a2, .int (iI (Z (1 + 81 * u).toNat)), .ref a3, .int (iI (nP N)), .ref a4, .ref a5, .ref a6, .ref v1, .ref v2, .ref v3, .ref v4, .ref v5, .ref v6, .int (iI bn), .int (iI (nWh N)), .int (iI (nD N)), .int (iI (nG N))])), (a1, gI g 41 (nK N)), (a2, gI g 41 (nU N)), (az, gI g 325 Z)] := hW
  refine q_iconst S0 dX11_takes_9 ?_
  refine lv_istore_n (lv' := [(2, .int (iI 0)), (0, .ref mo), (1, .int (iI u))]) S0.1 S0.2.1 dX11_takes_10 rfl hl (by decide) rfl (fun ls hl => ?_)
  refine q_loop (α := Int × (Nat → Int) × (Nat → Int)) (fun (z_ : Int × (Nat → Int) × (Nat → Int)) => match z_ with | (k9, h9, j9) => (0 ≤ k9 ∧ k9 ≤ Z (1 + 81 * u).toNat) ∧ h9 = tkf Z (2 + 81 * u) (nK N) k9.toNat ∧ j9 = tkf Z (3 + 81 * u) (nU N) k9.toNat) (fun (z_ : Int × (Nat → Int) × (Nat → Int)) => match z_ with | (k9, h9, j9) => (Z (1 + 81 * u).toNat - k9).toNat) (fun (z_ : Int × (Nat → Int) × (Nat → Int)) => match z_ with | (k9, h9, j9) => [(mo, .inr (11, [.ref az, .ref ap, .int (iI pm), .ref ak, .int (iI ik), .ref ax, .int (iI ty), .int (iI th), .ref a1, .ref a2, .int (iI (Z (1 + 81 * u).toNat)), .ref a3, .int (iI (nP N)), .ref a4, .ref a5, .ref a6, .ref v1, .ref v2, .ref v3, .ref v4, .ref v5, .ref v6, .int (iI bn), .int (iI (nWh N)), .int (iI (nD N)), .int (iI (nG N))])), (a1, gI g 41 h9), (a2, gI g 41 j9), (az, gI g 325 Z)]) (fun (z_ : Int × (Nat → Int) × (Nat → Int)) => match z_ with | (k9, h9, j9) => [(2, .int (iI k9)), (0, .ref mo), (1, .int (iI u))]) ?_ (0, nK N, nU N) (by exact ⟨by omega, (tkf_0 _ _ _).symm, (tkf_0 _ _ _).symm⟩) hW (lv_sub hl [0, 1, 2] rfl)
  rintro ⟨k9, h9, j9⟩ hinv IHl H locs ls hW hl
  try dsimp only at hinv
  have hW : gW g A s.heap H _ [(mo, .inr (11, [.ref az, .ref ap, .int (iI pm), .ref ak, .int (iI ik), .ref ax, .int (iI ty), .int (iI th), .ref a1, .ref a2, .int (iI (Z (1 + 81 * u).toNat)), .ref a3, .int (iI (nP N)), .ref a4, .ref a5, .ref a6, .ref v1, .ref v2, .ref v3, .ref v4, .ref v5, .ref v6, .int (iI bn), .int (iI (nWh N)), .int (iI (nD N)), .int (iI (nG N))])), (a1, gI g 41 h9), (a2, gI g 41 j9), (az, gI g 325 Z)] := hW
  have hl : lv_has ls 3 [(2, .int (iI k9)), (0, .ref mo), (1, .int (iI u))] := hl
  obtain ⟨hk9, hh9, hj9⟩ := hinv
  refine lv_iload_n S0.1 S0.2.1 dX11_takes_11 rfl (lv_at hl 0 rfl) ?_
  refine lv_aload_n S0.1 S0.2.1 dX11_takes_12 rfl (lv_at hl 1 rfl) ?_
  refine q_get (C := RX11) (T := TX11) (N := 26) S0 hK hW.1 hinX11 0 rfl rfl 10 (by decide) (List.mem_of_getElem? (i := 1) rfl) rfl rfl dX11_takes_13 ?_
  refine q_icmp_ge (tgt := 49) S0 (by omega) dX11_takes_16 (by decide) (fun c16 => ?_) (fun c16 => ?_)
  · skip
    exact q_vret S0 hr hlocks () (trivial) rfl (hW.sub [0, 1, 2, 3] rfl (by rw [hh9, hj9, show k9 = Z (1 + 81 * u).toNat by omega]; rfl)) (Nat.le_of_ble_eq_true rfl) (Nat.le_of_ble_eq_true rfl) dX11_takes_49
  · skip
    refine lv_aload_n S0.1 S0.2.1 dX11_takes_19 rfl (lv_at hl 1 rfl) ?_
    refine q_get (C := RX11) (T := TX11) (N := 26) S0 hK hW.1 hinX11 0 rfl rfl 8 (by decide) (List.mem_of_getElem? (i := 2) rfl) rfl rfl dX11_takes_20 ?_
    refine lv_iload_n S0.1 S0.2.1 dX11_takes_23 rfl (lv_at hl 0 rfl) ?_
    refine lv_aload_n S0.1 S0.2.1 dX11_takes_24 rfl (lv_at hl 1 rfl) ?_
    refine lv_iload_n S0.1 S0.2.1 dX11_takes_25 rfl (lv_at hl 2 rfl) ?_
    refine lv_iload_n S0.1 S0.2.1 dX11_takes_26 rfl (lv_at hl 0 rfl) ?_
    refine q_pV (n := 2) (rest := [.int (iI k9), .ref a1]) S0 hK (c_X11_kind l g mo az ap ak ax a1 a2 a3 a4 a5 a6 v1 v2 v3 v4 v5 v6 pm ik ty th (Z (1 + 81 * u).toNat) (nP N) bn (nWh N) (nD N) (nG N) Z u k9 (by omega) (by omega)) (subP hW.1 [0, 3] rfl) (trivial) gX11_takes_X11_kind rfl rfl rfl (by decide +kernel) ⟨Nat.le_of_ble_eq_true rfl, Nat.le_of_ble_eq_true rfl⟩ (q_recv hK hW.1 (ci := 11) (q0 := 0) rfl rfl) rfl rfl hl.1 (Nat.le_of_ble_eq_true rfl) ⟨Nat.le_of_ble_eq_true rfl, Nat.le_of_ble_eq_true rfl⟩ dX11_takes_27 ?_
    refine W.eq (g2 := F0 m 30 ls [.int (iI (Z (2 + 81 * u + 2 * k9).toNat)), .int (iI k9), .ref a1]) rfl ?_
    refine q_iast S0 hK hW 1 rfl (by omega) dX11_takes_30 (fun H locs hW => ?_)
    have hW : gW g A s.heap H _ [(mo, .inr (11, [.ref az, .ref ap, .int (iI pm), .ref ak, .int (iI ik), .ref ax, .int (iI ty), .int (iI th), .ref a1, .ref a2, .int (iI (Z (1 + 81 * u).toNat)), .ref a3, .int (iI (nP N)), .ref a4, .ref a5, .ref a6, .ref v1, .ref v2, .ref v3, .ref v4, .ref v5, .ref v6, .int (iI bn), .int (iI (nWh N)), .int (iI (nD N)), .int (iI (nG N))])), (a1, gI g 41 (up h9 ((k9).toNat) (Z (2 + 81 * u + 2 * k9).toNat))), (a2, gI g 41 j9), (az, gI g 325 Z)] := hW
    refine lv_aload_n S0.1 S0.2.1 dX11_takes_31 rfl (lv_at hl 1 rfl) ?_
    refine q_get (C := RX11) (T := TX11) (N := 26) S0 hK hW.1 hinX11 0 rfl rfl 9 (by decide) (List.mem_of_getElem? (i := 3) rfl) rfl rfl dX11_takes_32 ?_
    refine lv_iload_n S0.1 S0.2.1 dX11_takes_35 rfl (lv_at hl 0 rfl) ?_
    refine lv_aload_n S0.1 S0.2.1 dX11_takes_36 rfl (lv_at hl 1 rfl) ?_
    refine lv_iload_n S0.1 S0.2.1 dX11_takes_37 rfl (lv_at hl 2 rfl) ?_
    refine lv_iload_n S0.1 S0.2.1 dX11_takes_38 rfl (lv_at hl 0 rfl) ?_
    refine q_pV (n := 2) (rest := [.int (iI k9), .ref a2]) S0 hK (c_X11_number l g mo az ap ak ax a1 a2 a3 a4 a5 a6 v1 v2 v3 v4 v5 v6 pm ik ty th (Z (1 + 81 * u).toNat) (nP N) bn (nWh N) (nD N) (nG N) Z u k9 (by omega) (by omega)) (subP hW.1 [0, 3] rfl) (trivial) gX11_takes_X11_number rfl rfl rfl (by decide +kernel) ⟨Nat.le_of_ble_eq_true rfl, Nat.le_of_ble_eq_true rfl⟩ (q_recv hK hW.1 (ci := 11) (q0 := 0) rfl rfl) rfl rfl hl.1 (Nat.le_of_ble_eq_true rfl) ⟨Nat.le_of_ble_eq_true rfl, Nat.le_of_ble_eq_true rfl⟩ dX11_takes_39 ?_
    refine W.eq (g2 := F0 m 42 ls [.int (iI (Z (3 + 81 * u + 2 * k9).toNat)), .int (iI k9), .ref a2]) rfl ?_
    refine q_iast S0 hK hW 2 rfl (by omega) dX11_takes_42 (fun H locs hW => ?_)
    have hW : gW g A s.heap H _ [(mo, .inr (11, [.ref az, .ref ap, .int (iI pm), .ref ak, .int (iI ik), .ref ax, .int (iI ty), .int (iI th), .ref a1, .ref a2, .int (iI (Z (1 + 81 * u).toNat)), .ref a3, .int (iI (nP N)), .ref a4, .ref a5, .ref a6, .ref v1, .ref v2, .ref v3, .ref v4, .ref v5, .ref v6, .int (iI bn), .int (iI (nWh N)), .int (iI (nD N)), .int (iI (nG N))])), (a1, gI g 41 (up h9 ((k9).toNat) (Z (2 + 81 * u + 2 * k9).toNat))), (a2, gI g 41 (up j9 ((k9).toNat) (Z (3 + 81 * u + 2 * k9).toNat))), (az, gI g 325 Z)] := hW
    refine q_iinc (lv' := [(2, .int (iI (k9 + 1))), (0, .ref mo), (1, .int (iI u))]) S0 dX11_takes_43 hl (k := 0) rfl (by decide) rfl (fun ls hl => ?_)
    refine lv_goto (tgt := 11) S0.1 S0.2.1 dX11_takes_46 (by decide) ?_
    exact IHl (k9 + 1, up h9 k9.toNat (Z (2 + 81 * u + 2 * k9).toNat), up j9 k9.toNat (Z (3 + 81 * u + 2 * k9).toNat)) H locs ls (by refine ⟨by omega, ?_, ?_⟩; rw [← tkf_up _ _ _ hk9.1, hh9]; rw [← tkf_up _ _ _ hk9.1, hj9]) (by dsimp only; omega) hW (lv_sub hl [0, 1, 2] rfl)
set_option maxHeartbeats 4000000 in
set_option maxRecDepth 100000 in
theorem c_X11_undo1 (l : Launch) (g : GG) (mo az ap ak ax a1 a2 a3 a4 a5 a6 v1 v2 v3 v4 v5 v6 : Nat) (ik ty th mn wt bn wh dp dg : Int) : qMet l yX11_undo wsX11_undo ({ frames := 1, cells := 0, slots := 0, locals := 21 }) g [.ref mo] [(mo, .inr (11, [.ref az, .ref ap, .int (iI 0), .ref ak, .int (iI ik), .ref ax, .int (iI ty), .int (iI th), .ref a1, .ref a2, .int (iI mn), .ref a3, .int (iI wt), .ref a4, .ref a5, .ref a6, .ref v1, .ref v2, .ref v3, .ref v4, .ref v5, .ref v6, .int (iI bn), .int (iI wh), .int (iI dp), .int (iI dg)]))] (fun _ => True) (fun _ => True) (S := Unit) (fun _ => some (.int (iI 0))) (fun _ => [(mo, .inr (11, [.ref az, .ref ap, .int (iI 0), .ref ak, .int (iI ik), .ref ax, .int (iI ty), .int (iI 1), .ref a1, .ref a2, .int (iI mn), .ref a3, .int (iI wt), .ref a4, .ref a5, .ref a6, .ref v1, .ref v2, .ref v3, .ref v4, .ref v5, .ref v6, .int (iI bn), .int (iI wh), .int (iI dp), .int (iI dg)]))]) (fun _ => True) 0 0 := by
  refine q_ofW (cc := cX11_undo) (maxL := 2) (ret := (some .int)) (fun sz h => h.self) (by decide) rfl (Nat.le_of_ble_eq_true rfl) ?_
  intro p e s m args below meth c A ls S0 hr hlocks hnme hK hA hAe hW hD0 hX hl
  have hW : gW g A s.heap s.heap [] [(mo, .inr (11, [.ref az, .ref ap, .int (iI 0), .ref ak, .int (iI ik), .ref ax, .int (iI ty), .int (iI th), .ref a1, .ref a2, .int (iI mn), .ref a3, .int (iI wt), .ref a4, .ref a5, .ref a6, .ref v1, .ref v2, .ref v3, .ref v4, .ref v5, .ref v6, .int (iI bn), .int (iI wh), .int (iI dp), .int (iI dg)]))] := hW
  have hl : lv_has ls 2 [(0, .ref mo)] := hl
  have hinX11 : ∀ w ∈ wsX110, w ∈ wsX11_undo := fun w h => List.mem_cons_of_mem _ (List.mem_append_right _ h)
  refine lv_aload_n S0.1 S0.2.1 dX11_undo_0 rfl (lv_at hl 0 rfl) ?_
  refine lv_aload_n S0.1 S0.2.1 dX11_undo_1 rfl (lv_at hl 0 rfl) ?_
  refine q_get (C := RX11) (T := TX11) (N := 26) S0 hK hW.1 hinX11 0 rfl rfl 2 (by decide) (List.mem_of_getElem? (i := 1) rfl) rfl rfl dX11_undo_2 ?_
  refine q_if_le (tgt := 12) S0 (by omega) dX11_undo_5 (by decide) (fun c5 => ?_) (fun c5 => ?_)
  · skip
    refine q_iconst S0 dX11_undo_12 ?_
    refine q_cV (n := 1) (rest := []) (wr := []) S0 hK hA hW (c_X11_asksF l g mo az ap ak ax a1 a2 a3 a4 a5 a6 v1 v2 v3 v4 v5 v6 0 ik ty th mn wt bn wh dp dg) gX11_undo_X11_asks rfl rfl rfl (by decide +kernel) ⟨Nat.le_of_ble_eq_true rfl, Nat.le_of_ble_eq_true rfl⟩ [0] [] rfl rfl rfl rfl (by decide) (q_recv hK hW.1 (ci := 11) (q0 := 0) rfl rfl) (fun _ _ => trivial) (trivial) rfl rfl hl.1 (Nat.le_of_ble_eq_true rfl) ⟨Nat.le_of_ble_eq_true rfl, Nat.le_of_ble_eq_true rfl⟩ dX11_undo_13 (fun _ H locs _ hW => ?_)
    have hW : gW g A s.heap H _ [(mo, .inr (11, [.ref az, .ref ap, .int (iI 0), .ref ak, .int (iI ik), .ref ax, .int (iI ty), .int (iI 1), .ref a1, .ref a2, .int (iI mn), .ref a3, .int (iI wt), .ref a4, .ref a5, .ref a6, .ref v1, .ref v2, .ref v3, .ref v4, .ref v5, .ref v6, .int (iI bn), .int (iI wh), .int (iI dp), .int (iI dg)]))] := hW
    refine W.eq (g2 := F0 m 16 ls [.int (iI 0)]) rfl ?_
    refine q_if_ne (tgt := 21) S0 (by omega) dX11_undo_16 (by decide) (fun c16 => ?_) (fun c16 => ?_)
    · skip
      exact absurd c16 (by omega)
    · skip
      refine q_iconst S0 dX11_undo_19 ?_
      exact q_iret S0 hr hlocks () (trivial) (rfl) (hW.sub [0] rfl (rfl)) (Nat.le_of_ble_eq_true rfl) (Nat.le_of_ble_eq_true rfl) dX11_undo_20
  · skip
    exact absurd c5 (by omega)
set_option maxHeartbeats 4000000 in
set_option maxRecDepth 100000 in
theorem c_X11_undo0 (l : Launch) (g : GG) (mo az ap ak ax a1 a2 a3 a4 a5 a6 v1 v2 v3 v4 v5 v6 : Nat) (pm ik ty th mn wt bn wh dp dg : Int) (Z P : Nat → Int) (hp : 0 < pm ∧ pm ≤ 4) : qMet l yX11_undo wsX11_undo ({ frames := 1, cells := 0, slots := 0, locals := 21 }) g [.ref mo] [(mo, .inr (11, [.ref az, .ref ap, .int (iI pm), .ref ak, .int (iI ik), .ref ax, .int (iI ty), .int (iI th), .ref a1, .ref a2, .int (iI mn), .ref a3, .int (iI wt), .ref a4, .ref a5, .ref a6, .ref v1, .ref v2, .ref v3, .ref v4, .ref v5, .ref v6, .int (iI bn), .int (iI wh), .int (iI dp), .int (iI dg)])), (az, gI g 325 Z), (ap, gI g 1300 P)] (fun _ => True) (fun _ => True) (S := Unit) (fun _ => some (.int (iI (pm - 1)))) (fun _ => [(mo, .inr (11, [.ref az, .ref ap, .int (iI (pm - 1)), .ref ak, .int (iI ik), .ref ax, .int (iI ty), .int (iI 0), .ref a1, .ref a2, .int (iI mn), .ref a3, .int (iI wt), .ref a4, .ref a5, .ref a6, .ref v1, .ref v2, .ref v3, .ref v4, .ref v5, .ref v6, .int (iI bn), .int (iI wh), .int (iI dp), .int (iI dg)])), (az, gI g 325 (cpi P (325 * (pm - 1)).toNat Z 325)), (ap, gI g 1300 P)]) (fun _ => True) 0 0 := by
  refine q_ofW (cc := cX11_undo) (maxL := 2) (ret := (some .int)) (fun sz h => h.self) (by decide) rfl (Nat.le_of_ble_eq_true rfl) ?_
  intro p e s m args below meth c A ls S0 hr hlocks hnme hK hA hAe hW hD0 hX hl
  have hW : gW g A s.heap s.heap [] [(mo, .inr (11, [.ref az, .ref ap, .int (iI pm), .ref ak, .int (iI ik), .ref ax, .int (iI ty), .int (iI th), .ref a1, .ref a2, .int (iI mn), .ref a3, .int (iI wt), .ref a4, .ref a5, .ref a6, .ref v1, .ref v2, .ref v3, .ref v4, .ref v5, .ref v6, .int (iI bn), .int (iI wh), .int (iI dp), .int (iI dg)])), (az, gI g 325 Z), (ap, gI g 1300 P)] := hW
  have hl : lv_has ls 2 [(0, .ref mo)] := hl
  have hinX11 : ∀ w ∈ wsX110, w ∈ wsX11_undo := fun w h => List.mem_cons_of_mem _ (List.mem_append_right _ h)
  refine lv_aload_n S0.1 S0.2.1 dX11_undo_0 rfl (lv_at hl 0 rfl) ?_
  refine lv_aload_n S0.1 S0.2.1 dX11_undo_1 rfl (lv_at hl 0 rfl) ?_
  refine q_get (C := RX11) (T := TX11) (N := 26) S0 hK hW.1 hinX11 0 rfl rfl 2 (by decide) (List.mem_of_getElem? (i := 1) rfl) rfl rfl dX11_undo_2 ?_
  refine q_if_le (tgt := 12) S0 (by omega) dX11_undo_5 (by decide) (fun c5 => ?_) (fun c5 => ?_)
  · skip
    exact absurd c5 (by omega)
  · skip
    refine q_iconst S0 dX11_undo_8 ?_
    refine lv_goto (tgt := 13) S0.1 S0.2.1 dX11_undo_9 (by decide) ?_
    refine q_cV (n := 1) (rest := []) (wr := [(az, gI g 325 Z), (ap, gI g 1300 P)]) S0 hK hA hW (c_X11_asksT l g mo az ap ak ax a1 a2 a3 a4 a5 a6 v1 v2 v3 v4 v5 v6 pm ik ty th mn wt bn wh dp dg) gX11_undo_X11_asks rfl rfl rfl (by decide +kernel) ⟨Nat.le_of_ble_eq_true rfl, Nat.le_of_ble_eq_true rfl⟩ [0] [1, 2] rfl rfl rfl rfl (by decide) (q_recv hK hW.1 (ci := 11) (q0 := 0) rfl rfl) (fun _ _ => trivial) (trivial) rfl rfl hl.1 (Nat.le_of_ble_eq_true rfl) ⟨Nat.le_of_ble_eq_true rfl, Nat.le_of_ble_eq_true rfl⟩ dX11_undo_13 (fun _ H locs _ hW => ?_)
    have hW : gW g A s.heap H _ [(az, gI g 325 Z), (ap, gI g 1300 P), (mo, .inr (11, [.ref az, .ref ap, .int (iI pm), .ref ak, .int (iI ik), .ref ax, .int (iI ty), .int (iI 0), .ref a1, .ref a2, .int (iI mn), .ref a3, .int (iI wt), .ref a4, .ref a5, .ref a6, .ref v1, .ref v2, .ref v3, .ref v4, .ref v5, .ref v6, .int (iI bn), .int (iI wh), .int (iI dp), .int (iI dg)]))] := hW
    refine W.eq (g2 := F0 m 16 ls [.int (iI 1)]) rfl ?_
    refine q_if_ne (tgt := 21) S0 (by omega) dX11_undo_16 (by decide) (fun c16 => ?_) (fun c16 => ?_)
    · skip
      refine lv_aload_n S0.1 S0.2.1 dX11_undo_21 rfl (lv_at hl 0 rfl) ?_
      refine lv_dup S0.1 S0.2.1 dX11_undo_22 rfl ?_
      refine q_get (C := RX11) (T := TX11) (N := 26) S0 hK hW.1 hinX11 2 rfl rfl 2 (by decide) (List.mem_of_getElem? (i := 1) rfl) rfl rfl dX11_undo_23 ?_
      refine q_iconst S0 dX11_undo_26 ?_
      refine q_isub S0 dX11_undo_27 ?_
      refine q_put (C := RX11) (T := TX11) (N := 26) S0 hK hW hinX11 tyX11_ok nmX11 2 rfl rfl 2 (by decide) (List.mem_of_getElem? (i := 1) rfl) rfl rfl rfl rfl (Nat.le_of_ble_eq_true rfl) dX11_undo_28 (fun H locs hW => ?_)
      have hW : gW g A s.heap H _ [(az, gI g 325 Z), (ap, gI g 1300 P), (mo, .inr (11, [.ref az, .ref ap, .int (iI (pm - 1)), .ref ak, .int (iI ik), .ref ax, .int (iI ty), .int (iI 0), .ref a1, .ref a2, .int (iI mn), .ref a3, .int (iI wt), .ref a4, .ref a5, .ref a6, .ref v1, .ref v2, .ref v3, .ref v4, .ref v5, .ref v6, .int (iI bn), .int (iI wh), .int (iI dp), .int (iI dg)]))] := hW
      refine q_iconst S0 dX11_undo_31 ?_
      refine lv_istore_n (lv' := [(1, .int (iI 0)), (0, .ref mo)]) S0.1 S0.2.1 dX11_undo_32 rfl hl (by decide) rfl (fun ls hl => ?_)
      refine q_loop (α := Int × (Nat → Int)) (fun (z_ : Int × (Nat → Int)) => match z_ with | (k9, h9) => (0 ≤ k9 ∧ k9 ≤ 325) ∧ h9 = cpi P (325 * (pm - 1)).toNat Z k9.toNat) (fun (z_ : Int × (Nat → Int)) => match z_ with | (k9, h9) => (325 - k9).toNat) (fun (z_ : Int × (Nat → Int)) => match z_ with | (k9, h9) => [(az, gI g 325 h9), (ap, gI g 1300 P), (mo, .inr (11, [.ref az, .ref ap, .int (iI (pm - 1)), .ref ak, .int (iI ik), .ref ax, .int (iI ty), .int (iI 0), .ref a1, .ref a2, .int (iI mn), .ref a3, .int (iI wt), .ref a4, .ref a5, .ref a6, .ref v1, .ref v2, .ref v3, .ref v4, .ref v5, .ref v6, .int (iI bn), .int (iI wh), .int (iI dp), .int (iI dg)]))]) (fun (z_ : Int × (Nat → Int)) => match z_ with | (k9, h9) => [(1, .int (iI k9)), (0, .ref mo)]) ?_ (0, Z) (by refine ⟨by omega, ?_⟩; exact (cpi_0 P (325 * (pm - 1)).toNat Z).symm) hW (lv_sub hl [0, 1] rfl)
      rintro ⟨k9, h9⟩ hinv IHl H locs ls hW hl
      try dsimp only at hinv
      have hW : gW g A s.heap H _ [(az, gI g 325 h9), (ap, gI g 1300 P), (mo, .inr (11, [.ref az, .ref ap, .int (iI (pm - 1)), .ref ak, .int (iI ik), .ref ax, .int (iI ty), .int (iI 0), .ref a1, .ref a2, .int (iI mn), .ref a3, .int (iI wt), .ref a4, .ref a5, .ref a6, .ref v1, .ref v2, .ref v3, .ref v4, .ref v5, .ref v6, .int (iI bn), .int (iI wh), .int (iI dp), .int (iI dg)]))] := hW
      have hl : lv_has ls 2 [(1, .int (iI k9)), (0, .ref mo)] := hl
      obtain ⟨hk9, hh9⟩ := hinv
      refine lv_iload_n S0.1 S0.2.1 dX11_undo_33 rfl (lv_at hl 0 rfl) ?_
      refine q_sipush S0 (by decide) dX11_undo_34 ?_
      refine q_icmp_ge (tgt := 67) S0 (by omega) dX11_undo_37 (by decide) (fun c37 => ?_) (fun c37 => ?_)
      · skip
        refine lv_aload_n S0.1 S0.2.1 dX11_undo_67 rfl (lv_at hl 1 rfl) ?_
        refine q_get (C := RX11) (T := TX11) (N := 26) S0 hK hW.1 hinX11 2 rfl rfl 2 (by decide) (List.mem_of_getElem? (i := 1) rfl) rfl rfl dX11_undo_68 ?_
        exact q_iret S0 hr hlocks () (trivial) (rfl) (hW.sub [2, 0, 1] rfl (by rw [hh9, show k9.toNat = 325 by omega]; rfl)) (Nat.le_of_ble_eq_true rfl) (Nat.le_of_ble_eq_true rfl) dX11_undo_71
      · skip
        refine lv_aload_n S0.1 S0.2.1 dX11_undo_40 rfl (lv_at hl 1 rfl) ?_
        refine q_get (C := RX11) (T := TX11) (N := 26) S0 hK hW.1 hinX11 2 rfl rfl 0 (by decide) (List.mem_of_getElem? (i := 2) rfl) rfl rfl dX11_undo_41 ?_
        refine lv_iload_n S0.1 S0.2.1 dX11_undo_44 rfl (lv_at hl 0 rfl) ?_
        refine lv_aload_n S0.1 S0.2.1 dX11_undo_45 rfl (lv_at hl 1 rfl) ?_
        refine q_get (C := RX11) (T := TX11) (N := 26) S0 hK hW.1 hinX11 2 rfl rfl 1 (by decide) (List.mem_of_getElem? (i := 3) rfl) rfl rfl dX11_undo_46 ?_
        refine lv_aload_n S0.1 S0.2.1 dX11_undo_49 rfl (lv_at hl 1 rfl) ?_
        refine q_get (C := RX11) (T := TX11) (N := 26) S0 hK hW.1 hinX11 2 rfl rfl 2 (by decide) (List.mem_of_getElem? (i := 1) rfl) rfl rfl dX11_undo_50 ?_
        refine q_sipush S0 (by decide) dX11_undo_53 ?_
        refine q_imul S0 dX11_undo_56 ?_
        refine lv_iload_n S0.1 S0.2.1 dX11_undo_57 rfl (lv_at hl 0 rfl) ?_
        refine q_iadd S0 dX11_undo_58 ?_
        refine q_iald S0 hK hW.1 1 rfl (by omega) dX11_undo_59 ?_
        refine q_topI (b := P ((325 * (pm - 1)).toNat + k9.toNat)) (by rw [show ((pm - 1) * 325 + k9).toNat = (325 * (pm - 1)).toNat + k9.toNat by omega]) ?_
        refine q_iast S0 hK hW 0 rfl (by omega) dX11_undo_60 (fun H locs hW => ?_)
        have hW : gW g A s.heap H _ [(az, gI g 325 (up h9 ((k9).toNat) (P ((325 * (pm - 1)).toNat + k9.toNat)))), (ap, gI g 1300 P), (mo, .inr (11, [.ref az, .ref ap, .int (iI (pm - 1)), .ref ak, .int (iI ik), .ref ax, .int (iI ty), .int (iI 0), .ref a1, .ref a2, .int (iI mn), .ref a3, .int (iI wt), .ref a4, .ref a5, .ref a6, .ref v1, .ref v2, .ref v3, .ref v4, .ref v5, .ref v6, .int (iI bn), .int (iI wh), .int (iI dp), .int (iI dg)]))] := hW
        refine q_iinc (lv' := [(1, .int (iI (k9 + 1))), (0, .ref mo)]) S0 dX11_undo_61 hl (k := 0) rfl (by decide) rfl (fun ls hl => ?_)
        refine lv_goto (tgt := 33) S0.1 S0.2.1 dX11_undo_64 (by decide) ?_
        exact IHl (k9 + 1, up h9 k9.toNat (P ((325 * (pm - 1)).toNat + k9.toNat))) H locs ls (by refine ⟨by omega, ?_⟩; rw [show (k9 + 1).toNat = k9.toNat + 1 by omega, ← cpi_up, hh9]) (by (try dsimp only); omega) hW (lv_sub hl [0, 1] rfl)
    · skip
      exact absurd c16 (by omega)
set_option maxHeartbeats 4000000 in
set_option maxRecDepth 100000 in
theorem c_X11_takeSnapshot (l : Launch) (g : GG) (mo az ap ak ax a1 a2 a3 a4 a5 a6 v1 v2 v3 v4 v5 v6 : Nat) (pm ik ty th mn wt bn wh dp dg : Int) (Z Kp : Nat → Int) : qMet l yX11_takeSnapshot wsX11_takeSnapshot ({ frames := 1, cells := 0, slots := 0, locals := 21 }) g [.ref mo] [(mo, .inr (11, [.ref az, .ref ap, .int (iI pm), .ref ak, .int (iI ik), .ref ax, .int (iI ty), .int (iI th), .ref a1, .ref a2, .int (iI mn), .ref a3, .int (iI wt), .ref a4, .ref a5, .ref a6, .ref v1, .ref v2, .ref v3, .ref v4, .ref v5, .ref v6, .int (iI bn), .int (iI wh), .int (iI dp), .int (iI dg)])), (az, gI g 325 Z), (ak, gI g 325 Kp)] (fun _ => True) (fun _ => True) (S := Unit) (fun _ => some (.int (iI (Z 0)))) (fun _ => [(mo, .inr (11, [.ref az, .ref ap, .int (iI pm), .ref ak, .int (iI 1), .ref ax, .int (iI ty), .int (iI 0), .ref a1, .ref a2, .int (iI mn), .ref a3, .int (iI wt), .ref a4, .ref a5, .ref a6, .ref v1, .ref v2, .ref v3, .ref v4, .ref v5, .ref v6, .int (iI bn), .int (iI wh), .int (iI dp), .int (iI dg)])), (az, gI g 325 Z), (ak, gI g 325 (cpi Z 0 Kp 325))]) (fun _ => True) 0 0 := by
  refine q_ofW (cc := cX11_takeSnapshot) (maxL := 2) (ret := (some .int)) (fun sz h => h.self) (by decide) rfl (Nat.le_of_ble_eq_true rfl) ?_
  intro p e s m args below meth c A ls S0 hr hlocks hnme hK hA hAe hW hD0 hX hl
  have hW : gW g A s.heap s.heap [] [(mo, .inr (11, [.ref az, .ref ap, .int (iI pm), .ref ak, .int (iI ik), .ref ax, .int (iI ty), .int (iI th), .ref a1, .ref a2, .int (iI mn), .ref a3, .int (iI wt), .ref a4, .ref a5, .ref a6, .ref v1, .ref v2, .ref v3, .ref v4, .ref v5, .ref v6, .int (iI bn), .int (iI wh), .int (iI dp), .int (iI dg)])), (az, gI g 325 Z), (ak, gI g 325 Kp)] := hW
  have hl : lv_has ls 2 [(0, .ref mo)] := hl
  have hinX11 : ∀ w ∈ wsX110, w ∈ wsX11_takeSnapshot := fun w h => List.mem_cons_of_mem _ (List.mem_append_right _ h)
  refine lv_aload_n S0.1 S0.2.1 dX11_takeSnapshot_0 rfl (lv_at hl 0 rfl) ?_
  refine q_iconst S0 dX11_takeSnapshot_1 ?_
  refine q_put (C := RX11) (T := TX11) (N := 26) S0 hK hW hinX11 tyX11_ok nmX11 0 rfl rfl 4 (by decide) (List.mem_of_getElem? (i := 1) rfl) rfl rfl rfl rfl (Nat.le_of_ble_eq_true rfl) dX11_takeSnapshot_2 (fun H locs hW => ?_)
  have hW : gW g A s.heap H _ [(mo, .inr (11, [.ref az, .ref ap, .int (iI pm), .ref ak, .int (iI 1), .ref ax, .int (iI ty), .int (iI th), .ref a1, .ref a2, .int (iI mn), .ref a3, .int (iI wt), .ref a4, .ref a5, .ref a6, .ref v1, .ref v2, .ref v3, .ref v4, .ref v5, .ref v6, .int (iI bn), .int (iI wh), .int (iI dp), .int (iI dg)])), (az, gI g 325 Z), (ak, gI g 325 Kp)] := hW
  refine q_iconst S0 dX11_takeSnapshot_5 ?_
  refine lv_istore_n (lv' := [(1, .int (iI 0)), (0, .ref mo)]) S0.1 S0.2.1 dX11_takeSnapshot_6 rfl hl (by decide) rfl (fun ls hl => ?_)
  refine q_loop (α := Int × (Nat → Int)) (fun (z_ : Int × (Nat → Int)) => match z_ with | (k9, h9) => (0 ≤ k9 ∧ k9 ≤ 325) ∧ h9 = cpi Z 0 Kp k9.toNat) (fun (z_ : Int × (Nat → Int)) => match z_ with | (k9, h9) => (325 - k9).toNat) (fun (z_ : Int × (Nat → Int)) => match z_ with | (k9, h9) => [(mo, .inr (11, [.ref az, .ref ap, .int (iI pm), .ref ak, .int (iI 1), .ref ax, .int (iI ty), .int (iI th), .ref a1, .ref a2, .int (iI mn), .ref a3, .int (iI wt), .ref a4, .ref a5, .ref a6, .ref v1, .ref v2, .ref v3, .ref v4, .ref v5, .ref v6, .int (iI bn), .int (iI wh), .int (iI dp), .int (iI dg)])), (az, gI g 325 Z), (ak, gI g 325 h9)]) (fun (z_ : Int × (Nat → Int)) => match z_ with | (k9, h9) => [(1, .int (iI k9)), (0, .ref mo)]) ?_ (0, Kp) (by refine ⟨by omega, ?_⟩; exact (cpi_0 Z 0 Kp).symm) hW (lv_sub hl [0, 1] rfl)
  rintro ⟨k9, h9⟩ hinv IHl H locs ls hW hl
  try dsimp only at hinv
  have hW : gW g A s.heap H _ [(mo, .inr (11, [.ref az, .ref ap, .int (iI pm), .ref ak, .int (iI 1), .ref ax, .int (iI ty), .int (iI th), .ref a1, .ref a2, .int (iI mn), .ref a3, .int (iI wt), .ref a4, .ref a5, .ref a6, .ref v1, .ref v2, .ref v3, .ref v4, .ref v5, .ref v6, .int (iI bn), .int (iI wh), .int (iI dp), .int (iI dg)])), (az, gI g 325 Z), (ak, gI g 325 h9)] := hW
  have hl : lv_has ls 2 [(1, .int (iI k9)), (0, .ref mo)] := hl
  obtain ⟨hk9, hh9⟩ := hinv
  refine lv_iload_n S0.1 S0.2.1 dX11_takeSnapshot_7 rfl (lv_at hl 0 rfl) ?_
  refine q_sipush S0 (by decide) dX11_takeSnapshot_8 ?_
  refine q_icmp_ge (tgt := 32) S0 (by omega) dX11_takeSnapshot_11 (by decide) (fun c11 => ?_) (fun c11 => ?_)
  · skip
    refine lv_aload_n S0.1 S0.2.1 dX11_takeSnapshot_32 rfl (lv_at hl 1 rfl) ?_
    refine lv_aload_n S0.1 S0.2.1 dX11_takeSnapshot_33 rfl (lv_at hl 1 rfl) ?_
    refine q_get (C := RX11) (T := TX11) (N := 26) S0 hK hW.1 hinX11 0 rfl rfl 0 (by decide) (List.mem_of_getElem? (i := 3) rfl) rfl rfl dX11_takeSnapshot_34 ?_
    refine q_iconst S0 dX11_takeSnapshot_37 ?_
    refine q_iald S0 hK hW.1 1 rfl (by omega) dX11_takeSnapshot_38 ?_
    refine W.eq (g2 := F0 m 39 ls [.int (iI (Z 0)), .ref mo]) rfl ?_
    refine q_cV (n := 1) (rest := []) (wr := [(az, gI g 325 Z), (ak, gI g 325 h9)]) S0 hK hA hW (c_X11_says l g mo az ap ak ax a1 a2 a3 a4 a5 a6 v1 v2 v3 v4 v5 v6 pm 1 ty th mn wt bn wh dp dg (Z 0)) gX11_takeSnapshot_X11_says rfl rfl rfl (by decide +kernel) ⟨Nat.le_of_ble_eq_true rfl, Nat.le_of_ble_eq_true rfl⟩ [0] [1, 2] rfl rfl rfl rfl (by decide) (q_recv hK hW.1 (ci := 11) (q0 := 0) rfl rfl) (fun _ _ => trivial) (trivial) rfl rfl hl.1 (Nat.le_of_ble_eq_true rfl) ⟨Nat.le_of_ble_eq_true rfl, Nat.le_of_ble_eq_true rfl⟩ dX11_takeSnapshot_39 (fun _ H locs _ hW => ?_)
    have hW : gW g A s.heap H _ [(az, gI g 325 Z), (ak, gI g 325 h9), (mo, .inr (11, [.ref az, .ref ap, .int (iI pm), .ref ak, .int (iI 1), .ref ax, .int (iI ty), .int (iI 0), .ref a1, .ref a2, .int (iI mn), .ref a3, .int (iI wt), .ref a4, .ref a5, .ref a6, .ref v1, .ref v2, .ref v3, .ref v4, .ref v5, .ref v6, .int (iI bn), .int (iI wh), .int (iI dp), .int (iI dg)]))] := hW
    refine W.eq (g2 := F0 m 42 ls [.int (iI (Z 0))]) rfl ?_
    exact q_iret S0 hr hlocks () (trivial) (rfl) (hW.sub [2, 0, 1] rfl (by rw [hh9, show k9.toNat = 325 by omega]; rfl)) (Nat.le_of_ble_eq_true rfl) (Nat.le_of_ble_eq_true rfl) dX11_takeSnapshot_42
  · skip
    refine lv_aload_n S0.1 S0.2.1 dX11_takeSnapshot_14 rfl (lv_at hl 1 rfl) ?_
    refine q_get (C := RX11) (T := TX11) (N := 26) S0 hK hW.1 hinX11 0 rfl rfl 3 (by decide) (List.mem_of_getElem? (i := 2) rfl) rfl rfl dX11_takeSnapshot_15 ?_
    refine lv_iload_n S0.1 S0.2.1 dX11_takeSnapshot_18 rfl (lv_at hl 0 rfl) ?_
    refine lv_aload_n S0.1 S0.2.1 dX11_takeSnapshot_19 rfl (lv_at hl 1 rfl) ?_
    refine q_get (C := RX11) (T := TX11) (N := 26) S0 hK hW.1 hinX11 0 rfl rfl 0 (by decide) (List.mem_of_getElem? (i := 3) rfl) rfl rfl dX11_takeSnapshot_20 ?_
    refine lv_iload_n S0.1 S0.2.1 dX11_takeSnapshot_23 rfl (lv_at hl 0 rfl) ?_
    refine q_iald S0 hK hW.1 1 rfl (by omega) dX11_takeSnapshot_24 ?_
    refine q_iast S0 hK hW 2 rfl (by omega) dX11_takeSnapshot_25 (fun H locs hW => ?_)
    have hW : gW g A s.heap H _ [(mo, .inr (11, [.ref az, .ref ap, .int (iI pm), .ref ak, .int (iI 1), .ref ax, .int (iI ty), .int (iI th), .ref a1, .ref a2, .int (iI mn), .ref a3, .int (iI wt), .ref a4, .ref a5, .ref a6, .ref v1, .ref v2, .ref v3, .ref v4, .ref v5, .ref v6, .int (iI bn), .int (iI wh), .int (iI dp), .int (iI dg)])), (az, gI g 325 Z), (ak, gI g 325 (up h9 ((k9).toNat) (Z (k9).toNat)))] := hW
    refine q_iinc (lv' := [(1, .int (iI (k9 + 1))), (0, .ref mo)]) S0 dX11_takeSnapshot_26 hl (k := 0) rfl (by decide) rfl (fun ls hl => ?_)
    refine lv_goto (tgt := 7) S0.1 S0.2.1 dX11_takeSnapshot_29 (by decide) ?_
    exact IHl (k9 + 1, up h9 k9.toNat (Z k9.toNat)) H locs ls (by refine ⟨by omega, ?_⟩; rw [show (k9 + 1).toNat = k9.toNat + 1 by omega, ← cpi_up, hh9, Nat.zero_add]) (by (try dsimp only); omega) hW (lv_sub hl [0, 1] rfl)
set_option maxHeartbeats 4000000 in
set_option maxRecDepth 100000 in
theorem c_X11_restoreSnapshot1 (l : Launch) (g : GG) (mo az ap ak ax a1 a2 a3 a4 a5 a6 v1 v2 v3 v4 v5 v6 : Nat) (pm ty th mn wt bn wh dp dg : Int) : qMet l yX11_restoreSnapshot wsX11_restoreSnapshot ({ frames := 1, cells := 0, slots := 0, locals := 21 }) g [.ref mo] [(mo, .inr (11, [.ref az, .ref ap, .int (iI pm), .ref ak, .int (iI 0), .ref ax, .int (iI ty), .int (iI th), .ref a1, .ref a2, .int (iI mn), .ref a3, .int (iI wt), .ref a4, .ref a5, .ref a6, .ref v1, .ref v2, .ref v3, .ref v4, .ref v5, .ref v6, .int (iI bn), .int (iI wh), .int (iI dp), .int (iI dg)]))] (fun _ => True) (fun _ => True) (S := Unit) (fun _ => some (.int (iI 0))) (fun _ => [(mo, .inr (11, [.ref az, .ref ap, .int (iI pm), .ref ak, .int (iI 0), .ref ax, .int (iI ty), .int (iI 1), .ref a1, .ref a2, .int (iI mn), .ref a3, .int (iI wt), .ref a4, .ref a5, .ref a6, .ref v1, .ref v2, .ref v3, .ref v4, .ref v5, .ref v6, .int (iI bn), .int (iI wh), .int (iI dp), .int (iI dg)]))]) (fun _ => True) 0 0 := by
  refine q_ofW (cc := cX11_restoreSnapshot) (maxL := 2) (ret := (some .int)) (fun sz h => h.self) (by decide) rfl (Nat.le_of_ble_eq_true rfl) ?_
  intro p e s m args below meth c A ls S0 hr hlocks hnme hK hA hAe hW hD0 hX hl
  have hW : gW g A s.heap s.heap [] [(mo, .inr (11, [.ref az, .ref ap, .int (iI pm), .ref ak, .int (iI 0), .ref ax, .int (iI ty), .int (iI th), .ref a1, .ref a2, .int (iI mn), .ref a3, .int (iI wt), .ref a4, .ref a5, .ref a6, .ref v1, .ref v2, .ref v3, .ref v4, .ref v5, .ref v6, .int (iI bn), .int (iI wh), .int (iI dp), .int (iI dg)]))] := hW
  have hl : lv_has ls 2 [(0, .ref mo)] := hl
  have hinX11 : ∀ w ∈ wsX110, w ∈ wsX11_restoreSnapshot := fun w h => List.mem_cons_of_mem _ (List.mem_append_right _ h)
  refine lv_aload_n S0.1 S0.2.1 dX11_restoreSnapshot_0 rfl (lv_at hl 0 rfl) ?_
  refine lv_aload_n S0.1 S0.2.1 dX11_restoreSnapshot_1 rfl (lv_at hl 0 rfl) ?_
  refine q_get (C := RX11) (T := TX11) (N := 26) S0 hK hW.1 hinX11 0 rfl rfl 4 (by decide) (List.mem_of_getElem? (i := 1) rfl) rfl rfl dX11_restoreSnapshot_2 ?_
  refine q_cV (n := 1) (rest := []) (wr := []) S0 hK hA hW (c_X11_asksF l g mo az ap ak ax a1 a2 a3 a4 a5 a6 v1 v2 v3 v4 v5 v6 pm 0 ty th mn wt bn wh dp dg) gX11_restoreSnapshot_X11_asks rfl rfl rfl (by decide +kernel) ⟨Nat.le_of_ble_eq_true rfl, Nat.le_of_ble_eq_true rfl⟩ [0] [] rfl rfl rfl rfl (by decide) (q_recv hK hW.1 (ci := 11) (q0 := 0) rfl rfl) (fun _ _ => trivial) (trivial) rfl rfl hl.1 (Nat.le_of_ble_eq_true rfl) ⟨Nat.le_of_ble_eq_true rfl, Nat.le_of_ble_eq_true rfl⟩ dX11_restoreSnapshot_5 (fun _ H locs _ hW => ?_)
  have hW : gW g A s.heap H _ [(mo, .inr (11, [.ref az, .ref ap, .int (iI pm), .ref ak, .int (iI 0), .ref ax, .int (iI ty), .int (iI 1), .ref a1, .ref a2, .int (iI mn), .ref a3, .int (iI wt), .ref a4, .ref a5, .ref a6, .ref v1, .ref v2, .ref v3, .ref v4, .ref v5, .ref v6, .int (iI bn), .int (iI wh), .int (iI dp), .int (iI dg)]))] := hW
  refine W.eq (g2 := F0 m 8 ls [.int (iI 0)]) rfl ?_
  refine q_if_ne (tgt := 13) S0 (by omega) dX11_restoreSnapshot_8 (by decide) (fun c8 => ?_) (fun c8 => ?_)
  · skip
    exact absurd c8 (by omega)
  · skip
    refine q_iconst S0 dX11_restoreSnapshot_11 ?_
    exact q_iret S0 hr hlocks () (trivial) (rfl) (hW.sub [0] rfl (rfl)) (Nat.le_of_ble_eq_true rfl) (Nat.le_of_ble_eq_true rfl) dX11_restoreSnapshot_12
set_option maxHeartbeats 4000000 in
set_option maxRecDepth 100000 in
theorem c_X11_restoreSnapshot4 (l : Launch) (g : GG) (mo az ap ak ax a1 a2 a3 a4 a5 a6 v1 v2 v3 v4 v5 v6 : Nat) (ty th mn wt bn wh dp dg : Int) (Z P Kp : Nat → Int) : qMet l yX11_restoreSnapshot wsX11_restoreSnapshot ({ frames := 1, cells := 0, slots := 0, locals := 21 }) g [.ref mo] [(mo, .inr (11, [.ref az, .ref ap, .int (iI 4), .ref ak, .int (iI 1), .ref ax, .int (iI ty), .int (iI th), .ref a1, .ref a2, .int (iI mn), .ref a3, .int (iI wt), .ref a4, .ref a5, .ref a6, .ref v1, .ref v2, .ref v3, .ref v4, .ref v5, .ref v6, .int (iI bn), .int (iI wh), .int (iI dp), .int (iI dg)])), (az, gI g 325 Z), (ap, gI g 1300 P), (ak, gI g 325 Kp)] (fun _ => True) (fun _ => True) (S := Unit) (fun _ => some (.int (iI (cpi Kp 0 Z 325 0)))) (fun _ => [(mo, .inr (11, [.ref az, .ref ap, .int (iI (recN 4)), .ref ak, .int (iI 1), .ref ax, .int (iI ty), .int (iI 0), .ref a1, .ref a2, .int (iI mn), .ref a3, .int (iI wt), .ref a4, .ref a5, .ref a6, .ref v1, .ref v2, .ref v3, .ref v4, .ref v5, .ref v6, .int (iI bn), .int (iI wh), .int (iI dp), .int (iI dg)])), (az, gI g 325 (cpi Kp 0 Z 325)), (ap, gI g 1300 (recM 4 P Z)), (ak, gI g 325 Kp)]) (fun _ => True) 0 0 := by
  refine q_ofW (cc := cX11_restoreSnapshot) (maxL := 2) (ret := (some .int)) (fun sz h => h.self) (by decide) rfl (Nat.le_of_ble_eq_true rfl) ?_
  intro p e s m args below meth c A ls S0 hr hlocks hnme hK hA hAe hW hD0 hX hl
  have hW : gW g A s.heap s.heap [] [(mo, .inr (11, [.ref az, .ref ap, .int (iI 4), .ref ak, .int (iI 1), .ref ax, .int (iI ty), .int (iI th), .ref a1, .ref a2, .int (iI mn), .ref a3, .int (iI wt), .ref a4, .ref a5, .ref a6, .ref v1, .ref v2, .ref v3, .ref v4, .ref v5, .ref v6, .int (iI bn), .int (iI wh), .int (iI dp), .int (iI dg)])), (az, gI g 325 Z), (ap, gI g 1300 P), (ak, gI g 325 Kp)] := hW
  have hl : lv_has ls 2 [(0, .ref mo)] := hl
  have hinX11 : ∀ w ∈ wsX110, w ∈ wsX11_restoreSnapshot := fun w h => List.mem_cons_of_mem _ (List.mem_append_right _ h)
  refine lv_aload_n S0.1 S0.2.1 dX11_restoreSnapshot_0 rfl (lv_at hl 0 rfl) ?_
  refine lv_aload_n S0.1 S0.2.1 dX11_restoreSnapshot_1 rfl (lv_at hl 0 rfl) ?_
  refine q_get (C := RX11) (T := TX11) (N := 26) S0 hK hW.1 hinX11 0 rfl rfl 4 (by decide) (List.mem_of_getElem? (i := 1) rfl) rfl rfl dX11_restoreSnapshot_2 ?_
  refine q_cV (n := 1) (rest := []) (wr := [(az, gI g 325 Z), (ap, gI g 1300 P), (ak, gI g 325 Kp)]) S0 hK hA hW (c_X11_asksT l g mo az ap ak ax a1 a2 a3 a4 a5 a6 v1 v2 v3 v4 v5 v6 4 1 ty th mn wt bn wh dp dg) gX11_restoreSnapshot_X11_asks rfl rfl rfl (by decide +kernel) ⟨Nat.le_of_ble_eq_true rfl, Nat.le_of_ble_eq_true rfl⟩ [0] [1, 2, 3] rfl rfl rfl rfl (by decide) (q_recv hK hW.1 (ci := 11) (q0 := 0) rfl rfl) (fun _ _ => trivial) (trivial) rfl rfl hl.1 (Nat.le_of_ble_eq_true rfl) ⟨Nat.le_of_ble_eq_true rfl, Nat.le_of_ble_eq_true rfl⟩ dX11_restoreSnapshot_5 (fun _ H locs _ hW => ?_)
  have hW : gW g A s.heap H _ [(az, gI g 325 Z), (ap, gI g 1300 P), (ak, gI g 325 Kp), (mo, .inr (11, [.ref az, .ref ap, .int (iI 4), .ref ak, .int (iI 1), .ref ax, .int (iI ty), .int (iI 0), .ref a1, .ref a2, .int (iI mn), .ref a3, .int (iI wt), .ref a4, .ref a5, .ref a6, .ref v1, .ref v2, .ref v3, .ref v4, .ref v5, .ref v6, .int (iI bn), .int (iI wh), .int (iI dp), .int (iI dg)]))] := hW
  refine W.eq (g2 := F0 m 8 ls [.int (iI 1)]) rfl ?_
  refine q_if_ne (tgt := 13) S0 (by omega) dX11_restoreSnapshot_8 (by decide) (fun c8 => ?_) (fun c8 => ?_)
  · skip
    refine lv_aload_n S0.1 S0.2.1 dX11_restoreSnapshot_13 rfl (lv_at hl 0 rfl) ?_
    refine q_cV (n := 0) (rest := []) (wr := [(ak, gI g 325 Kp)]) S0 hK hA hW (c_X11_record4 l g mo az ap ak ax a1 a2 a3 a4 a5 a6 v1 v2 v3 v4 v5 v6 1 ty 0 mn wt bn wh dp dg Z P) gX11_restoreSnapshot_X11_record rfl rfl rfl (by decide +kernel) ⟨Nat.le_of_ble_eq_true rfl, Nat.le_of_ble_eq_true rfl⟩ [3, 0, 1] [2] rfl rfl rfl rfl (by decide) (q_recv hK hW.1 (ci := 11) (q0 := 3) rfl rfl) (fun _ _ => trivial) (trivial) rfl rfl hl.1 (Nat.le_of_ble_eq_true rfl) ⟨Nat.le_of_ble_eq_true rfl, Nat.le_of_ble_eq_true rfl⟩ dX11_restoreSnapshot_14 (fun _ H locs _ hW => ?_)
    have hW : gW g A s.heap H _ [(ak, gI g 325 Kp), (mo, .inr (11, [.ref az, .ref ap, .int (iI (recN 4)), .ref ak, .int (iI 1), .ref ax, .int (iI ty), .int (iI 0), .ref a1, .ref a2, .int (iI mn), .ref a3, .int (iI wt), .ref a4, .ref a5, .ref a6, .ref v1, .ref v2, .ref v3, .ref v4, .ref v5, .ref v6, .int (iI bn), .int (iI wh), .int (iI dp), .int (iI dg)])), (az, gI g 325 Z), (ap, gI g 1300 (recM 4 P Z))] := hW
    refine W.eq (g2 := F0 m 17 ls []) rfl ?_
    refine q_iconst S0 dX11_restoreSnapshot_17 ?_
    refine lv_istore_n (lv' := [(1, .int (iI 0)), (0, .ref mo)]) S0.1 S0.2.1 dX11_restoreSnapshot_18 rfl hl (by decide) rfl (fun ls hl => ?_)
    refine q_loop (α := Int × (Nat → Int)) (fun (z_ : Int × (Nat → Int)) => match z_ with | (k9, h9) => (0 ≤ k9 ∧ k9 ≤ 325) ∧ h9 = cpi Kp 0 Z k9.toNat) (fun (z_ : Int × (Nat → Int)) => match z_ with | (k9, h9) => (325 - k9).toNat) (fun (z_ : Int × (Nat → Int)) => match z_ with | (k9, h9) => [(ak, gI g 325 Kp), (mo, .inr (11, [.ref az, .ref ap, .int (iI (recN 4)), .ref ak, .int (iI 1), .ref ax, .int (iI ty), .int (iI 0), .ref a1, .ref a2, .int (iI mn), .ref a3, .int (iI wt), .ref a4, .ref a5, .ref a6, .ref v1, .ref v2, .ref v3, .ref v4, .ref v5, .ref v6, .int (iI bn), .int (iI wh), .int (iI dp), .int (iI dg)])), (az, gI g 325 h9), (ap, gI g 1300 (recM 4 P Z))]) (fun (z_ : Int × (Nat → Int)) => match z_ with | (k9, h9) => [(1, .int (iI k9)), (0, .ref mo)]) ?_ (0, Z) (by refine ⟨by omega, ?_⟩; exact (cpi_0 Kp 0 Z).symm) hW (lv_sub hl [0, 1] rfl)
    rintro ⟨k9, h9⟩ hinv IHl H locs ls hW hl
    try dsimp only at hinv
    have hW : gW g A s.heap H _ [(ak, gI g 325 Kp), (mo, .inr (11, [.ref az, .ref ap, .int (iI (recN 4)), .ref ak, .int (iI 1), .ref ax, .int (iI ty), .int (iI 0), .ref a1, .ref a2, .int (iI mn), .ref a3, .int (iI wt), .ref a4, .ref a5, .ref a6, .ref v1, .ref v2, .ref v3, .ref v4, .ref v5, .ref v6, .int (iI bn), .int (iI wh), .int (iI dp), .int (iI dg)])), (az, gI g 325 h9), (ap, gI g 1300 (recM 4 P Z))] := hW
    have hl : lv_has ls 2 [(1, .int (iI k9)), (0, .ref mo)] := hl
    obtain ⟨hk9, hh9⟩ := hinv
    refine lv_iload_n S0.1 S0.2.1 dX11_restoreSnapshot_19 rfl (lv_at hl 0 rfl) ?_
    refine q_sipush S0 (by decide) dX11_restoreSnapshot_20 ?_
    refine q_icmp_ge (tgt := 44) S0 (by omega) dX11_restoreSnapshot_23 (by decide) (fun c23 => ?_) (fun c23 => ?_)
    · skip
      refine lv_aload_n S0.1 S0.2.1 dX11_restoreSnapshot_44 rfl (lv_at hl 1 rfl) ?_
      refine q_get (C := RX11) (T := TX11) (N := 26) S0 hK hW.1 hinX11 1 rfl rfl 0 (by decide) (List.mem_of_getElem? (i := 2) rfl) rfl rfl dX11_restoreSnapshot_45 ?_
      refine q_iconst S0 dX11_restoreSnapshot_48 ?_
      refine q_iald S0 hK hW.1 2 rfl (by omega) dX11_restoreSnapshot_49 ?_
      refine W.eq (g2 := F0 m 50 ls [.int (iI (h9 0))]) rfl ?_
      exact q_iret S0 hr hlocks () (trivial) (by rw [hh9, show k9.toNat = 325 by omega]) (hW.sub [1, 2, 3, 0] rfl (by rw [hh9, show k9.toNat = 325 by omega]; rfl)) (Nat.le_of_ble_eq_true rfl) (Nat.le_of_ble_eq_true rfl) dX11_restoreSnapshot_50
    · skip
      refine lv_aload_n S0.1 S0.2.1 dX11_restoreSnapshot_26 rfl (lv_at hl 1 rfl) ?_
      refine q_get (C := RX11) (T := TX11) (N := 26) S0 hK hW.1 hinX11 1 rfl rfl 0 (by decide) (List.mem_of_getElem? (i := 2) rfl) rfl rfl dX11_restoreSnapshot_27 ?_
      refine lv_iload_n S0.1 S0.2.1 dX11_restoreSnapshot_30 rfl (lv_at hl 0 rfl) ?_
      refine lv_aload_n S0.1 S0.2.1 dX11_restoreSnapshot_31 rfl (lv_at hl 1 rfl) ?_
      refine q_get (C := RX11) (T := TX11) (N := 26) S0 hK hW.1 hinX11 1 rfl rfl 3 (by decide) (List.mem_of_getElem? (i := 3) rfl) rfl rfl dX11_restoreSnapshot_32 ?_
      refine lv_iload_n S0.1 S0.2.1 dX11_restoreSnapshot_35 rfl (lv_at hl 0 rfl) ?_
      refine q_iald S0 hK hW.1 0 rfl (by omega) dX11_restoreSnapshot_36 ?_
      refine q_iast S0 hK hW 2 rfl (by omega) dX11_restoreSnapshot_37 (fun H locs hW => ?_)
      have hW : gW g A s.heap H _ [(ak, gI g 325 Kp), (mo, .inr (11, [.ref az, .ref ap, .int (iI (recN 4)), .ref ak, .int (iI 1), .ref ax, .int (iI ty), .int (iI 0), .ref a1, .ref a2, .int (iI mn), .ref a3, .int (iI wt), .ref a4, .ref a5, .ref a6, .ref v1, .ref v2, .ref v3, .ref v4, .ref v5, .ref v6, .int (iI bn), .int (iI wh), .int (iI dp), .int (iI dg)])), (az, gI g 325 (up h9 ((k9).toNat) (Kp (k9).toNat))), (ap, gI g 1300 (recM 4 P Z))] := hW
      refine q_iinc (lv' := [(1, .int (iI (k9 + 1))), (0, .ref mo)]) S0 dX11_restoreSnapshot_38 hl (k := 0) rfl (by decide) rfl (fun ls hl => ?_)
      refine lv_goto (tgt := 19) S0.1 S0.2.1 dX11_restoreSnapshot_41 (by decide) ?_
      exact IHl (k9 + 1, up h9 k9.toNat (Kp k9.toNat)) H locs ls (by refine ⟨by omega, ?_⟩; rw [show (k9 + 1).toNat = k9.toNat + 1 by omega, ← cpi_up, hh9, Nat.zero_add]) (by (try dsimp only); omega) hW (lv_sub hl [0, 1] rfl)
  · skip
    exact absurd c8 (by omega)
set_option maxHeartbeats 4000000 in
set_option maxRecDepth 100000 in
theorem c_X11_restoreSnapshot3 (l : Launch) (g : GG) (mo az ap ak ax a1 a2 a3 a4 a5 a6 v1 v2 v3 v4 v5 v6 : Nat) (pm ty th mn wt bn wh dp dg : Int) (Z P Kp : Nat → Int) (hp : 0 ≤ pm ∧ pm < 4) : qMet l yX11_restoreSnapshot wsX11_restoreSnapshot ({ frames := 1, cells := 0, slots := 0, locals := 21 }) g [.ref mo] [(mo, .inr (11, [.ref az, .ref ap, .int (iI pm), .ref ak, .int (iI 1), .ref ax, .int (iI ty), .int (iI th), .ref a1, .ref a2, .int (iI mn), .ref a3, .int (iI wt), .ref a4, .ref a5, .ref a6, .ref v1, .ref v2, .ref v3, .ref v4, .ref v5, .ref v6, .int (iI bn), .int (iI wh), .int (iI dp), .int (iI dg)])), (az, gI g 325 Z), (ap, gI g 1300 P), (ak, gI g 325 Kp)] (fun _ => True) (fun _ => True) (S := Unit) (fun _ => some (.int (iI (cpi Kp 0 Z 325 0)))) (fun _ => [(mo, .inr (11, [.ref az, .ref ap, .int (iI (recN pm)), .ref ak, .int (iI 1), .ref ax, .int (iI ty), .int (iI 0), .ref a1, .ref a2, .int (iI mn), .ref a3, .int (iI wt), .ref a4, .ref a5, .ref a6, .ref v1, .ref v2, .ref v3, .ref v4, .ref v5, .ref v6, .int (iI bn), .int (iI wh), .int (iI dp), .int (iI dg)])), (az, gI g 325 (cpi Kp 0 Z 325)), (ap, gI g 1300 (recM pm P Z)), (ak, gI g 325 Kp)]) (fun _ => True) 0 0 := by
  refine q_ofW (cc := cX11_restoreSnapshot) (maxL := 2) (ret := (some .int)) (fun sz h => h.self) (by decide) rfl (Nat.le_of_ble_eq_true rfl) ?_
  intro p e s m args below meth c A ls S0 hr hlocks hnme hK hA hAe hW hD0 hX hl
  have hW : gW g A s.heap s.heap [] [(mo, .inr (11, [.ref az, .ref ap, .int (iI pm), .ref ak, .int (iI 1), .ref ax, .int (iI ty), .int (iI th), .ref a1, .ref a2, .int (iI mn), .ref a3, .int (iI wt), .ref a4, .ref a5, .ref a6, .ref v1, .ref v2, .ref v3, .ref v4, .ref v5, .ref v6, .int (iI bn), .int (iI wh), .int (iI dp), .int (iI dg)])), (az, gI g 325 Z), (ap, gI g 1300 P), (ak, gI g 325 Kp)] := hW
  have hl : lv_has ls 2 [(0, .ref mo)] := hl
  have hinX11 : ∀ w ∈ wsX110, w ∈ wsX11_restoreSnapshot := fun w h => List.mem_cons_of_mem _ (List.mem_append_right _ h)
  refine lv_aload_n S0.1 S0.2.1 dX11_restoreSnapshot_0 rfl (lv_at hl 0 rfl) ?_
  refine lv_aload_n S0.1 S0.2.1 dX11_restoreSnapshot_1 rfl (lv_at hl 0 rfl) ?_
  refine q_get (C := RX11) (T := TX11) (N := 26) S0 hK hW.1 hinX11 0 rfl rfl 4 (by decide) (List.mem_of_getElem? (i := 1) rfl) rfl rfl dX11_restoreSnapshot_2 ?_
  refine q_cV (n := 1) (rest := []) (wr := [(az, gI g 325 Z), (ap, gI g 1300 P), (ak, gI g 325 Kp)]) S0 hK hA hW (c_X11_asksT l g mo az ap ak ax a1 a2 a3 a4 a5 a6 v1 v2 v3 v4 v5 v6 pm 1 ty th mn wt bn wh dp dg) gX11_restoreSnapshot_X11_asks rfl rfl rfl (by decide +kernel) ⟨Nat.le_of_ble_eq_true rfl, Nat.le_of_ble_eq_true rfl⟩ [0] [1, 2, 3] rfl rfl rfl rfl (by decide) (q_recv hK hW.1 (ci := 11) (q0 := 0) rfl rfl) (fun _ _ => trivial) (trivial) rfl rfl hl.1 (Nat.le_of_ble_eq_true rfl) ⟨Nat.le_of_ble_eq_true rfl, Nat.le_of_ble_eq_true rfl⟩ dX11_restoreSnapshot_5 (fun _ H locs _ hW => ?_)
  have hW : gW g A s.heap H _ [(az, gI g 325 Z), (ap, gI g 1300 P), (ak, gI g 325 Kp), (mo, .inr (11, [.ref az, .ref ap, .int (iI pm), .ref ak, .int (iI 1), .ref ax, .int (iI ty), .int (iI 0), .ref a1, .ref a2, .int (iI mn), .ref a3, .int (iI wt), .ref a4, .ref a5, .ref a6, .ref v1, .ref v2, .ref v3, .ref v4, .ref v5, .ref v6, .int (iI bn), .int (iI wh), .int (iI dp), .int (iI dg)]))] := hW
  refine W.eq (g2 := F0 m 8 ls [.int (iI 1)]) rfl ?_
  refine q_if_ne (tgt := 13) S0 (by omega) dX11_restoreSnapshot_8 (by decide) (fun c8 => ?_) (fun c8 => ?_)
  · skip
    refine lv_aload_n S0.1 S0.2.1 dX11_restoreSnapshot_13 rfl (lv_at hl 0 rfl) ?_
    refine q_cV (n := 0) (rest := []) (wr := [(ak, gI g 325 Kp)]) S0 hK hA hW (c_X11_record3 l g mo az ap ak ax a1 a2 a3 a4 a5 a6 v1 v2 v3 v4 v5 v6 pm 1 ty 0 mn wt bn wh dp dg Z P (by omega)) gX11_restoreSnapshot_X11_record rfl rfl rfl (by decide +kernel) ⟨Nat.le_of_ble_eq_true rfl, Nat.le_of_ble_eq_true rfl⟩ [3, 0, 1] [2] rfl rfl rfl rfl (by decide) (q_recv hK hW.1 (ci := 11) (q0 := 3) rfl rfl) (fun _ _ => trivial) (trivial) rfl rfl hl.1 (Nat.le_of_ble_eq_true rfl) ⟨Nat.le_of_ble_eq_true rfl, Nat.le_of_ble_eq_true rfl⟩ dX11_restoreSnapshot_14 (fun _ H locs _ hW => ?_)
    have hW : gW g A s.heap H _ [(ak, gI g 325 Kp), (mo, .inr (11, [.ref az, .ref ap, .int (iI (recN pm)), .ref ak, .int (iI 1), .ref ax, .int (iI ty), .int (iI 0), .ref a1, .ref a2, .int (iI mn), .ref a3, .int (iI wt), .ref a4, .ref a5, .ref a6, .ref v1, .ref v2, .ref v3, .ref v4, .ref v5, .ref v6, .int (iI bn), .int (iI wh), .int (iI dp), .int (iI dg)])), (az, gI g 325 Z), (ap, gI g 1300 (recM pm P Z))] := hW
    refine W.eq (g2 := F0 m 17 ls []) rfl ?_
    refine q_iconst S0 dX11_restoreSnapshot_17 ?_
    refine lv_istore_n (lv' := [(1, .int (iI 0)), (0, .ref mo)]) S0.1 S0.2.1 dX11_restoreSnapshot_18 rfl hl (by decide) rfl (fun ls hl => ?_)
    refine q_loop (α := Int × (Nat → Int)) (fun (z_ : Int × (Nat → Int)) => match z_ with | (k9, h9) => (0 ≤ k9 ∧ k9 ≤ 325) ∧ h9 = cpi Kp 0 Z k9.toNat) (fun (z_ : Int × (Nat → Int)) => match z_ with | (k9, h9) => (325 - k9).toNat) (fun (z_ : Int × (Nat → Int)) => match z_ with | (k9, h9) => [(ak, gI g 325 Kp), (mo, .inr (11, [.ref az, .ref ap, .int (iI (recN pm)), .ref ak, .int (iI 1), .ref ax, .int (iI ty), .int (iI 0), .ref a1, .ref a2, .int (iI mn), .ref a3, .int (iI wt), .ref a4, .ref a5, .ref a6, .ref v1, .ref v2, .ref v3, .ref v4, .ref v5, .ref v6, .int (iI bn), .int (iI wh), .int (iI dp), .int (iI dg)])), (az, gI g 325 h9), (ap, gI g 1300 (recM pm P Z))]) (fun (z_ : Int × (Nat → Int)) => match z_ with | (k9, h9) => [(1, .int (iI k9)), (0, .ref mo)]) ?_ (0, Z) (by refine ⟨by omega, ?_⟩; exact (cpi_0 Kp 0 Z).symm) hW (lv_sub hl [0, 1] rfl)
    rintro ⟨k9, h9⟩ hinv IHl H locs ls hW hl
    try dsimp only at hinv
    have hW : gW g A s.heap H _ [(ak, gI g 325 Kp), (mo, .inr (11, [.ref az, .ref ap, .int (iI (recN pm)), .ref ak, .int (iI 1), .ref ax, .int (iI ty), .int (iI 0), .ref a1, .ref a2, .int (iI mn), .ref a3, .int (iI wt), .ref a4, .ref a5, .ref a6, .ref v1, .ref v2, .ref v3, .ref v4, .ref v5, .ref v6, .int (iI bn), .int (iI wh), .int (iI dp), .int (iI dg)])), (az, gI g 325 h9), (ap, gI g 1300 (recM pm P Z))] := hW
    have hl : lv_has ls 2 [(1, .int (iI k9)), (0, .ref mo)] := hl
    obtain ⟨hk9, hh9⟩ := hinv
    refine lv_iload_n S0.1 S0.2.1 dX11_restoreSnapshot_19 rfl (lv_at hl 0 rfl) ?_
    refine q_sipush S0 (by decide) dX11_restoreSnapshot_20 ?_
    refine q_icmp_ge (tgt := 44) S0 (by omega) dX11_restoreSnapshot_23 (by decide) (fun c23 => ?_) (fun c23 => ?_)
    · skip
      refine lv_aload_n S0.1 S0.2.1 dX11_restoreSnapshot_44 rfl (lv_at hl 1 rfl) ?_
      refine q_get (C := RX11) (T := TX11) (N := 26) S0 hK hW.1 hinX11 1 rfl rfl 0 (by decide) (List.mem_of_getElem? (i := 2) rfl) rfl rfl dX11_restoreSnapshot_45 ?_
      refine q_iconst S0 dX11_restoreSnapshot_48 ?_
      refine q_iald S0 hK hW.1 2 rfl (by omega) dX11_restoreSnapshot_49 ?_
      refine W.eq (g2 := F0 m 50 ls [.int (iI (h9 0))]) rfl ?_
      exact q_iret S0 hr hlocks () (trivial) (by rw [hh9, show k9.toNat = 325 by omega]) (hW.sub [1, 2, 3, 0] rfl (by rw [hh9, show k9.toNat = 325 by omega]; rfl)) (Nat.le_of_ble_eq_true rfl) (Nat.le_of_ble_eq_true rfl) dX11_restoreSnapshot_50
    · skip
      refine lv_aload_n S0.1 S0.2.1 dX11_restoreSnapshot_26 rfl (lv_at hl 1 rfl) ?_
      refine q_get (C := RX11) (T := TX11) (N := 26) S0 hK hW.1 hinX11 1 rfl rfl 0 (by decide) (List.mem_of_getElem? (i := 2) rfl) rfl rfl dX11_restoreSnapshot_27 ?_
      refine lv_iload_n S0.1 S0.2.1 dX11_restoreSnapshot_30 rfl (lv_at hl 0 rfl) ?_
      refine lv_aload_n S0.1 S0.2.1 dX11_restoreSnapshot_31 rfl (lv_at hl 1 rfl) ?_
      refine q_get (C := RX11) (T := TX11) (N := 26) S0 hK hW.1 hinX11 1 rfl rfl 3 (by decide) (List.mem_of_getElem? (i := 3) rfl) rfl rfl dX11_restoreSnapshot_32 ?_
      refine lv_iload_n S0.1 S0.2.1 dX11_restoreSnapshot_35 rfl (lv_at hl 0 rfl) ?_
      refine q_iald S0 hK hW.1 0 rfl (by omega) dX11_restoreSnapshot_36 ?_
      refine q_iast S0 hK hW 2 rfl (by omega) dX11_restoreSnapshot_37 (fun H locs hW => ?_)
      have hW : gW g A s.heap H _ [(ak, gI g 325 Kp), (mo, .inr (11, [.ref az, .ref ap, .int (iI (recN pm)), .ref ak, .int (iI 1), .ref ax, .int (iI ty), .int (iI 0), .ref a1, .ref a2, .int (iI mn), .ref a3, .int (iI wt), .ref a4, .ref a5, .ref a6, .ref v1, .ref v2, .ref v3, .ref v4, .ref v5, .ref v6, .int (iI bn), .int (iI wh), .int (iI dp), .int (iI dg)])), (az, gI g 325 (up h9 ((k9).toNat) (Kp (k9).toNat))), (ap, gI g 1300 (recM pm P Z))] := hW
      refine q_iinc (lv' := [(1, .int (iI (k9 + 1))), (0, .ref mo)]) S0 dX11_restoreSnapshot_38 hl (k := 0) rfl (by decide) rfl (fun ls hl => ?_)
      refine lv_goto (tgt := 19) S0.1 S0.2.1 dX11_restoreSnapshot_41 (by decide) ?_
      exact IHl (k9 + 1, up h9 k9.toNat (Kp k9.toNat)) H locs ls (by refine ⟨by omega, ?_⟩; rw [show (k9 + 1).toNat = k9.toNat + 1 by omega, ← cpi_up, hh9, Nat.zero_add]) (by (try dsimp only); omega) hW (lv_sub hl [0, 1] rfl)
  · skip
    exact absurd c8 (by omega)
set_option maxHeartbeats 4000000 in
set_option maxRecDepth 100000 in
theorem c_X11_recordedStates (l : Launch) (g : GG) (mo az ap ak ax a1 a2 a3 a4 a5 a6 v1 v2 v3 v4 v5 v6 : Nat) (pm ik ty th mn wt bn wh dp dg : Int) : qMet l yX11_recordedStates wsX11_recordedStates ({ frames := 1, cells := 0, slots := 0, locals := 21 }) g [.ref mo] [(mo, .inr (11, [.ref az, .ref ap, .int (iI pm), .ref ak, .int (iI ik), .ref ax, .int (iI ty), .int (iI th), .ref a1, .ref a2, .int (iI mn), .ref a3, .int (iI wt), .ref a4, .ref a5, .ref a6, .ref v1, .ref v2, .ref v3, .ref v4, .ref v5, .ref v6, .int (iI bn), .int (iI wh), .int (iI dp), .int (iI dg)]))] (fun _ => True) (fun _ => True) (S := Unit) (fun _ => some (.int (iI pm))) (fun _ => [(mo, .inr (11, [.ref az, .ref ap, .int (iI pm), .ref ak, .int (iI ik), .ref ax, .int (iI ty), .int (iI 0), .ref a1, .ref a2, .int (iI mn), .ref a3, .int (iI wt), .ref a4, .ref a5, .ref a6, .ref v1, .ref v2, .ref v3, .ref v4, .ref v5, .ref v6, .int (iI bn), .int (iI wh), .int (iI dp), .int (iI dg)]))]) (fun _ => True) 0 0 := by
  refine q_ofW (cc := cX11_recordedStates) (maxL := 1) (ret := (some .int)) (fun sz h => h.self) (by decide) rfl (Nat.le_of_ble_eq_true rfl) ?_
  intro p e s m args below meth c A ls S0 hr hlocks hnme hK hA hAe hW hD0 hX hl
  have hW : gW g A s.heap s.heap [] [(mo, .inr (11, [.ref az, .ref ap, .int (iI pm), .ref ak, .int (iI ik), .ref ax, .int (iI ty), .int (iI th), .ref a1, .ref a2, .int (iI mn), .ref a3, .int (iI wt), .ref a4, .ref a5, .ref a6, .ref v1, .ref v2, .ref v3, .ref v4, .ref v5, .ref v6, .int (iI bn), .int (iI wh), .int (iI dp), .int (iI dg)]))] := hW
  have hl : lv_has ls 1 [(0, .ref mo)] := hl
  have hinX11 : ∀ w ∈ wsX110, w ∈ wsX11_recordedStates := fun w h => List.mem_cons_of_mem _ (List.mem_append_right _ h)
  refine lv_aload_n S0.1 S0.2.1 dX11_recordedStates_0 rfl (lv_at hl 0 rfl) ?_
  refine lv_aload_n S0.1 S0.2.1 dX11_recordedStates_1 rfl (lv_at hl 0 rfl) ?_
  refine q_get (C := RX11) (T := TX11) (N := 26) S0 hK hW.1 hinX11 0 rfl rfl 2 (by decide) (List.mem_of_getElem? (i := 1) rfl) rfl rfl dX11_recordedStates_2 ?_
  refine q_cV (n := 1) (rest := []) (wr := []) S0 hK hA hW (c_X11_says l g mo az ap ak ax a1 a2 a3 a4 a5 a6 v1 v2 v3 v4 v5 v6 pm ik ty th mn wt bn wh dp dg pm) gX11_recordedStates_X11_says rfl rfl rfl (by decide +kernel) ⟨Nat.le_of_ble_eq_true rfl, Nat.le_of_ble_eq_true rfl⟩ [0] [] rfl rfl rfl rfl (by decide) (q_recv hK hW.1 (ci := 11) (q0 := 0) rfl rfl) (fun _ _ => trivial) (trivial) rfl rfl hl.1 (Nat.le_of_ble_eq_true rfl) ⟨Nat.le_of_ble_eq_true rfl, Nat.le_of_ble_eq_true rfl⟩ dX11_recordedStates_5 (fun _ H locs _ hW => ?_)
  have hW : gW g A s.heap H _ [(mo, .inr (11, [.ref az, .ref ap, .int (iI pm), .ref ak, .int (iI ik), .ref ax, .int (iI ty), .int (iI 0), .ref a1, .ref a2, .int (iI mn), .ref a3, .int (iI wt), .ref a4, .ref a5, .ref a6, .ref v1, .ref v2, .ref v3, .ref v4, .ref v5, .ref v6, .int (iI bn), .int (iI wh), .int (iI dp), .int (iI dg)]))] := hW
  refine W.eq (g2 := F0 m 8 ls [.int (iI pm)]) rfl ?_
  exact q_iret S0 hr hlocks () (trivial) (rfl) (hW.sub [0] rfl (rfl)) (Nat.le_of_ble_eq_true rfl) (Nat.le_of_ble_eq_true rfl) dX11_recordedStates_8
set_option maxHeartbeats 4000000 in
set_option maxRecDepth 100000 in
theorem c_X11_type1 (l : Launch) (g : GG) (mo az ap ak ax a1 a2 a3 a4 a5 a6 v1 v2 v3 v4 v5 v6 : Nat) (pm ik ty th mn wt bn wh dp dg : Int) (x : Int) (ht : ty = 40) : qMet l yX11_type wsX11_type ({ frames := 1, cells := 0, slots := 0, locals := 21 }) g [.ref mo, .int (iI x)] [(mo, .inr (11, [.ref az, .ref ap, .int (iI pm), .ref ak, .int (iI ik), .ref ax, .int (iI ty), .int (iI th), .ref a1, .ref a2, .int (iI mn), .ref a3, .int (iI wt), .ref a4, .ref a5, .ref a6, .ref v1, .ref v2, .ref v3, .ref v4, .ref v5, .ref v6, .int (iI bn), .int (iI wh), .int (iI dp), .int (iI dg)]))] (fun _ => True) (fun _ => True) (S := Unit) (fun _ => some (.int (iI 0))) (fun _ => [(mo, .inr (11, [.ref az, .ref ap, .int (iI pm), .ref ak, .int (iI ik), .ref ax, .int (iI ty), .int (iI 1), .ref a1, .ref a2, .int (iI mn), .ref a3, .int (iI wt), .ref a4, .ref a5, .ref a6, .ref v1, .ref v2, .ref v3, .ref v4, .ref v5, .ref v6, .int (iI bn), .int (iI wh), .int (iI dp), .int (iI dg)]))]) (fun _ => True) 0 0 := by
  refine q_ofW (cc := cX11_type) (maxL := 2) (ret := (some .int)) (fun sz h => h.self) (by decide) rfl (Nat.le_of_ble_eq_true rfl) ?_
  intro p e s m args below meth c A ls S0 hr hlocks hnme hK hA hAe hW hD0 hX hl
  have hW : gW g A s.heap s.heap [] [(mo, .inr (11, [.ref az, .ref ap, .int (iI pm), .ref ak, .int (iI ik), .ref ax, .int (iI ty), .int (iI th), .ref a1, .ref a2, .int (iI mn), .ref a3, .int (iI wt), .ref a4, .ref a5, .ref a6, .ref v1, .ref v2, .ref v3, .ref v4, .ref v5, .ref v6, .int (iI bn), .int (iI wh), .int (iI dp), .int (iI dg)]))] := hW
  have hl : lv_has ls 2 [(0, .ref mo), (1, .int (iI x))] := hl
  have hinX11 : ∀ w ∈ wsX110, w ∈ wsX11_type := fun w h => List.mem_cons_of_mem _ (List.mem_append_right _ h)
  refine lv_aload_n S0.1 S0.2.1 dX11_type_0 rfl (lv_at hl 0 rfl) ?_
  refine lv_aload_n S0.1 S0.2.1 dX11_type_1 rfl (lv_at hl 0 rfl) ?_
  refine q_get (C := RX11) (T := TX11) (N := 26) S0 hK hW.1 hinX11 0 rfl rfl 6 (by decide) (List.mem_of_getElem? (i := 1) rfl) rfl rfl dX11_type_2 ?_
  refine q_bipush S0 (by decide) dX11_type_5 ?_
  refine q_icmp_ge (tgt := 14) S0 (by omega) dX11_type_7 (by decide) (fun c7 => ?_) (fun c7 => ?_)
  · skip
    refine q_iconst S0 dX11_type_14 ?_
    refine q_cV (n := 1) (rest := []) (wr := []) S0 hK hA hW (c_X11_asksF l g mo az ap ak ax a1 a2 a3 a4 a5 a6 v1 v2 v3 v4 v5 v6 pm ik ty th mn wt bn wh dp dg) gX11_type_X11_asks rfl rfl rfl (by decide +kernel) ⟨Nat.le_of_ble_eq_true rfl, Nat.le_of_ble_eq_true rfl⟩ [0] [] rfl rfl rfl rfl (by decide) (q_recv hK hW.1 (ci := 11) (q0 := 0) rfl rfl) (fun _ _ => trivial) (trivial) rfl rfl hl.1 (Nat.le_of_ble_eq_true rfl) ⟨Nat.le_of_ble_eq_true rfl, Nat.le_of_ble_eq_true rfl⟩ dX11_type_15 (fun _ H locs _ hW => ?_)
    have hW : gW g A s.heap H _ [(mo, .inr (11, [.ref az, .ref ap, .int (iI pm), .ref ak, .int (iI ik), .ref ax, .int (iI ty), .int (iI 1), .ref a1, .ref a2, .int (iI mn), .ref a3, .int (iI wt), .ref a4, .ref a5, .ref a6, .ref v1, .ref v2, .ref v3, .ref v4, .ref v5, .ref v6, .int (iI bn), .int (iI wh), .int (iI dp), .int (iI dg)]))] := hW
    refine W.eq (g2 := F0 m 18 ls [.int (iI 0)]) rfl ?_
    refine q_if_ne (tgt := 23) S0 (by omega) dX11_type_18 (by decide) (fun c18 => ?_) (fun c18 => ?_)
    · skip
      exact absurd c18 (by omega)
    · skip
      refine q_iconst S0 dX11_type_21 ?_
      exact q_iret S0 hr hlocks () (trivial) (rfl) (hW.sub [0] rfl (rfl)) (Nat.le_of_ble_eq_true rfl) (Nat.le_of_ble_eq_true rfl) dX11_type_22
  · skip
    exact absurd c7 (by omega)
set_option maxHeartbeats 4000000 in
set_option maxRecDepth 100000 in
theorem c_X11_type0 (l : Launch) (g : GG) (mo az ap ak ax a1 a2 a3 a4 a5 a6 v1 v2 v3 v4 v5 v6 : Nat) (pm ik ty th mn wt bn wh dp dg : Int) (x : Int) (f : Nat → Int) (ht : 0 ≤ ty ∧ ty < 40) (hx : 0 ≤ x ∧ x < 65536) : qMet l yX11_type wsX11_type ({ frames := 1, cells := 0, slots := 0, locals := 21 }) g [.ref mo, .int (iI x)] [(mo, .inr (11, [.ref az, .ref ap, .int (iI pm), .ref ak, .int (iI ik), .ref ax, .int (iI ty), .int (iI th), .ref a1, .ref a2, .int (iI mn), .ref a3, .int (iI wt), .ref a4, .ref a5, .ref a6, .ref v1, .ref v2, .ref v3, .ref v4, .ref v5, .ref v6, .int (iI bn), .int (iI wh), .int (iI dp), .int (iI dg)])), (ax, gC g 40 f)] (fun _ => True) (fun _ => True) (S := Unit) (fun _ => some (.int (iI (ty + 1)))) (fun _ => [(mo, .inr (11, [.ref az, .ref ap, .int (iI pm), .ref ak, .int (iI ik), .ref ax, .int (iI (ty + 1)), .int (iI 0), .ref a1, .ref a2, .int (iI mn), .ref a3, .int (iI wt), .ref a4, .ref a5, .ref a6, .ref v1, .ref v2, .ref v3, .ref v4, .ref v5, .ref v6, .int (iI bn), .int (iI wh), .int (iI dp), .int (iI dg)])), (ax, gC g 40 (up f ty.toNat x))]) (fun _ => True) 0 0 := by
  refine q_ofW (cc := cX11_type) (maxL := 2) (ret := (some .int)) (fun sz h => h.self) (by decide) rfl (Nat.le_of_ble_eq_true rfl) ?_
  intro p e s m args below meth c A ls S0 hr hlocks hnme hK hA hAe hW hD0 hX hl
  have hW : gW g A s.heap s.heap [] [(mo, .inr (11, [.ref az, .ref ap, .int (iI pm), .ref ak, .int (iI ik), .ref ax, .int (iI ty), .int (iI th), .ref a1, .ref a2, .int (iI mn), .ref a3, .int (iI wt), .ref a4, .ref a5, .ref a6, .ref v1, .ref v2, .ref v3, .ref v4, .ref v5, .ref v6, .int (iI bn), .int (iI wh), .int (iI dp), .int (iI dg)])), (ax, gC g 40 f)] := hW
  have hl : lv_has ls 2 [(0, .ref mo), (1, .int (iI x))] := hl
  have hinX11 : ∀ w ∈ wsX110, w ∈ wsX11_type := fun w h => List.mem_cons_of_mem _ (List.mem_append_right _ h)
  refine lv_aload_n S0.1 S0.2.1 dX11_type_0 rfl (lv_at hl 0 rfl) ?_
  refine lv_aload_n S0.1 S0.2.1 dX11_type_1 rfl (lv_at hl 0 rfl) ?_
  refine q_get (C := RX11) (T := TX11) (N := 26) S0 hK hW.1 hinX11 0 rfl rfl 6 (by decide) (List.mem_of_getElem? (i := 1) rfl) rfl rfl dX11_type_2 ?_
  refine q_bipush S0 (by decide) dX11_type_5 ?_
  refine q_icmp_ge (tgt := 14) S0 (by omega) dX11_type_7 (by decide) (fun c7 => ?_) (fun c7 => ?_)
  · skip
    exact absurd c7 (by omega)
  · skip
    refine q_iconst S0 dX11_type_10 ?_
    refine lv_goto (tgt := 15) S0.1 S0.2.1 dX11_type_11 (by decide) ?_
    refine q_cV (n := 1) (rest := []) (wr := [(ax, gC g 40 f)]) S0 hK hA hW (c_X11_asksT l g mo az ap ak ax a1 a2 a3 a4 a5 a6 v1 v2 v3 v4 v5 v6 pm ik ty th mn wt bn wh dp dg) gX11_type_X11_asks rfl rfl rfl (by decide +kernel) ⟨Nat.le_of_ble_eq_true rfl, Nat.le_of_ble_eq_true rfl⟩ [0] [1] rfl rfl rfl rfl (by decide) (q_recv hK hW.1 (ci := 11) (q0 := 0) rfl rfl) (fun _ _ => trivial) (trivial) rfl rfl hl.1 (Nat.le_of_ble_eq_true rfl) ⟨Nat.le_of_ble_eq_true rfl, Nat.le_of_ble_eq_true rfl⟩ dX11_type_15 (fun _ H locs _ hW => ?_)
    have hW : gW g A s.heap H _ [(ax, gC g 40 f), (mo, .inr (11, [.ref az, .ref ap, .int (iI pm), .ref ak, .int (iI ik), .ref ax, .int (iI ty), .int (iI 0), .ref a1, .ref a2, .int (iI mn), .ref a3, .int (iI wt), .ref a4, .ref a5, .ref a6, .ref v1, .ref v2, .ref v3, .ref v4, .ref v5, .ref v6, .int (iI bn), .int (iI wh), .int (iI dp), .int (iI dg)]))] := hW
    refine W.eq (g2 := F0 m 18 ls [.int (iI 1)]) rfl ?_
    refine q_if_ne (tgt := 23) S0 (by omega) dX11_type_18 (by decide) (fun c18 => ?_) (fun c18 => ?_)
    · skip
      refine lv_aload_n S0.1 S0.2.1 dX11_type_23 rfl (lv_at hl 0 rfl) ?_
      refine q_get (C := RX11) (T := TX11) (N := 26) S0 hK hW.1 hinX11 1 rfl rfl 5 (by decide) (List.mem_of_getElem? (i := 2) rfl) rfl rfl dX11_type_24 ?_
      refine lv_aload_n S0.1 S0.2.1 dX11_type_27 rfl (lv_at hl 0 rfl) ?_
      refine q_get (C := RX11) (T := TX11) (N := 26) S0 hK hW.1 hinX11 1 rfl rfl 6 (by decide) (List.mem_of_getElem? (i := 1) rfl) rfl rfl dX11_type_28 ?_
      refine lv_iload_n S0.1 S0.2.1 dX11_type_31 rfl (lv_at hl 1 rfl) ?_
      refine q_cast S0 hK hW 0 rfl (by omega) (by omega) dX11_type_32 (fun H locs hW => ?_)
      have hW : gW g A s.heap H _ [(ax, gC g 40 (up f ((ty).toNat) x)), (mo, .inr (11, [.ref az, .ref ap, .int (iI pm), .ref ak, .int (iI ik), .ref ax, .int (iI ty), .int (iI 0), .ref a1, .ref a2, .int (iI mn), .ref a3, .int (iI wt), .ref a4, .ref a5, .ref a6, .ref v1, .ref v2, .ref v3, .ref v4, .ref v5, .ref v6, .int (iI bn), .int (iI wh), .int (iI dp), .int (iI dg)]))] := hW
      refine lv_aload_n S0.1 S0.2.1 dX11_type_33 rfl (lv_at hl 0 rfl) ?_
      refine lv_dup S0.1 S0.2.1 dX11_type_34 rfl ?_
      refine q_get (C := RX11) (T := TX11) (N := 26) S0 hK hW.1 hinX11 1 rfl rfl 6 (by decide) (List.mem_of_getElem? (i := 1) rfl) rfl rfl dX11_type_35 ?_
      refine q_iconst S0 dX11_type_38 ?_
      refine q_iadd S0 dX11_type_39 ?_
      refine q_put (C := RX11) (T := TX11) (N := 26) S0 hK hW hinX11 tyX11_ok nmX11 1 rfl rfl 6 (by decide) (List.mem_of_getElem? (i := 1) rfl) rfl rfl rfl rfl (Nat.le_of_ble_eq_true rfl) dX11_type_40 (fun H locs hW => ?_)
      have hW : gW g A s.heap H _ [(ax, gC g 40 (up f ((ty).toNat) x)), (mo, .inr (11, [.ref az, .ref ap, .int (iI pm), .ref ak, .int (iI ik), .ref ax, .int (iI (ty + 1)), .int (iI 0), .ref a1, .ref a2, .int (iI mn), .ref a3, .int (iI wt), .ref a4, .ref a5, .ref a6, .ref v1, .ref v2, .ref v3, .ref v4, .ref v5, .ref v6, .int (iI bn), .int (iI wh), .int (iI dp), .int (iI dg)]))] := hW
      refine lv_aload_n S0.1 S0.2.1 dX11_type_43 rfl (lv_at hl 0 rfl) ?_
      refine q_get (C := RX11) (T := TX11) (N := 26) S0 hK hW.1 hinX11 1 rfl rfl 6 (by decide) (List.mem_of_getElem? (i := 1) rfl) rfl rfl dX11_type_44 ?_
      exact q_iret S0 hr hlocks () (trivial) (rfl) (hW.sub [1, 0] rfl (rfl)) (Nat.le_of_ble_eq_true rfl) (Nat.le_of_ble_eq_true rfl) dX11_type_47
    · skip
      exact absurd c18 (by omega)
set_option maxHeartbeats 4000000 in
set_option maxRecDepth 100000 in
theorem c_X11_clearText (l : Launch) (g : GG) (mo az ap ak ax a1 a2 a3 a4 a5 a6 v1 v2 v3 v4 v5 v6 : Nat) (pm ik ty th mn wt bn wh dp dg : Int) : qMet l yX11_clearText wsX11_clearText ({ frames := 1, cells := 0, slots := 0, locals := 21 }) g [.ref mo] [(mo, .inr (11, [.ref az, .ref ap, .int (iI pm), .ref ak, .int (iI ik), .ref ax, .int (iI ty), .int (iI th), .ref a1, .ref a2, .int (iI mn), .ref a3, .int (iI wt), .ref a4, .ref a5, .ref a6, .ref v1, .ref v2, .ref v3, .ref v4, .ref v5, .ref v6, .int (iI bn), .int (iI wh), .int (iI dp), .int (iI dg)]))] (fun _ => True) (fun _ => True) (S := Unit) (fun _ => some (.int (iI ty))) (fun _ => [(mo, .inr (11, [.ref az, .ref ap, .int (iI pm), .ref ak, .int (iI ik), .ref ax, .int (iI 0), .int (iI 0), .ref a1, .ref a2, .int (iI mn), .ref a3, .int (iI wt), .ref a4, .ref a5, .ref a6, .ref v1, .ref v2, .ref v3, .ref v4, .ref v5, .ref v6, .int (iI bn), .int (iI wh), .int (iI dp), .int (iI dg)]))]) (fun _ => True) 0 0 := by
  refine q_ofW (cc := cX11_clearText) (maxL := 2) (ret := (some .int)) (fun sz h => h.self) (by decide) rfl (Nat.le_of_ble_eq_true rfl) ?_
  intro p e s m args below meth c A ls S0 hr hlocks hnme hK hA hAe hW hD0 hX hl
  have hW : gW g A s.heap s.heap [] [(mo, .inr (11, [.ref az, .ref ap, .int (iI pm), .ref ak, .int (iI ik), .ref ax, .int (iI ty), .int (iI th), .ref a1, .ref a2, .int (iI mn), .ref a3, .int (iI wt), .ref a4, .ref a5, .ref a6, .ref v1, .ref v2, .ref v3, .ref v4, .ref v5, .ref v6, .int (iI bn), .int (iI wh), .int (iI dp), .int (iI dg)]))] := hW
  have hl : lv_has ls 2 [(0, .ref mo)] := hl
  have hinX11 : ∀ w ∈ wsX110, w ∈ wsX11_clearText := fun w h => List.mem_cons_of_mem _ (List.mem_append_right _ h)
  refine lv_aload_n S0.1 S0.2.1 dX11_clearText_0 rfl (lv_at hl 0 rfl) ?_
  refine q_get (C := RX11) (T := TX11) (N := 26) S0 hK hW.1 hinX11 0 rfl rfl 6 (by decide) (List.mem_of_getElem? (i := 1) rfl) rfl rfl dX11_clearText_1 ?_
  refine lv_istore_n (lv' := [(1, .int (iI ty)), (0, .ref mo)]) S0.1 S0.2.1 dX11_clearText_4 rfl hl (by decide) rfl (fun ls hl => ?_)
  refine lv_aload_n S0.1 S0.2.1 dX11_clearText_5 rfl (lv_at hl 1 rfl) ?_
  refine q_iconst S0 dX11_clearText_6 ?_
  refine q_put (C := RX11) (T := TX11) (N := 26) S0 hK hW hinX11 tyX11_ok nmX11 0 rfl rfl 6 (by decide) (List.mem_of_getElem? (i := 1) rfl) rfl rfl rfl rfl (Nat.le_of_ble_eq_true rfl) dX11_clearText_7 (fun H locs hW => ?_)
  have hW : gW g A s.heap H _ [(mo, .inr (11, [.ref az, .ref ap, .int (iI pm), .ref ak, .int (iI ik), .ref ax, .int (iI 0), .int (iI th), .ref a1, .ref a2, .int (iI mn), .ref a3, .int (iI wt), .ref a4, .ref a5, .ref a6, .ref v1, .ref v2, .ref v3, .ref v4, .ref v5, .ref v6, .int (iI bn), .int (iI wh), .int (iI dp), .int (iI dg)]))] := hW
  refine lv_aload_n S0.1 S0.2.1 dX11_clearText_10 rfl (lv_at hl 1 rfl) ?_
  refine lv_iload_n S0.1 S0.2.1 dX11_clearText_11 rfl (lv_at hl 0 rfl) ?_
  refine q_cV (n := 1) (rest := []) (wr := []) S0 hK hA hW (c_X11_says l g mo az ap ak ax a1 a2 a3 a4 a5 a6 v1 v2 v3 v4 v5 v6 pm ik 0 th mn wt bn wh dp dg ty) gX11_clearText_X11_says rfl rfl rfl (by decide +kernel) ⟨Nat.le_of_ble_eq_true rfl, Nat.le_of_ble_eq_true rfl⟩ [0] [] rfl rfl rfl rfl (by decide) (q_recv hK hW.1 (ci := 11) (q0 := 0) rfl rfl) (fun _ _ => trivial) (trivial) rfl rfl hl.1 (Nat.le_of_ble_eq_true rfl) ⟨Nat.le_of_ble_eq_true rfl, Nat.le_of_ble_eq_true rfl⟩ dX11_clearText_12 (fun _ H locs _ hW => ?_)
  have hW : gW g A s.heap H _ [(mo, .inr (11, [.ref az, .ref ap, .int (iI pm), .ref ak, .int (iI ik), .ref ax, .int (iI 0), .int (iI 0), .ref a1, .ref a2, .int (iI mn), .ref a3, .int (iI wt), .ref a4, .ref a5, .ref a6, .ref v1, .ref v2, .ref v3, .ref v4, .ref v5, .ref v6, .int (iI bn), .int (iI wh), .int (iI dp), .int (iI dg)]))] := hW
  refine W.eq (g2 := F0 m 15 ls [.int (iI ty)]) rfl ?_
  exact q_iret S0 hr hlocks () (trivial) (rfl) (hW.sub [0] rfl (rfl)) (Nat.le_of_ble_eq_true rfl) (Nat.le_of_ble_eq_true rfl) dX11_clearText_15
set_option maxHeartbeats 4000000 in
set_option maxRecDepth 100000 in
theorem c_X11_textError (l : Launch) (g : GG) (mo az ap ak ax a1 a2 a3 a4 a5 a6 v1 v2 v3 v4 v5 v6 : Nat) (pm ik ty th bn : Int) (N : NT) (f : Nat → Int) (hZ : WZ N) (ht : 0 ≤ ty ∧ ty ≤ 40) (hf : ∀ j, 0 ≤ f j ∧ f j < 65536) : qMet l yX11_textError wsX11_textError ({ frames := 6, cells := 0, slots := 0, locals := 128 }) g [.ref mo] [(mo, .inr (11, [.ref az, .ref ap, .int (iI pm), .ref ak, .int (iI ik), .ref ax, .int (iI ty), .int (iI th), .ref a1, .ref a2, .int (iI (nN N)), .ref a3, .int (iI (nP N)), .ref a4, .ref a5, .ref a6, .ref v1, .ref v2, .ref v3, .ref v4, .ref v5, .ref v6, .int (iI bn), .int (iI (nWh N)), .int (iI (nD N)), .int (iI (nG N))])), (a1, gI g 41 (nK N)), (a2, gI g 41 (nU N)), (a3, gI g 90 (nQ N)), (ax, gC g 40 f)] (fun _ => True) (fun _ => True) (S := Unit) (fun _ => some (.int (iI ((mRead N f ty).2)))) (fun _ => [(mo, .inr (11, [.ref az, .ref ap, .int (iI pm), .ref ak, .int (iI ik), .ref ax, .int (iI ty), .int (iI 0), .ref a1, .ref a2, .int (iI (nN ((mRead N f ty).1))), .ref a3, .int (iI (nP ((mRead N f ty).1))), .ref a4, .ref a5, .ref a6, .ref v1, .ref v2, .ref v3, .ref v4, .ref v5, .ref v6, .int (iI bn), .int (iI (nWh ((mRead N f ty).1))), .int (iI (nD ((mRead N f ty).1))), .int (iI (nG ((mRead N f ty).1)))])), (a1, gI g 41 (nK ((mRead N f ty).1))), (a2, gI g 41 (nU ((mRead N f ty).1))), (a3, gI g 90 (nQ ((mRead N f ty).1))), (ax, gC g 40 f)]) (fun _ => True) 0 0 := by
  refine q_ofW (cc := cX11_textError) (maxL := 1) (ret := (some .int)) (fun sz h => h.self) (by decide) rfl (Nat.le_of_ble_eq_true rfl) ?_
  intro p e s m args below meth c A ls S0 hr hlocks hnme hK hA hAe hW hD0 hX hl
  have hW : gW g A s.heap s.heap [] [(mo, .inr (11, [.ref az, .ref ap, .int (iI pm), .ref ak, .int (iI ik), .ref ax, .int (iI ty), .int (iI th), .ref a1, .ref a2, .int (iI (nN N)), .ref a3, .int (iI (nP N)), .ref a4, .ref a5, .ref a6, .ref v1, .ref v2, .ref v3, .ref v4, .ref v5, .ref v6, .int (iI bn), .int (iI (nWh N)), .int (iI (nD N)), .int (iI (nG N))])), (a1, gI g 41 (nK N)), (a2, gI g 41 (nU N)), (a3, gI g 90 (nQ N)), (ax, gC g 40 f)] := hW
  have hl : lv_has ls 1 [(0, .ref mo)] := hl
  refine lv_aload_n S0.1 S0.2.1 dX11_textError_0 rfl (lv_at hl 0 rfl) ?_
  refine lv_aload_n S0.1 S0.2.1 dX11_textError_1 rfl (lv_at hl 0 rfl) ?_
  refine q_cV (n := 0) (rest := [.ref mo]) (wr := []) S0 hK hA hW (c_X11_readText l g mo az ap ak ax a1 a2 a3 a4 a5 a6 v1 v2 v3 v4 v5 v6 pm ik ty th bn N f (hZ) (ht) (hf)) gX11_textError_X11_readText rfl rfl rfl (by decide +kernel) ⟨Nat.le_of_ble_eq_true rfl, Nat.le_of_ble_eq_true rfl⟩ [0, 1, 2, 3, 4] [] rfl rfl rfl rfl (by decide) (q_recv hK hW.1 (ci := 11) (q0 := 0) rfl rfl) (fun _ _ => trivial) (trivial) rfl rfl hl.1 (Nat.le_of_ble_eq_true rfl) ⟨Nat.le_of_ble_eq_true rfl, Nat.le_of_ble_eq_true rfl⟩ dX11_textError_2 (fun _ H locs _ hW => ?_)
  have hW : gW g A s.heap H _ [(mo, .inr (11, [.ref az, .ref ap, .int (iI pm), .ref ak, .int (iI ik), .ref ax, .int (iI ty), .int (iI th), .ref a1, .ref a2, .int (iI (nN ((mRead N f ty).1))), .ref a3, .int (iI (nP ((mRead N f ty).1))), .ref a4, .ref a5, .ref a6, .ref v1, .ref v2, .ref v3, .ref v4, .ref v5, .ref v6, .int (iI bn), .int (iI (nWh ((mRead N f ty).1))), .int (iI (nD ((mRead N f ty).1))), .int (iI (nG ((mRead N f ty).1)))])), (a1, gI g 41 (nK ((mRead N f ty).1))), (a2, gI g 41 (nU ((mRead N f ty).1))), (a3, gI g 90 (nQ ((mRead N f ty).1))), (ax, gC g 40 f)] := hW
  refine W.eq (g2 := F0 m 5 ls [.int (iI ((mRead N f ty).2)), .ref mo]) rfl ?_
  refine q_cV (n := 1) (rest := []) (wr := [(a1, gI g 41 (nK ((mRead N f ty).1))), (a2, gI g 41 (nU ((mRead N f ty).1))), (a3, gI g 90 (nQ ((mRead N f ty).1))), (ax, gC g 40 f)]) S0 hK hA hW (c_X11_says l g mo az ap ak ax a1 a2 a3 a4 a5 a6 v1 v2 v3 v4 v5 v6 pm ik ty th (nN ((mRead N f ty).1)) (nP ((mRead N f ty).1)) bn (nWh ((mRead N f ty).1)) (nD ((mRead N f ty).1)) (nG ((mRead N f ty).1)) ((mRead N f ty).2)) gX11_textError_X11_says rfl rfl rfl (by decide +kernel) ⟨Nat.le_of_ble_eq_true rfl, Nat.le_of_ble_eq_true rfl⟩ [0] [1, 2, 3, 4] rfl rfl rfl rfl (by decide) (q_recv hK hW.1 (ci := 11) (q0 := 0) rfl rfl) (fun _ _ => trivial) (trivial) rfl rfl hl.1 (Nat.le_of_ble_eq_true rfl) ⟨Nat.le_of_ble_eq_true rfl, Nat.le_of_ble_eq_true rfl⟩ dX11_textError_5 (fun _ H locs _ hW => ?_)
  have hW : gW g A s.heap H _ [(a1, gI g 41 (nK ((mRead N f ty).1))), (a2, gI g 41 (nU ((mRead N f ty).1))), (a3, gI g 90 (nQ ((mRead N f ty).1))), (ax, gC g 40 f), (mo, .inr (11, [.ref az, .ref ap, .int (iI pm), .ref ak, .int (iI ik), .ref ax, .int (iI ty), .int (iI 0), .ref a1, .ref a2, .int (iI (nN ((mRead N f ty).1))), .ref a3, .int (iI (nP ((mRead N f ty).1))), .ref a4, .ref a5, .ref a6, .ref v1, .ref v2, .ref v3, .ref v4, .ref v5, .ref v6, .int (iI bn), .int (iI (nWh ((mRead N f ty).1))), .int (iI (nD ((mRead N f ty).1))), .int (iI (nG ((mRead N f ty).1)))]))] := hW
  refine W.eq (g2 := F0 m 8 ls [.int (iI ((mRead N f ty).2))]) rfl ?_
  exact q_iret S0 hr hlocks () (trivial) (rfl) (hW.sub [4, 0, 1, 2, 3] rfl (rfl)) (Nat.le_of_ble_eq_true rfl) (Nat.le_of_ble_eq_true rfl) dX11_textError_8
set_option maxHeartbeats 4000000 in
set_option maxRecDepth 100000 in
theorem c_X11_leastToDefine1 (l : Launch) (g : GG) (mo az ap ak ax a1 a2 a3 a4 a5 a6 v1 v2 v3 v4 v5 v6 : Nat) (pm ik ty th bn : Int) (N : NT) (f : Nat → Int) (hZ : WZ N) (ht : 0 ≤ ty ∧ ty ≤ 40) (hf : ∀ j, 0 ≤ f j ∧ f j < 65536) (hv : ¬ (mRead N f ty).2 = -1) : qMet l yX11_leastToDefine wsX11_leastToDefine ({ frames := 6, cells := 0, slots := 0, locals := 128 }) g [.ref mo] [(mo, .inr (11, [.ref az, .ref ap, .int (iI pm), .ref ak, .int (iI ik), .ref ax, .int (iI ty), .int (iI th), .ref a1, .ref a2, .int (iI (nN N)), .ref a3, .int (iI (nP N)), .ref a4, .ref a5, .ref a6, .ref v1, .ref v2, .ref v3, .ref v4, .ref v5, .ref v6, .int (iI bn), .int (iI (nWh N)), .int (iI (nD N)), .int (iI (nG N))])), (a1, gI g 41 (nK N)), (a2, gI g 41 (nU N)), (a3, gI g 90 (nQ N)), (ax, gC g 40 f)] (fun _ => True) (fun _ => True) (S := Unit) (fun _ => some (.int (iI 0))) (fun _ => [(mo, .inr (11, [.ref az, .ref ap, .int (iI pm), .ref ak, .int (iI ik), .ref ax, .int (iI ty), .int (iI 1), .ref a1, .ref a2, .int (iI (nN ((mRead N f ty).1))), .ref a3, .int (iI (nP ((mRead N f ty).1))), .ref a4, .ref a5, .ref a6, .ref v1, .ref v2, .ref v3, .ref v4, .ref v5, .ref v6, .int (iI bn), .int (iI (nWh ((mRead N f ty).1))), .int (iI (nD ((mRead N f ty).1))), .int (iI (nG ((mRead N f ty).1)))])), (a1, gI g 41 (nK ((mRead N f ty).1))), (a2, gI g 41 (nU ((mRead N f ty).1))), (a3, gI g 90 (nQ ((mRead N f ty).1))), (ax, gC g 40 f)]) (fun _ => True) 0 0 := by
  refine q_ofW (cc := cX11_leastToDefine) (maxL := 1) (ret := (some .int)) (fun sz h => h.self) (by decide) rfl (Nat.le_of_ble_eq_true rfl) ?_
  intro p e s m args below meth c A ls S0 hr hlocks hnme hK hA hAe hW hD0 hX hl
  have hW : gW g A s.heap s.heap [] [(mo, .inr (11, [.ref az, .ref ap, .int (iI pm), .ref ak, .int (iI ik), .ref ax, .int (iI ty), .int (iI th), .ref a1, .ref a2, .int (iI (nN N)), .ref a3, .int (iI (nP N)), .ref a4, .ref a5, .ref a6, .ref v1, .ref v2, .ref v3, .ref v4, .ref v5, .ref v6, .int (iI bn), .int (iI (nWh N)), .int (iI (nD N)), .int (iI (nG N))])), (a1, gI g 41 (nK N)), (a2, gI g 41 (nU N)), (a3, gI g 90 (nQ N)), (ax, gC g 40 f)] := hW
  have hl : lv_has ls 1 [(0, .ref mo)] := hl
  have hZm := WZ_mRead hZ ht hf
  have hnm := RN_mRead hZ ht hf
  have h2m := mRead_rng hZ ht hf
  refine lv_aload_n S0.1 S0.2.1 dX11_leastToDefine_0 rfl (lv_at hl 0 rfl) ?_
  refine lv_aload_n S0.1 S0.2.1 dX11_leastToDefine_1 rfl (lv_at hl 0 rfl) ?_
  refine q_cV (n := 0) (rest := [.ref mo]) (wr := []) S0 hK hA hW (c_X11_readText l g mo az ap ak ax a1 a2 a3 a4 a5 a6 v1 v2 v3 v4 v5 v6 pm ik ty th bn N f (hZ) (ht) (hf)) gX11_leastToDefine_X11_readText rfl rfl rfl (by decide +kernel) ⟨Nat.le_of_ble_eq_true rfl, Nat.le_of_ble_eq_true rfl⟩ [0, 1, 2, 3, 4] [] rfl rfl rfl rfl (by decide) (q_recv hK hW.1 (ci := 11) (q0 := 0) rfl rfl) (fun _ _ => trivial) (trivial) rfl rfl hl.1 (Nat.le_of_ble_eq_true rfl) ⟨Nat.le_of_ble_eq_true rfl, Nat.le_of_ble_eq_true rfl⟩ dX11_leastToDefine_2 (fun _ H locs _ hW => ?_)
  have hW : gW g A s.heap H _ [(mo, .inr (11, [.ref az, .ref ap, .int (iI pm), .ref ak, .int (iI ik), .ref ax, .int (iI ty), .int (iI th), .ref a1, .ref a2, .int (iI (nN ((mRead N f ty).1))), .ref a3, .int (iI (nP ((mRead N f ty).1))), .ref a4, .ref a5, .ref a6, .ref v1, .ref v2, .ref v3, .ref v4, .ref v5, .ref v6, .int (iI bn), .int (iI (nWh ((mRead N f ty).1))), .int (iI (nD ((mRead N f ty).1))), .int (iI (nG ((mRead N f ty).1)))])), (a1, gI g 41 (nK ((mRead N f ty).1))), (a2, gI g 41 (nU ((mRead N f ty).1))), (a3, gI g 90 (nQ ((mRead N f ty).1))), (ax, gC g 40 f)] := hW
  refine W.eq (g2 := F0 m 5 ls [.int (iI ((mRead N f ty).2)), .ref mo]) rfl ?_
  refine q_iconst S0 dX11_leastToDefine_5 ?_
  refine q_icmp_ne (tgt := 13) S0 (by omega) dX11_leastToDefine_6 (by decide) (fun c6 => ?_) (fun c6 => ?_)
  · skip
    refine q_iconst S0 dX11_leastToDefine_13 ?_
    refine q_cV (n := 1) (rest := []) (wr := [(a1, gI g 41 (nK ((mRead N f ty).1))), (a2, gI g 41 (nU ((mRead N f ty).1))), (a3, gI g 90 (nQ ((mRead N f ty).1))), (ax, gC g 40 f)]) S0 hK hA hW (c_X11_asksF l g mo az ap ak ax a1 a2 a3 a4 a5 a6 v1 v2 v3 v4 v5 v6 pm ik ty th (nN ((mRead N f ty).1)) (nP ((mRead N f ty).1)) bn (nWh ((mRead N f ty).1)) (nD ((mRead N f ty).1)) (nG ((mRead N f ty).1))) gX11_leastToDefine_X11_asks rfl rfl rfl (by decide +kernel) ⟨Nat.le_of_ble_eq_true rfl, Nat.le_of_ble_eq_true rfl⟩ [0] [1, 2, 3, 4] rfl rfl rfl rfl (by decide) (q_recv hK hW.1 (ci := 11) (q0 := 0) rfl rfl) (fun _ _ => trivial) (trivial) rfl rfl hl.1 (Nat.le_of_ble_eq_true rfl) ⟨Nat.le_of_ble_eq_true rfl, Nat.le_of_ble_eq_true rfl⟩ dX11_leastToDefine_14 (fun _ H locs _ hW => ?_)
    have hW : gW g A s.heap H _ [(a1, gI g 41 (nK ((mRead N f ty).1))), (a2, gI g 41 (nU ((mRead N f ty).1))), (a3, gI g 90 (nQ ((mRead N f ty).1))), (ax, gC g 40 f), (mo, .inr (11, [.ref az, .ref ap, .int (iI pm), .ref ak, .int (iI ik), .ref ax, .int (iI ty), .int (iI 1), .ref a1, .ref a2, .int (iI (nN ((mRead N f ty).1))), .ref a3, .int (iI (nP ((mRead N f ty).1))), .ref a4, .ref a5, .ref a6, .ref v1, .ref v2, .ref v3, .ref v4, .ref v5, .ref v6, .int (iI bn), .int (iI (nWh ((mRead N f ty).1))), .int (iI (nD ((mRead N f ty).1))), .int (iI (nG ((mRead N f ty).1)))]))] := hW
    refine W.eq (g2 := F0 m 17 ls [.int (iI 0)]) rfl ?_
    refine q_if_ne (tgt := 22) S0 (by omega) dX11_leastToDefine_17 (by decide) (fun c17 => ?_) (fun c17 => ?_)
    · skip
      exact absurd c17 (by omega)
    · skip
      refine q_iconst S0 dX11_leastToDefine_20 ?_
      exact q_iret S0 hr hlocks () (trivial) (rfl) (hW.sub [4, 0, 1, 2, 3] rfl (rfl)) (Nat.le_of_ble_eq_true rfl) (Nat.le_of_ble_eq_true rfl) dX11_leastToDefine_21
  · skip
    exact absurd c6 (by omega)
set_option maxHeartbeats 4000000 in
set_option maxRecDepth 100000 in
theorem c_X11_leastToDefine0 (l : Launch) (g : GG) (mo az ap ak ax a1 a2 a3 a4 a5 a6 v1 v2 v3 v4 v5 v6 : Nat) (pm ik ty th bn : Int) (N : NT) (f : Nat → Int) (hZ : WZ N) (ht : 0 ≤ ty ∧ ty ≤ 40) (hf : ∀ j, 0 ≤ f j ∧ f j < 65536) (hv : (mRead N f ty).2 = -1) : qMet l yX11_leastToDefine wsX11_leastToDefine ({ frames := 6, cells := 0, slots := 0, locals := 128 }) g [.ref mo] [(mo, .inr (11, [.ref az, .ref ap, .int (iI pm), .ref ak, .int (iI ik), .ref ax, .int (iI ty), .int (iI th), .ref a1, .ref a2, .int (iI (nN N)), .ref a3, .int (iI (nP N)), .ref a4, .ref a5, .ref a6, .ref v1, .ref v2, .ref v3, .ref v4, .ref v5, .ref v6, .int (iI bn), .int (iI (nWh N)), .int (iI (nD N)), .int (iI (nG N))])), (a1, gI g 41 (nK N)), (a2, gI g 41 (nU N)), (a3, gI g 90 (nQ N)), (ax, gC g 40 f)] (fun _ => True) (fun _ => True) (S := Unit) (fun _ => some (.int (iI (if mLe (mRead N f ty).1 < 4 then mLe (mRead N f ty).1 else -1)))) (fun _ => [(mo, .inr (11, [.ref az, .ref ap, .int (iI pm), .ref ak, .int (iI ik), .ref ax, .int (iI ty), .int (iI 0), .ref a1, .ref a2, .int (iI (nN ((mRead N f ty).1))), .ref a3, .int (iI (nP ((mRead N f ty).1))), .ref a4, .ref a5, .ref a6, .ref v1, .ref v2, .ref v3, .ref v4, .ref v5, .ref v6, .int (iI bn), .int (iI (nWh ((mRead N f ty).1))), .int (iI (nD ((mRead N f ty).1))), .int (iI (nG ((mRead N f ty).1)))])), (a1, gI g 41 (nK ((mRead N f ty).1))), (a2, gI g 41 (nU ((mRead N f ty).1))), (a3, gI g 90 (nQ ((mRead N f ty).1))), (ax, gC g 40 f)]) (fun _ => True) 0 0 := by
  refine q_ofW (cc := cX11_leastToDefine) (maxL := 1) (ret := (some .int)) (fun sz h => h.self) (by decide) rfl (Nat.le_of_ble_eq_true rfl) ?_
  intro p e s m args below meth c A ls S0 hr hlocks hnme hK hA hAe hW hD0 hX hl
  have hW : gW g A s.heap s.heap [] [(mo, .inr (11, [.ref az, .ref ap, .int (iI pm), .ref ak, .int (iI ik), .ref ax, .int (iI ty), .int (iI th), .ref a1, .ref a2, .int (iI (nN N)), .ref a3, .int (iI (nP N)), .ref a4, .ref a5, .ref a6, .ref v1, .ref v2, .ref v3, .ref v4, .ref v5, .ref v6, .int (iI bn), .int (iI (nWh N)), .int (iI (nD N)), .int (iI (nG N))])), (a1, gI g 41 (nK N)), (a2, gI g 41 (nU N)), (a3, gI g 90 (nQ N)), (ax, gC g 40 f)] := hW
  have hl : lv_has ls 1 [(0, .ref mo)] := hl
  have hZm := WZ_mRead hZ ht hf
  have hnm := RN_mRead hZ ht hf
  have h2m := mRead_rng hZ ht hf
  have hle := mLe_rng hZm (hnm hv)
  refine lv_aload_n S0.1 S0.2.1 dX11_leastToDefine_0 rfl (lv_at hl 0 rfl) ?_
  refine lv_aload_n S0.1 S0.2.1 dX11_leastToDefine_1 rfl (lv_at hl 0 rfl) ?_
  refine q_cV (n := 0) (rest := [.ref mo]) (wr := []) S0 hK hA hW (c_X11_readText l g mo az ap ak ax a1 a2 a3 a4 a5 a6 v1 v2 v3 v4 v5 v6 pm ik ty th bn N f (hZ) (ht) (hf)) gX11_leastToDefine_X11_readText rfl rfl rfl (by decide +kernel) ⟨Nat.le_of_ble_eq_true rfl, Nat.le_of_ble_eq_true rfl⟩ [0, 1, 2, 3, 4] [] rfl rfl rfl rfl (by decide) (q_recv hK hW.1 (ci := 11) (q0 := 0) rfl rfl) (fun _ _ => trivial) (trivial) rfl rfl hl.1 (Nat.le_of_ble_eq_true rfl) ⟨Nat.le_of_ble_eq_true rfl, Nat.le_of_ble_eq_true rfl⟩ dX11_leastToDefine_2 (fun _ H locs _ hW => ?_)
  have hW : gW g A s.heap H _ [(mo, .inr (11, [.ref az, .ref ap, .int (iI pm), .ref ak, .int (iI ik), .ref ax, .int (iI ty), .int (iI th), .ref a1, .ref a2, .int (iI (nN ((mRead N f ty).1))), .ref a3, .int (iI (nP ((mRead N f ty).1))), .ref a4, .ref a5, .ref a6, .ref v1, .ref v2, .ref v3, .ref v4, .ref v5, .ref v6, .int (iI bn), .int (iI (nWh ((mRead N f ty).1))), .int (iI (nD ((mRead N f ty).1))), .int (iI (nG ((mRead N f ty).1)))])), (a1, gI g 41 (nK ((mRead N f ty).1))), (a2, gI g 41 (nU ((mRead N f ty).1))), (a3, gI g 90 (nQ ((mRead N f ty).1))), (ax, gC g 40 f)] := hW
  refine W.eq (g2 := F0 m 5 ls [.int (iI ((mRead N f ty).2)), .ref mo]) rfl ?_
  refine q_iconst S0 dX11_leastToDefine_5 ?_
  refine q_icmp_ne (tgt := 13) S0 (by omega) dX11_leastToDefine_6 (by decide) (fun c6 => ?_) (fun c6 => ?_)
  · skip
    exact absurd c6 (by omega)
  · skip
    refine q_iconst S0 dX11_leastToDefine_9 ?_
    refine lv_goto (tgt := 14) S0.1 S0.2.1 dX11_leastToDefine_10 (by decide) ?_
    refine q_cV (n := 1) (rest := []) (wr := [(a1, gI g 41 (nK ((mRead N f ty).1))), (a2, gI g 41 (nU ((mRead N f ty).1))), (a3, gI g 90 (nQ ((mRead N f ty).1))), (ax, gC g 40 f)]) S0 hK hA hW (c_X11_asksT l g mo az ap ak ax a1 a2 a3 a4 a5 a6 v1 v2 v3 v4 v5 v6 pm ik ty th (nN ((mRead N f ty).1)) (nP ((mRead N f ty).1)) bn (nWh ((mRead N f ty).1)) (nD ((mRead N f ty).1)) (nG ((mRead N f ty).1))) gX11_leastToDefine_X11_asks rfl rfl rfl (by decide +kernel) ⟨Nat.le_of_ble_eq_true rfl, Nat.le_of_ble_eq_true rfl⟩ [0] [1, 2, 3, 4] rfl rfl rfl rfl (by decide) (q_recv hK hW.1 (ci := 11) (q0 := 0) rfl rfl) (fun _ _ => trivial) (trivial) rfl rfl hl.1 (Nat.le_of_ble_eq_true rfl) ⟨Nat.le_of_ble_eq_true rfl, Nat.le_of_ble_eq_true rfl⟩ dX11_leastToDefine_14 (fun _ H locs _ hW => ?_)
    have hW : gW g A s.heap H _ [(a1, gI g 41 (nK ((mRead N f ty).1))), (a2, gI g 41 (nU ((mRead N f ty).1))), (a3, gI g 90 (nQ ((mRead N f ty).1))), (ax, gC g 40 f), (mo, .inr (11, [.ref az, .ref ap, .int (iI pm), .ref ak, .int (iI ik), .ref ax, .int (iI ty), .int (iI 0), .ref a1, .ref a2, .int (iI (nN ((mRead N f ty).1))), .ref a3, .int (iI (nP ((mRead N f ty).1))), .ref a4, .ref a5, .ref a6, .ref v1, .ref v2, .ref v3, .ref v4, .ref v5, .ref v6, .int (iI bn), .int (iI (nWh ((mRead N f ty).1))), .int (iI (nD ((mRead N f ty).1))), .int (iI (nG ((mRead N f ty).1)))]))] := hW
    refine W.eq (g2 := F0 m 17 ls [.int (iI 1)]) rfl ?_
    refine q_if_ne (tgt := 22) S0 (by omega) dX11_leastToDefine_17 (by decide) (fun c17 => ?_) (fun c17 => ?_)
    · skip
      refine lv_aload_n S0.1 S0.2.1 dX11_leastToDefine_22 rfl (lv_at hl 0 rfl) ?_
      refine q_pV (n := 0) (rest := []) S0 hK (c_X11_least l g mo az ap ak ax a1 a2 a3 a4 a5 a6 v1 v2 v3 v4 v5 v6 pm ik ty 0 bn ((mRead N f ty).1) (hZm) (hnm hv)) (subP hW.1 [4, 0, 1] rfl) (trivial) gX11_leastToDefine_X11_least rfl rfl rfl (by decide +kernel) ⟨Nat.le_of_ble_eq_true rfl, Nat.le_of_ble_eq_true rfl⟩ (q_recv hK hW.1 (ci := 11) (q0 := 4) rfl rfl) rfl rfl hl.1 (Nat.le_of_ble_eq_true rfl) ⟨Nat.le_of_ble_eq_true rfl, Nat.le_of_ble_eq_true rfl⟩ dX11_leastToDefine_23 ?_
      refine W.eq (g2 := F0 m 26 ls [.int (iI (mLe ((mRead N f ty).1)))]) rfl ?_
      refine q_iconst S0 dX11_leastToDefine_26 ?_
      refine q_icmp_ge (tgt := 37) S0 (by omega) dX11_leastToDefine_27 (by decide) (fun c27 => ?_) (fun c27 => ?_)
      · skip
        refine q_iconst S0 dX11_leastToDefine_37 ?_
        exact q_iret S0 hr hlocks () (trivial) (by first | (rw [if_pos (by omega)]; done) | (rw [if_neg (by omega)]; done)) (hW.sub [4, 0, 1, 2, 3] rfl (rfl)) (Nat.le_of_ble_eq_true rfl) (Nat.le_of_ble_eq_true rfl) dX11_leastToDefine_38
      · skip
        refine lv_aload_n S0.1 S0.2.1 dX11_leastToDefine_30 rfl (lv_at hl 0 rfl) ?_
        refine q_pV (n := 0) (rest := []) S0 hK (c_X11_least l g mo az ap ak ax a1 a2 a3 a4 a5 a6 v1 v2 v3 v4 v5 v6 pm ik ty 0 bn ((mRead N f ty).1) (hZm) (hnm hv)) (subP hW.1 [4, 0, 1] rfl) (trivial) gX11_leastToDefine_X11_least rfl rfl rfl (by decide +kernel) ⟨Nat.le_of_ble_eq_true rfl, Nat.le_of_ble_eq_true rfl⟩ (q_recv hK hW.1 (ci := 11) (q0 := 4) rfl rfl) rfl rfl hl.1 (Nat.le_of_ble_eq_true rfl) ⟨Nat.le_of_ble_eq_true rfl, Nat.le_of_ble_eq_true rfl⟩ dX11_leastToDefine_31 ?_
        refine W.eq (g2 := F0 m 34 ls [.int (iI (mLe ((mRead N f ty).1)))]) rfl ?_
        refine lv_goto (tgt := 38) S0.1 S0.2.1 dX11_leastToDefine_34 (by decide) ?_
        exact q_iret S0 hr hlocks () (trivial) (by first | (rw [if_pos (by omega)]; done) | (rw [if_neg (by omega)]; done)) (hW.sub [4, 0, 1, 2, 3] rfl (rfl)) (Nat.le_of_ble_eq_true rfl) (Nat.le_of_ble_eq_true rfl) dX11_leastToDefine_38
    · skip
      exact absurd c17 (by omega)
set_option maxHeartbeats 4000000 in
set_option maxRecDepth 100000 in
theorem c_X11_define1 (l : Launch) (g : GG) (mo az ap ak ax a1 a2 a3 a4 a5 a6 v1 v2 v3 v4 v5 v6 : Nat) (pm ik ty th mn wt bn wh dp dg : Int) (u : Int) (hu : (u < 0 ∨ 3 < u) ∧ -2147483648 ≤ u ∧ u < 2147483648) : qMet l yX11_define wsX11_define ({ frames := 2, cells := 0, slots := 0, locals := 42 }) g [.ref mo, .int (iI u)] [(mo, .inr (11, [.ref az, .ref ap, .int (iI pm), .ref ak, .int (iI ik), .ref ax, .int (iI ty), .int (iI th), .ref a1, .ref a2, .int (iI mn), .ref a3, .int (iI wt), .ref a4, .ref a5, .ref a6, .ref v1, .ref v2, .ref v3, .ref v4, .ref v5, .ref v6, .int (iI bn), .int (iI wh), .int (iI dp), .int (iI dg)]))] (fun _ => True) (fun _ => True) (S := Unit) (fun _ => some (.int (iI 0))) (fun _ => [(mo, .inr (11, [.ref az, .ref ap, .int (iI pm), .ref ak, .int (iI ik), .ref ax, .int (iI ty), .int (iI 1), .ref a1, .ref a2, .int (iI mn), .ref a3, .int (iI wt), .ref a4, .ref a5, .ref a6, .ref v1, .ref v2, .ref v3, .ref v4, .ref v5, .ref v6, .int (iI bn), .int (iI wh), .int (iI dp), .int (iI dg)]))]) (fun _ => True) 0 0 := by
  refine q_ofW (cc := cX11_define) (maxL := 2) (ret := (some .int)) (fun sz h => h.self) (by decide) rfl (Nat.le_of_ble_eq_true rfl) ?_
  intro p e s m args below meth c A ls S0 hr hlocks hnme hK hA hAe hW hD0 hX hl
  have hW : gW g A s.heap s.heap [] [(mo, .inr (11, [.ref az, .ref ap, .int (iI pm), .ref ak, .int (iI ik), .ref ax, .int (iI ty), .int (iI th), .ref a1, .ref a2, .int (iI mn), .ref a3, .int (iI wt), .ref a4, .ref a5, .ref a6, .ref v1, .ref v2, .ref v3, .ref v4, .ref v5, .ref v6, .int (iI bn), .int (iI wh), .int (iI dp), .int (iI dg)]))] := hW
  have hl : lv_has ls 2 [(0, .ref mo), (1, .int (iI u))] := hl
  have hinX11 : ∀ w ∈ wsX110, w ∈ wsX11_define := fun w h => List.mem_cons_of_mem _ (List.mem_append_right _ h)
  refine lv_aload_n S0.1 S0.2.1 dX11_define_0 rfl (lv_at hl 0 rfl) ?_
  refine lv_iload_n S0.1 S0.2.1 dX11_define_1 rfl (lv_at hl 1 rfl) ?_
  refine q_pS (n := 1) (rest := [.ref mo]) S0 hK (c_X11_isFunction l g u (by omega)) (subP hW.1 [] rfl) (trivial) gX11_define_X11_isFunction rfl rfl rfl (by decide +kernel) ⟨Nat.le_of_ble_eq_true rfl, Nat.le_of_ble_eq_true rfl⟩ rfl rfl hl.1 (Nat.le_of_ble_eq_true rfl) ⟨Nat.le_of_ble_eq_true rfl, Nat.le_of_ble_eq_true rfl⟩ dX11_define_2 ?_
  refine W.eq (g2 := F0 m 5 ls [.int (iI (if 0 ≤ u ∧ u ≤ 3 then (1 : Int) else 0)), .ref mo]) rfl ?_
  refine q_cV (n := 1) (rest := []) (wr := []) S0 hK hA hW (c_X11_asksN l g mo az ap ak ax a1 a2 a3 a4 a5 a6 v1 v2 v3 v4 v5 v6 pm ik ty th mn wt bn wh dp dg (0 ≤ u ∧ u ≤ 3) (by omega)) gX11_define_X11_asks rfl rfl rfl (by decide +kernel) ⟨Nat.le_of_ble_eq_true rfl, Nat.le_of_ble_eq_true rfl⟩ [0] [] rfl rfl rfl rfl (by decide) (q_recv hK hW.1 (ci := 11) (q0 := 0) rfl rfl) (fun _ _ => trivial) (trivial) rfl rfl hl.1 (Nat.le_of_ble_eq_true rfl) ⟨Nat.le_of_ble_eq_true rfl, Nat.le_of_ble_eq_true rfl⟩ dX11_define_5 (fun _ H locs _ hW => ?_)
  have hW : gW g A s.heap H _ [(mo, .inr (11, [.ref az, .ref ap, .int (iI pm), .ref ak, .int (iI ik), .ref ax, .int (iI ty), .int (iI 1), .ref a1, .ref a2, .int (iI mn), .ref a3, .int (iI wt), .ref a4, .ref a5, .ref a6, .ref v1, .ref v2, .ref v3, .ref v4, .ref v5, .ref v6, .int (iI bn), .int (iI wh), .int (iI dp), .int (iI dg)]))] := hW
  refine W.eq (g2 := F0 m 8 ls [.int (iI 0)]) rfl ?_
  refine lv_pop S0.1 S0.2.1 dX11_define_8 rfl ?_
  refine lv_aload_n S0.1 S0.2.1 dX11_define_9 rfl (lv_at hl 0 rfl) ?_
  refine lv_aload_n S0.1 S0.2.1 dX11_define_10 rfl (lv_at hl 0 rfl) ?_
  refine q_get (C := RX11) (T := TX11) (N := 26) S0 hK hW.1 hinX11 0 rfl rfl 7 (by decide) (List.mem_of_getElem? (i := 1) rfl) rfl rfl dX11_define_11 ?_
  refine q_if_gt (tgt := 33) S0 (by omega) dX11_define_14 (by decide) (fun c14 => ?_) (fun c14 => ?_)
  · skip
    refine q_iconst S0 dX11_define_33 ?_
    refine lv_goto (tgt := 38) S0.1 S0.2.1 dX11_define_34 (by decide) ?_
    refine q_iconst S0 dX11_define_38 ?_
    refine q_cV (n := 2) (rest := []) (wr := []) S0 hK hA hW (c_X11_asksThen1 l g mo az ap ak ax a1 a2 a3 a4 a5 a6 v1 v2 v3 v4 v5 v6 pm ik ty 1 mn wt bn wh dp dg True 2 (by omega)) gX11_define_X11_asksThen rfl rfl rfl (by decide +kernel) ⟨Nat.le_of_ble_eq_true rfl, Nat.le_of_ble_eq_true rfl⟩ [0] [] rfl rfl rfl rfl (by decide) (q_recv hK hW.1 (ci := 11) (q0 := 0) rfl rfl) (fun _ _ => trivial) (trivial) rfl rfl hl.1 (Nat.le_of_ble_eq_true rfl) ⟨Nat.le_of_ble_eq_true rfl, Nat.le_of_ble_eq_true rfl⟩ dX11_define_39 (fun _ H locs _ hW => ?_)
    have hW : gW g A s.heap H _ [(mo, .inr (11, [.ref az, .ref ap, .int (iI pm), .ref ak, .int (iI ik), .ref ax, .int (iI ty), .int (iI 1), .ref a1, .ref a2, .int (iI mn), .ref a3, .int (iI wt), .ref a4, .ref a5, .ref a6, .ref v1, .ref v2, .ref v3, .ref v4, .ref v5, .ref v6, .int (iI bn), .int (iI wh), .int (iI dp), .int (iI dg)]))] := hW
    refine W.eq (g2 := F0 m 42 ls [.int (iI 0)]) rfl ?_
    refine q_if_ne (tgt := 47) S0 (by omega) dX11_define_42 (by decide) (fun c42 => ?_) (fun c42 => ?_)
    · skip
      exact absurd c42 (by omega)
    · skip
      refine q_iconst S0 dX11_define_45 ?_
      exact q_iret S0 hr hlocks () (trivial) (rfl) (hW.sub [0] rfl (rfl)) (Nat.le_of_ble_eq_true rfl) (Nat.le_of_ble_eq_true rfl) dX11_define_46
  · skip
    exact absurd c14 (by omega)
set_option maxHeartbeats 4000000 in
set_option maxRecDepth 100000 in
theorem c_X11_define2 (l : Launch) (g : GG) (mo az ap ak ax a1 a2 a3 a4 a5 a6 v1 v2 v3 v4 v5 v6 : Nat) (pm ik ty th bn : Int) (N : NT) (f : Nat → Int) (u : Int) (hZ : WZ N) (ht : 0 ≤ ty ∧ ty ≤ 40) (hf : ∀ j, 0 ≤ f j ∧ f j < 65536) (hu : 0 ≤ u ∧ u < 4) (hv : ¬ ((mRead N f ty).2 = -1 ∧ mLe (mRead N f ty).1 ≤ u)) : qMet l yX11_define wsX11_define ({ frames := 6, cells := 0, slots := 0, locals := 128 }) g [.ref mo, .int (iI u)] [(mo, .inr (11, [.ref az, .ref ap, .int (iI pm), .ref ak, .int (iI ik), .ref ax, .int (iI ty), .int (iI th), .ref a1, .ref a2, .int (iI (nN N)), .ref a3, .int (iI (nP N)), .ref a4, .ref a5, .ref a6, .ref v1, .ref v2, .ref v3, .ref v4, .ref v5, .ref v6, .int (iI bn), .int (iI (nWh N)), .int (iI (nD N)), .int (iI (nG N))])), (a1, gI g 41 (nK N)), (a2, gI g 41 (nU N)), (a3, gI g 90 (nQ N)), (ax, gC g 40 f)] (fun _ => True) (fun _ => True) (S := Unit) (fun _ => some (.int (iI 0))) (fun _ => [(mo, .inr (11, [.ref az, .ref ap, .int (iI pm), .ref ak, .int (iI ik), .ref ax, .int (iI ty), .int (iI 2), .ref a1, .ref a2, .int (iI (nN ((mRead N f ty).1))), .ref a3, .int (iI (nP ((mRead N f ty).1))), .ref a4, .ref a5, .ref a6, .ref v1, .ref v2, .ref v3, .ref v4, .ref v5, .ref v6, .int (iI bn), .int (iI (nWh ((mRead N f ty).1))), .int (iI (nD ((mRead N f ty).1))), .int (iI (nG ((mRead N f ty).1)))])), (a1, gI g 41 (nK ((mRead N f ty).1))), (a2, gI g 41 (nU ((mRead N f ty).1))), (a3, gI g 90 (nQ ((mRead N f ty).1))), (ax, gC g 40 f)]) (fun _ => True) 0 0 := by
  refine q_ofW (cc := cX11_define) (maxL := 2) (ret := (some .int)) (fun sz h => h.self) (by decide) rfl (Nat.le_of_ble_eq_true rfl) ?_
  intro p e s m args below meth c A ls S0 hr hlocks hnme hK hA hAe hW hD0 hX hl
  have hW : gW g A s.heap s.heap [] [(mo, .inr (11, [.ref az, .ref ap, .int (iI pm), .ref ak, .int (iI ik), .ref ax, .int (iI ty), .int (iI th), .ref a1, .ref a2, .int (iI (nN N)), .ref a3, .int (iI (nP N)), .ref a4, .ref a5, .ref a6, .ref v1, .ref v2, .ref v3, .ref v4, .ref v5, .ref v6, .int (iI bn), .int (iI (nWh N)), .int (iI (nD N)), .int (iI (nG N))])), (a1, gI g 41 (nK N)), (a2, gI g 41 (nU N)), (a3, gI g 90 (nQ N)), (ax, gC g 40 f)] := hW
  have hl : lv_has ls 2 [(0, .ref mo), (1, .int (iI u))] := hl
  have hinX11 : ∀ w ∈ wsX110, w ∈ wsX11_define := fun w h => List.mem_cons_of_mem _ (List.mem_append_right _ h)
  have hZm := WZ_mRead hZ ht hf
  have hnm := RN_mRead hZ ht hf
  have h2m := mRead_rng hZ ht hf
  refine lv_aload_n S0.1 S0.2.1 dX11_define_0 rfl (lv_at hl 0 rfl) ?_
  refine lv_iload_n S0.1 S0.2.1 dX11_define_1 rfl (lv_at hl 1 rfl) ?_
  refine q_pS (n := 1) (rest := [.ref mo]) S0 hK (c_X11_isFunction l g u (by omega)) (subP hW.1 [] rfl) (trivial) gX11_define_X11_isFunction rfl rfl rfl (by decide +kernel) ⟨Nat.le_of_ble_eq_true rfl, Nat.le_of_ble_eq_true rfl⟩ rfl rfl hl.1 (Nat.le_of_ble_eq_true rfl) ⟨Nat.le_of_ble_eq_true rfl, Nat.le_of_ble_eq_true rfl⟩ dX11_define_2 ?_
  refine W.eq (g2 := F0 m 5 ls [.int (iI (if 0 ≤ u ∧ u ≤ 3 then (1 : Int) else 0)), .ref mo]) rfl ?_
  refine q_cV (n := 1) (rest := []) (wr := [(a1, gI g 41 (nK N)), (a2, gI g 41 (nU N)), (a3, gI g 90 (nQ N)), (ax, gC g 40 f)]) S0 hK hA hW (c_X11_asksP l g mo az ap ak ax a1 a2 a3 a4 a5 a6 v1 v2 v3 v4 v5 v6 pm ik ty th (nN N) (nP N) bn (nWh N) (nD N) (nG N) (0 ≤ u ∧ u ≤ 3) (by omega)) gX11_define_X11_asks rfl rfl rfl (by decide +kernel) ⟨Nat.le_of_ble_eq_true rfl, Nat.le_of_ble_eq_true rfl⟩ [0] [1, 2, 3, 4] rfl rfl rfl rfl (by decide) (q_recv hK hW.1 (ci := 11) (q0 := 0) rfl rfl) (fun _ _ => trivial) (trivial) rfl rfl hl.1 (Nat.le_of_ble_eq_true rfl) ⟨Nat.le_of_ble_eq_true rfl, Nat.le_of_ble_eq_true rfl⟩ dX11_define_5 (fun _ H locs _ hW => ?_)
  have hW : gW g A s.heap H _ [(a1, gI g 41 (nK N)), (a2, gI g 41 (nU N)), (a3, gI g 90 (nQ N)), (ax, gC g 40 f), (mo, .inr (11, [.ref az, .ref ap, .int (iI pm), .ref ak, .int (iI ik), .ref ax, .int (iI ty), .int (iI 0), .ref a1, .ref a2, .int (iI (nN N)), .ref a3, .int (iI (nP N)), .ref a4, .ref a5, .ref a6, .ref v1, .ref v2, .ref v3, .ref v4, .ref v5, .ref v6, .int (iI bn), .int (iI (nWh N)), .int (iI (nD N)), .int (iI (nG N))]))] := hW
  refine W.eq (g2 := F0 m 8 ls [.int (iI 1)]) rfl ?_
  refine lv_pop S0.1 S0.2.1 dX11_define_8 rfl ?_
  refine lv_aload_n S0.1 S0.2.1 dX11_define_9 rfl (lv_at hl 0 rfl) ?_
  refine lv_aload_n S0.1 S0.2.1 dX11_define_10 rfl (lv_at hl 0 rfl) ?_
  refine q_get (C := RX11) (T := TX11) (N := 26) S0 hK hW.1 hinX11 4 rfl rfl 7 (by decide) (List.mem_of_getElem? (i := 1) rfl) rfl rfl dX11_define_11 ?_
  refine q_if_gt (tgt := 33) S0 (by omega) dX11_define_14 (by decide) (fun c14 => ?_) (fun c14 => ?_)
  · skip
    exact absurd c14 (by omega)
  · skip
    refine lv_aload_n S0.1 S0.2.1 dX11_define_17 rfl (lv_at hl 0 rfl) ?_
    refine q_cV (n := 0) (rest := [.ref mo]) (wr := []) S0 hK hA hW (c_X11_readText l g mo az ap ak ax a1 a2 a3 a4 a5 a6 v1 v2 v3 v4 v5 v6 pm ik ty 0 bn N f (hZ) (ht) (hf)) gX11_define_X11_readText rfl rfl rfl (by decide +kernel) ⟨Nat.le_of_ble_eq_true rfl, Nat.le_of_ble_eq_true rfl⟩ [4, 0, 1, 2, 3] [] rfl rfl rfl rfl (by decide) (q_recv hK hW.1 (ci := 11) (q0 := 4) rfl rfl) (fun _ _ => trivial) (trivial) rfl rfl hl.1 (Nat.le_of_ble_eq_true rfl) ⟨Nat.le_of_ble_eq_true rfl, Nat.le_of_ble_eq_true rfl⟩ dX11_define_18 (fun _ H locs _ hW => ?_)
    have hW : gW g A s.heap H _ [(mo, .inr (11, [.ref az, .ref ap, .int (iI pm), .ref ak, .int (iI ik), .ref ax, .int (iI ty), .int (iI 0), .ref a1, .ref a2, .int (iI (nN ((mRead N f ty).1))), .ref a3, .int (iI (nP ((mRead N f ty).1))), .ref a4, .ref a5, .ref a6, .ref v1, .ref v2, .ref v3, .ref v4, .ref v5, .ref v6, .int (iI bn), .int (iI (nWh ((mRead N f ty).1))), .int (iI (nD ((mRead N f ty).1))), .int (iI (nG ((mRead N f ty).1)))])), (a1, gI g 41 (nK ((mRead N f ty).1))), (a2, gI g 41 (nU ((mRead N f ty).1))), (a3, gI g 90 (nQ ((mRead N f ty).1))), (ax, gC g 40 f)] := hW
    refine W.eq (g2 := F0 m 21 ls [.int (iI ((mRead N f ty).2)), .ref mo]) rfl ?_
    refine q_iconst S0 dX11_define_21 ?_
    refine q_icmp_ne (tgt := 37) S0 (by omega) dX11_define_22 (by decide) (fun c22 => ?_) (fun c22 => ?_)
    · skip
      refine q_iconst S0 dX11_define_37 ?_
      refine q_iconst S0 dX11_define_38 ?_
      refine q_cV (n := 2) (rest := []) (wr := [(a1, gI g 41 (nK ((mRead N f ty).1))), (a2, gI g 41 (nU ((mRead N f ty).1))), (a3, gI g 90 (nQ ((mRead N f ty).1))), (ax, gC g 40 f)]) S0 hK hA hW (c_X11_asksThen2 l g mo az ap ak ax a1 a2 a3 a4 a5 a6 v1 v2 v3 v4 v5 v6 pm ik ty 0 (nN ((mRead N f ty).1)) (nP ((mRead N f ty).1)) bn (nWh ((mRead N f ty).1)) (nD ((mRead N f ty).1)) (nG ((mRead N f ty).1)) False 2 (rfl) (fun z => z) (by omega)) gX11_define_X11_asksThen rfl rfl rfl (by decide +kernel) ⟨Nat.le_of_ble_eq_true rfl, Nat.le_of_ble_eq_true rfl⟩ [0] [1, 2, 3, 4] rfl rfl rfl rfl (by decide) (q_recv hK hW.1 (ci := 11) (q0 := 0) rfl rfl) (fun _ _ => trivial) (trivial) rfl rfl hl.1 (Nat.le_of_ble_eq_true rfl) ⟨Nat.le_of_ble_eq_true rfl, Nat.le_of_ble_eq_true rfl⟩ dX11_define_39 (fun _ H locs _ hW => ?_)
      have hW : gW g A s.heap H _ [(a1, gI g 41 (nK ((mRead N f ty).1))), (a2, gI g 41 (nU ((mRead N f ty).1))), (a3, gI g 90 (nQ ((mRead N f ty).1))), (ax, gC g 40 f), (mo, .inr (11, [.ref az, .ref ap, .int (iI pm), .ref ak, .int (iI ik), .ref ax, .int (iI ty), .int (iI 2), .ref a1, .ref a2, .int (iI (nN ((mRead N f ty).1))), .ref a3, .int (iI (nP ((mRead N f ty).1))), .ref a4, .ref a5, .ref a6, .ref v1, .ref v2, .ref v3, .ref v4, .ref v5, .ref v6, .int (iI bn), .int (iI (nWh ((mRead N f ty).1))), .int (iI (nD ((mRead N f ty).1))), .int (iI (nG ((mRead N f ty).1)))]))] := hW
      refine W.eq (g2 := F0 m 42 ls [.int (iI 0)]) rfl ?_
      refine q_if_ne (tgt := 47) S0 (by omega) dX11_define_42 (by decide) (fun c42 => ?_) (fun c42 => ?_)
      · skip
        exact absurd c42 (by omega)
      · skip
        refine q_iconst S0 dX11_define_45 ?_
        exact q_iret S0 hr hlocks () (trivial) (rfl) (hW.sub [4, 0, 1, 2, 3] rfl (rfl)) (Nat.le_of_ble_eq_true rfl) (Nat.le_of_ble_eq_true rfl) dX11_define_46
    · skip
      refine lv_aload_n S0.1 S0.2.1 dX11_define_25 rfl (lv_at hl 0 rfl) ?_
      have hle := mLe_rng hZm (hnm c22)
      refine q_pV (n := 0) (rest := [.ref mo]) S0 hK (c_X11_least l g mo az ap ak ax a1 a2 a3 a4 a5 a6 v1 v2 v3 v4 v5 v6 pm ik ty 0 bn ((mRead N f ty).1) (hZm) (hnm c22)) (subP hW.1 [0, 1, 2] rfl) (trivial) gX11_define_X11_least rfl rfl rfl (by decide +kernel) ⟨Nat.le_of_ble_eq_true rfl, Nat.le_of_ble_eq_true rfl⟩ (q_recv hK hW.1 (ci := 11) (q0 := 0) rfl rfl) rfl rfl hl.1 (Nat.le_of_ble_eq_true rfl) ⟨Nat.le_of_ble_eq_true rfl, Nat.le_of_ble_eq_true rfl⟩ dX11_define_26 ?_
      refine W.eq (g2 := F0 m 29 ls [.int (iI (mLe ((mRead N f ty).1))), .ref mo]) rfl ?_
      refine lv_iload_n S0.1 S0.2.1 dX11_define_29 rfl (lv_at hl 1 rfl) ?_
      refine q_icmp_gt (tgt := 37) S0 (by omega) dX11_define_30 (by decide) (fun c30 => ?_) (fun c30 => ?_)
      · skip
        refine q_iconst S0 dX11_define_37 ?_
        refine q_iconst S0 dX11_define_38 ?_
        refine q_cV (n := 2) (rest := []) (wr := [(a1, gI g 41 (nK ((mRead N f ty).1))), (a2, gI g 41 (nU ((mRead N f ty).1))), (a3, gI g 90 (nQ ((mRead N f ty).1))), (ax, gC g 40 f)]) S0 hK hA hW (c_X11_asksThen2 l g mo az ap ak ax a1 a2 a3 a4 a5 a6 v1 v2 v3 v4 v5 v6 pm ik ty 0 (nN ((mRead N f ty).1)) (nP ((mRead N f ty).1)) bn (nWh ((mRead N f ty).1)) (nD ((mRead N f ty).1)) (nG ((mRead N f ty).1)) False 2 (rfl) (fun z => z) (by omega)) gX11_define_X11_asksThen rfl rfl rfl (by decide +kernel) ⟨Nat.le_of_ble_eq_true rfl, Nat.le_of_ble_eq_true rfl⟩ [0] [1, 2, 3, 4] rfl rfl rfl rfl (by decide) (q_recv hK hW.1 (ci := 11) (q0 := 0) rfl rfl) (fun _ _ => trivial) (trivial) rfl rfl hl.1 (Nat.le_of_ble_eq_true rfl) ⟨Nat.le_of_ble_eq_true rfl, Nat.le_of_ble_eq_true rfl⟩ dX11_define_39 (fun _ H locs _ hW => ?_)
        have hW : gW g A s.heap H _ [(a1, gI g 41 (nK ((mRead N f ty).1))), (a2, gI g 41 (nU ((mRead N f ty).1))), (a3, gI g 90 (nQ ((mRead N f ty).1))), (ax, gC g 40 f), (mo, .inr (11, [.ref az, .ref ap, .int (iI pm), .ref ak, .int (iI ik), .ref ax, .int (iI ty), .int (iI 2), .ref a1, .ref a2, .int (iI (nN ((mRead N f ty).1))), .ref a3, .int (iI (nP ((mRead N f ty).1))), .ref a4, .ref a5, .ref a6, .ref v1, .ref v2, .ref v3, .ref v4, .ref v5, .ref v6, .int (iI bn), .int (iI (nWh ((mRead N f ty).1))), .int (iI (nD ((mRead N f ty).1))), .int (iI (nG ((mRead N f ty).1)))]))] := hW
        refine W.eq (g2 := F0 m 42 ls [.int (iI 0)]) rfl ?_
        refine q_if_ne (tgt := 47) S0 (by omega) dX11_define_42 (by decide) (fun c42 => ?_) (fun c42 => ?_)
        · skip
          exact absurd c42 (by omega)
        · skip
          refine q_iconst S0 dX11_define_45 ?_
          exact q_iret S0 hr hlocks () (trivial) (rfl) (hW.sub [4, 0, 1, 2, 3] rfl (rfl)) (Nat.le_of_ble_eq_true rfl) (Nat.le_of_ble_eq_true rfl) dX11_define_46
      · skip
        exact absurd c30 (by omega)
set_option maxHeartbeats 4000000 in
set_option maxRecDepth 100000 in
theorem c_X11_define04 (l : Launch) (g : GG) (mo az ap ak ax a1 a2 a3 a4 a5 a6 v1 v2 v3 v4 v5 v6 : Nat) (ik ty th bn : Int) (N : NT) (f : Nat → Int) (Z P : Nat → Int) (u : Int) (hZ : WZ N) (ht : 0 ≤ ty ∧ ty ≤ 40) (hf : ∀ j, 0 ≤ f j ∧ f j < 65536) (hu : 0 ≤ u ∧ u < 4) (hv : (mRead N f ty).2 = -1) (hl : mLe (mRead N f ty).1 ≤ u) : qMet l yX11_define wsX11_define ({ frames := 6, cells := 0, slots := 0, locals := 128 }) g [.ref mo, .int (iI u)] [(mo, .inr (11, [.ref az, .ref ap, .int (iI 4), .ref ak, .int (iI ik), .ref ax, .int (iI ty), .int (iI th), .ref a1, .ref a2, .int (iI (nN N)), .ref a3, .int (iI (nP N)), .ref a4, .ref a5, .ref a6, .ref v1, .ref v2, .ref v3, .ref v4, .ref v5, .ref v6, .int (iI bn), .int (iI (nWh N)), .int (iI (nD N)), .int (iI (nG N))])), (a1, gI g 41 (nK N)), (a2, gI g 41 (nU N)), (a3, gI g 90 (nQ N)), (ax, gC g 40 f), (az, gI g 325 Z), (ap, gI g 1300 P)] (fun _ => True) (fun _ => True) (S := Unit) (fun _ => some (.int (iI (nN (mRead N f ty).1)))) (fun _ => [(mo, .inr (11, [.ref az, .ref ap, .int (iI (recN 4)), .ref ak, .int (iI ik), .ref ax, .int (iI ty), .int (iI 0), .ref a1, .ref a2, .int (iI (nN ((mRead N f ty).1))), .ref a3, .int (iI (nP ((mRead N f ty).1))), .ref a4, .ref a5, .ref a6, .ref v1, .ref v2, .ref v3, .ref v4, .ref v5, .ref v6, .int (iI bn), .int (iI (nWh ((mRead N f ty).1))), .int (iI (nD ((mRead N f ty).1))), .int (iI (nG ((mRead N f ty).1)))])), (a1, gI g 41 (nK ((mRead N f ty).1))), (a2, gI g 41 (nU ((mRead N f ty).1))), (a3, gI g 90 (nQ ((mRead N f ty).1))), (ax, gC g 40 f), (az, gI g 325 (gzs (mRead N f ty).1 Z u 40)), (ap, gI g 1300 (recM 4 P Z))]) (fun _ => True) 0 0 := by
  refine q_ofW (cc := cX11_define) (maxL := 2) (ret := (some .int)) (fun sz h => h.self) (by decide) rfl (Nat.le_of_ble_eq_true rfl) ?_
  intro p e s m args below meth c A ls S0 hr hlocks hnme hK hA hAe hW hD0 hX hl
  have hW : gW g A s.heap s.heap [] [(mo, .inr (11, [.ref az, .ref ap, .int (iI 4), .ref ak, .int (iI ik), .ref ax, .int (iI ty), .int (iI th), .ref a1, .ref a2, .int (iI (nN N)), .ref a3, .int (iI (nP N)), .ref a4, .ref a5, .ref a6, .ref v1, .ref v2, .ref v3, .ref v4, .ref v5, .ref v6, .int (iI bn), .int (iI (nWh N)), .int (iI (nD N)), .int (iI (nG N))])), (a1, gI g 41 (nK N)), (a2, gI g 41 (nU N)), (a3, gI g 90 (nQ N)), (ax, gC g 40 f), (az, gI g 325 Z), (ap, gI g 1300 P)] := hW
  have hl : lv_has ls 2 [(0, .ref mo), (1, .int (iI u))] := hl
  have hinX11 : ∀ w ∈ wsX110, w ∈ wsX11_define := fun w h => List.mem_cons_of_mem _ (List.mem_append_right _ h)
  have hZm := WZ_mRead hZ ht hf
  have hnm := RN_mRead hZ ht hf
  have h2m := mRead_rng hZ ht hf
  have hle := mLe_rng hZm (hnm hv)
  refine lv_aload_n S0.1 S0.2.1 dX11_define_0 rfl (lv_at hl 0 rfl) ?_
  refine lv_iload_n S0.1 S0.2.1 dX11_define_1 rfl (lv_at hl 1 rfl) ?_
  refine q_pS (n := 1) (rest := [.ref mo]) S0 hK (c_X11_isFunction l g u (by omega)) (subP hW.1 [] rfl) (trivial) gX11_define_X11_isFunction rfl rfl rfl (by decide +kernel) ⟨Nat.le_of_ble_eq_true rfl, Nat.le_of_ble_eq_true rfl⟩ rfl rfl hl.1 (Nat.le_of_ble_eq_true rfl) ⟨Nat.le_of_ble_eq_true rfl, Nat.le_of_ble_eq_true rfl⟩ dX11_define_2 ?_
  refine W.eq (g2 := F0 m 5 ls [.int (iI (if 0 ≤ u ∧ u ≤ 3 then (1 : Int) else 0)), .ref mo]) rfl ?_
  refine q_cV (n := 1) (rest := []) (wr := [(a1, gI g 41 (nK N)), (a2, gI g 41 (nU N)), (a3, gI g 90 (nQ N)), (ax, gC g 40 f), (az, gI g 325 Z), (ap, gI g 1300 P)]) S0 hK hA hW (c_X11_asksP l g mo az ap ak ax a1 a2 a3 a4 a5 a6 v1 v2 v3 v4 v5 v6 4 ik ty th (nN N) (nP N) bn (nWh N) (nD N) (nG N) (0 ≤ u ∧ u ≤ 3) (by omega)) gX11_define_X11_asks rfl rfl rfl (by decide +kernel) ⟨Nat.le_of_ble_eq_true rfl, Nat.le_of_ble_eq_true rfl⟩ [0] [1, 2, 3, 4, 5, 6] rfl rfl rfl rfl (by decide) (q_recv hK hW.1 (ci := 11) (q0 := 0) rfl rfl) (fun _ _ => trivial) (trivial) rfl rfl hl.1 (Nat.le_of_ble_eq_true rfl) ⟨Nat.le_of_ble_eq_true rfl, Nat.le_of_ble_eq_true rfl⟩ dX11_define_5 (fun _ H locs _ hW => ?_)
  have hW : gW g A s.heap H _ [(a1, gI g 41 (nK N)), (a2, gI g 41 (nU N)), (a3, gI g 90 (nQ N)), (ax, gC g 40 f), (az, gI g 325 Z), (ap, gI g 1300 P), (mo, .inr (11, [.ref az, .ref ap, .int (iI 4), .ref ak, .int (iI ik), .ref ax, .int (iI ty), .int (iI 0), .ref a1, .ref a2, .int (iI (nN N)), .ref a3, .int (iI (nP N)), .ref a4, .ref a5, .ref a6, .ref v1, .ref v2, .ref v3, .ref v4, .ref v5, .ref v6, .int (iI bn), .int (iI (nWh N)), .int (iI (nD N)), .int (iI (nG N))]))] := hW
  refine W.eq (g2 := F0 m 8 ls [.int (iI 1)]) rfl ?_
  refine lv_pop S0.1 S0.2.1 dX11_define_8 rfl ?_
  refine lv_aload_n S0.1 S0.2.1 dX11_define_9 rfl (lv_at hl 0 rfl) ?_
  refine lv_aload_n S0.1 S0.2.1 dX11_define_10 rfl (lv_at hl 0 rfl) ?_
  refine q_get (C := RX11) (T := TX11) (N := 26) S0 hK hW.1 hinX11 6 rfl rfl 7 (by decide) (List.mem_of_getElem? (i := 1) rfl) rfl rfl dX11_define_11 ?_
  refine q_if_gt (tgt := 33) S0 (by omega) dX11_define_14 (by decide) (fun c14 => ?_) (fun c14 => ?_)
  · skip
    exact absurd c14 (by omega)
  · skip
    refine lv_aload_n S0.1 S0.2.1 dX11_define_17 rfl (lv_at hl 0 rfl) ?_
    refine q_cV (n := 0) (rest := [.ref mo]) (wr := [(az, gI g 325 Z), (ap, gI g 1300 P)]) S0 hK hA hW (c_X11_readText l g mo az ap ak ax a1 a2 a3 a4 a5 a6 v1 v2 v3 v4 v5 v6 4 ik ty 0 bn N f (hZ) (ht) (hf)) gX11_define_X11_readText rfl rfl rfl (by decide +kernel) ⟨Nat.le_of_ble_eq_true rfl, Nat.le_of_ble_eq_true rfl⟩ [6, 0, 1, 2, 3] [4, 5] rfl rfl rfl rfl (by decide) (q_recv hK hW.1 (ci := 11) (q0 := 6) rfl rfl) (fun _ _ => trivial) (trivial) rfl rfl hl.1 (Nat.le_of_ble_eq_true rfl) ⟨Nat.le_of_ble_eq_true rfl, Nat.le_of_ble_eq_true rfl⟩ dX11_define_18 (fun _ H locs _ hW => ?_)
    have hW : gW g A s.heap H _ [(az, gI g 325 Z), (ap, gI g 1300 P), (mo, .inr (11, [.ref az, .ref ap, .int (iI 4), .ref ak, .int (iI ik), .ref ax, .int (iI ty), .int (iI 0), .ref a1, .ref a2, .int (iI (nN ((mRead N f ty).1))), .ref a3, .int (iI (nP ((mRead N f ty).1))), .ref a4, .ref a5, .ref a6, .ref v1, .ref v2, .ref v3, .ref v4, .ref v5, .ref v6, .int (iI bn), .int (iI (nWh ((mRead N f ty).1))), .int (iI (nD ((mRead N f ty).1))), .int (iI (nG ((mRead N f ty).1)))])), (a1, gI g 41 (nK ((mRead N f ty).1))), (a2, gI g 41 (nU ((mRead N f ty).1))), (a3, gI g 90 (nQ ((mRead N f ty).1))), (ax, gC g 40 f)] := hW
    refine W.eq (g2 := F0 m 21 ls [.int (iI ((mRead N f ty).2)), .ref mo]) rfl ?_
    refine q_iconst S0 dX11_define_21 ?_
    refine q_icmp_ne (tgt := 37) S0 (by omega) dX11_define_22 (by decide) (fun c22 => ?_) (fun c22 => ?_)
    · skip
      exact absurd c22 (by omega)
    · skip
      refine lv_aload_n S0.1 S0.2.1 dX11_define_25 rfl (lv_at hl 0 rfl) ?_
      refine q_pV (n := 0) (rest := [.ref mo]) S0 hK (c_X11_least l g mo az ap ak ax a1 a2 a3 a4 a5 a6 v1 v2 v3 v4 v5 v6 4 ik ty 0 bn ((mRead N f ty).1) (hZm) (hnm hv)) (subP hW.1 [2, 3, 4] rfl) (trivial) gX11_define_X11_least rfl rfl rfl (by decide +kernel) ⟨Nat.le_of_ble_eq_true rfl, Nat.le_of_ble_eq_true rfl⟩ (q_recv hK hW.1 (ci := 11) (q0 := 2) rfl rfl) rfl rfl hl.1 (Nat.le_of_ble_eq_true rfl) ⟨Nat.le_of_ble_eq_true rfl, Nat.le_of_ble_eq_true rfl⟩ dX11_define_26 ?_
      refine W.eq (g2 := F0 m 29 ls [.int (iI (mLe ((mRead N f ty).1))), .ref mo]) rfl ?_
      refine lv_iload_n S0.1 S0.2.1 dX11_define_29 rfl (lv_at hl 1 rfl) ?_
      refine q_icmp_gt (tgt := 37) S0 (by omega) dX11_define_30 (by decide) (fun c30 => ?_) (fun c30 => ?_)
      · skip
        exact absurd c30 (by omega)
      · skip
        refine q_iconst S0 dX11_define_33 ?_
        refine lv_goto (tgt := 38) S0.1 S0.2.1 dX11_define_34 (by decide) ?_
        refine q_iconst S0 dX11_define_38 ?_
        refine q_cV (n := 2) (rest := []) (wr := [(az, gI g 325 Z), (ap, gI g 1300 P), (a1, gI g 41 (nK ((mRead N f ty).1))), (a2, gI g 41 (nU ((mRead N f ty).1))), (a3, gI g 90 (nQ ((mRead N f ty).1))), (ax, gC g 40 f)]) S0 hK hA hW (c_X11_asksThen0 l g mo az ap ak ax a1 a2 a3 a4 a5 a6 v1 v2 v3 v4 v5 v6 4 ik ty 0 (nN ((mRead N f ty).1)) (nP ((mRead N f ty).1)) bn (nWh ((mRead N f ty).1)) (nD ((mRead N f ty).1)) (nG ((mRead N f ty).1)) True 2 (rfl) (trivial)) gX11_define_X11_asksThen rfl rfl rfl (by decide +kernel) ⟨Nat.le_of_ble_eq_true rfl, Nat.le_of_ble_eq_true rfl⟩ [2] [0, 1, 3, 4, 5, 6] rfl rfl rfl rfl (by decide) (q_recv hK hW.1 (ci := 11) (q0 := 2) rfl rfl) (fun _ _ => trivial) (trivial) rfl rfl hl.1 (Nat.le_of_ble_eq_true rfl) ⟨Nat.le_of_ble_eq_true rfl, Nat.le_of_ble_eq_true rfl⟩ dX11_define_39 (fun _ H locs _ hW => ?_)
        have hW : gW g A s.heap H _ [(az, gI g 325 Z), (ap, gI g 1300 P), (a1, gI g 41 (nK ((mRead N f ty).1))), (a2, gI g 41 (nU ((mRead N f ty).1))), (a3, gI g 90 (nQ ((mRead N f ty).1))), (ax, gC g 40 f), (mo, .inr (11, [.ref az, .ref ap, .int (iI 4), .ref ak, .int (iI ik), .ref ax, .int (iI ty), .int (iI 0), .ref a1, .ref a2, .int (iI (nN ((mRead N f ty).1))), .ref a3, .int (iI (nP ((mRead N f ty).1))), .ref a4, .ref a5, .ref a6, .ref v1, .ref v2, .ref v3, .ref v4, .ref v5, .ref v6, .int (iI bn), .int (iI (nWh ((mRead N f ty).1))), .int (iI (nD ((mRead N f ty).1))), .int (iI (nG ((mRead N f ty).1)))]))] := hW
        refine W.eq (g2 := F0 m 42 ls [.int (iI 1)]) rfl ?_
        refine q_if_ne (tgt := 47) S0 (by omega) dX11_define_42 (by decide) (fun c42 => ?_) (fun c42 => ?_)
        · skip
          refine lv_aload_n S0.1 S0.2.1 dX11_define_47 rfl (lv_at hl 0 rfl) ?_
          refine q_cV (n := 0) (rest := []) (wr := [(a1, gI g 41 (nK ((mRead N f ty).1))), (a2, gI g 41 (nU ((mRead N f ty).1))), (a3, gI g 90 (nQ ((mRead N f ty).1))), (ax, gC g 40 f)]) S0 hK hA hW (c_X11_record4 l g mo az ap ak ax a1 a2 a3 a4 a5 a6 v1 v2 v3 v4 v5 v6 ik ty 0 (nN ((mRead N f ty).1)) (nP ((mRead N f ty).1)) bn (nWh ((mRead N f ty).1)) (nD ((mRead N f ty).1)) (nG ((mRead N f ty).1)) Z P) gX11_define_X11_record rfl rfl rfl (by decide +kernel) ⟨Nat.le_of_ble_eq_true rfl, Nat.le_of_ble_eq_true rfl⟩ [6, 0, 1] [2, 3, 4, 5] rfl rfl rfl rfl (by decide) (q_recv hK hW.1 (ci := 11) (q0 := 6) rfl rfl) (fun _ _ => trivial) (trivial) rfl rfl hl.1 (Nat.le_of_ble_eq_true rfl) ⟨Nat.le_of_ble_eq_true rfl, Nat.le_of_ble_eq_true rfl⟩ dX11_define_48 (fun _ H locs _ hW => ?_)
          have hW : gW g A s.heap H _ [(a1, gI g 41 (nK ((mRead N f ty).1))), (a2, gI g 41 (nU ((mRead N f ty).1))), (a3, gI g 90 (nQ ((mRead N f ty).1))), (ax, gC g 40 f), (mo, .inr (11, [.ref az, .ref ap, .int (iI (recN 4)), .ref ak, .int (iI ik), .ref ax, .int (iI ty), .int (iI 0), .ref a1, .ref a2, .int (iI (nN ((mRead N f ty).1))), .ref a3, .int (iI (nP ((mRead N f ty).1))), .ref a4, .ref a5, .ref a6, .ref v1, .ref v2, .ref v3, .ref v4, .ref v5, .ref v6, .int (iI bn), .int (iI (nWh ((mRead N f ty).1))), .int (iI (nD ((mRead N f ty).1))), .int (iI (nG ((mRead N f ty).1)))])), (az, gI g 325 Z), (ap, gI g 1300 (recM 4 P Z))] := hW
          refine W.eq (g2 := F0 m 51 ls []) rfl ?_
          refine lv_aload_n S0.1 S0.2.1 dX11_define_51 rfl (lv_at hl 0 rfl) ?_
          refine lv_iload_n S0.1 S0.2.1 dX11_define_52 rfl (lv_at hl 1 rfl) ?_
          refine q_cV (n := 1) (rest := []) (wr := [(a3, gI g 90 (nQ ((mRead N f ty).1))), (ax, gC g 40 f), (ap, gI g 1300 (recM 4 P Z))]) S0 hK hA hW (c_X11_gets l g mo az ap ak ax a1 a2 a3 a4 a5 a6 v1 v2 v3 v4 v5 v6 (recN 4) ik ty 0 bn ((mRead N f ty).1) Z u (by omega) (hnm hv)) gX11_define_X11_gets rfl rfl rfl (by decide +kernel) ⟨Nat.le_of_ble_eq_true rfl, Nat.le_of_ble_eq_true rfl⟩ [4, 0, 1, 5] [2, 3, 6] rfl rfl rfl rfl (by decide) (q_recv hK hW.1 (ci := 11) (q0 := 4) rfl rfl) (fun _ _ => trivial) (trivial) rfl rfl hl.1 (Nat.le_of_ble_eq_true rfl) ⟨Nat.le_of_ble_eq_true rfl, Nat.le_of_ble_eq_true rfl⟩ dX11_define_53 (fun _ H locs _ hW => ?_)
          have hW : gW g A s.heap H _ [(a3, gI g 90 (nQ ((mRead N f ty).1))), (ax, gC g 40 f), (ap, gI g 1300 (recM 4 P Z)), (mo, .inr (11, [.ref az, .ref ap, .int (iI (recN 4)), .ref ak, .int (iI ik), .ref ax, .int (iI ty), .int (iI 0), .ref a1, .ref a2, .int (iI (nN ((mRead N f ty).1))), .ref a3, .int (iI (nP ((mRead N f ty).1))), .ref a4, .ref a5, .ref a6, .ref v1, .ref v2, .ref v3, .ref v4, .ref v5, .ref v6, .int (iI bn), .int (iI (nWh ((mRead N f ty).1))), .int (iI (nD ((mRead N f ty).1))), .int (iI (nG ((mRead N f ty).1)))])), (a1, gI g 41 (nK ((mRead N f ty).1))), (a2, gI g 41 (nU ((mRead N f ty).1))), (az, gI g 325 (gzs ((mRead N f ty).1) Z u 40))] := hW
          refine W.eq (g2 := F0 m 56 ls [.int (iI (nN ((mRead N f ty).1)))]) rfl ?_
          exact q_iret S0 hr hlocks () (trivial) (rfl) (hW.sub [3, 4, 5, 0, 1, 6, 2] rfl (rfl)) (Nat.le_of_ble_eq_true rfl) (Nat.le_of_ble_eq_true rfl) dX11_define_56
        · skip
          exact absurd c42 (by omega)
set_option maxHeartbeats 4000000 in
set_option maxRecDepth 100000 in
theorem c_X11_define03 (l : Launch) (g : GG) (mo az ap ak ax a1 a2 a3 a4 a5 a6 v1 v2 v3 v4 v5 v6 : Nat) (pm ik ty th bn : Int) (N : NT) (f : Nat → Int) (Z P : Nat → Int) (u : Int) (hZ : WZ N) (ht : 0 ≤ ty ∧ ty ≤ 40) (hf : ∀ j, 0 ≤ f j ∧ f j < 65536) (hu : 0 ≤ u ∧ u < 4) (hv : (mRead N f ty).2 = -1) (hl : mLe (mRead N f ty).1 ≤ u) (hp : 0 ≤ pm ∧ pm < 4) : qMet l yX11_define wsX11_define ({ frames := 6, cells := 0, slots := 0, locals := 128 }) g [.ref mo, .int (iI u)] [(mo, .inr (11, [.ref az, .ref ap, .int (iI pm), .ref ak, .int (iI ik), .ref ax, .int (iI ty), .int (iI th), .ref a1, .ref a2, .int (iI (nN N)), .ref a3, .int (iI (nP N)), .ref a4, .ref a5, .ref a6, .ref v1, .ref v2, .ref v3, .ref v4, .ref v5, .ref v6, .int (iI bn), .int (iI (nWh N)), .int (iI (nD N)), .int (iI (nG N))])), (a1, gI g 41 (nK N)), (a2, gI g 41 (nU N)), (a3, gI g 90 (nQ N)), (ax, gC g 40 f), (az, gI g 325 Z), (ap, gI g 1300 P)] (fun _ => True) (fun _ => True) (S := Unit) (fun _ => some (.int (iI (nN (mRead N f ty).1)))) (fun _ => [(mo, .inr (11, [.ref az, .ref ap, .int (iI (recN pm)), .ref ak, .int (iI ik), .ref ax, .int (iI ty), .int (iI 0), .ref a1, .ref a2, .int (iI (nN ((mRead N f ty).1))), .ref a3, .int (iI (nP ((mRead N f ty).1))), .ref a4, .ref a5, .ref a6, .ref v1, .ref v2, .ref v3, .ref v4, .ref v5, .ref v6, .int (iI bn), .int (iI (nWh ((mRead N f ty).1))), .int (iI (nD ((mRead N f ty).1))), .int (iI (nG ((mRead N f ty).1)))])), (a1, gI g 41 (nK ((mRead N f ty).1))), (a2, gI g 41 (nU ((mRead N f ty).1))), (a3, gI g 90 (nQ ((mRead N f ty).1))), (ax, gC g 40 f), (az, gI g 325 (gzs (mRead N f ty).1 Z u 40)), (ap, gI g 1300 (recM pm P Z))]) (fun _ => True) 0 0 := by
  refine q_ofW (cc := cX11_define) (maxL := 2) (ret := (some .int)) (fun sz h => h.self) (by decide) rfl (Nat.le_of_ble_eq_true rfl) ?_
  intro p e s m args below meth c A ls S0 hr hlocks hnme hK hA hAe hW hD0 hX hl
  have hW : gW g A s.heap s.heap [] [(mo, .inr (11, [.ref az, .ref ap, .int (iI pm), .ref ak, .int (iI ik), .ref ax, .int (iI ty), .int (iI th), .ref a1, .ref a2, .int (iI (nN N)), .ref a3, .int (iI (nP N)), .ref a4, .ref a5, .ref a6, .ref v1, .ref v2, .ref v3, .ref v4, .ref v5, .ref v6, .int (iI bn), .int (iI (nWh N)), .int (iI (nD N)), .int (iI (nG N))])), (a1, gI g 41 (nK N)), (a2, gI g 41 (nU N)), (a3, gI g 90 (nQ N)), (ax, gC g 40 f), (az, gI g 325 Z), (ap, gI g 1300 P)] := hW
  have hl : lv_has ls 2 [(0, .ref mo), (1, .int (iI u))] := hl
  have hinX11 : ∀ w ∈ wsX110, w ∈ wsX11_define := fun w h => List.mem_cons_of_mem _ (List.mem_append_right _ h)
  have hZm := WZ_mRead hZ ht hf
  have hnm := RN_mRead hZ ht hf
  have h2m := mRead_rng hZ ht hf
  have hle := mLe_rng hZm (hnm hv)
  refine lv_aload_n S0.1 S0.2.1 dX11_define_0 rfl (lv_at hl 0 rfl) ?_
  refine lv_iload_n S0.1 S0.2.1 dX11_define_1 rfl (lv_at hl 1 rfl) ?_
  refine q_pS (n := 1) (rest := [.ref mo]) S0 hK (c_X11_isFunction l g u (by omega)) (subP hW.1 [] rfl) (trivial) gX11_define_X11_isFunction rfl rfl rfl (by decide +kernel) ⟨Nat.le_of_ble_eq_true rfl, Nat.le_of_ble_eq_true rfl⟩ rfl rfl hl.1 (Nat.le_of_ble_eq_true rfl) ⟨Nat.le_of_ble_eq_true rfl, Nat.le_of_ble_eq_true rfl⟩ dX11_define_2 ?_
  refine W.eq (g2 := F0 m 5 ls [.int (iI (if 0 ≤ u ∧ u ≤ 3 then (1 : Int) else 0)), .ref mo]) rfl ?_
  refine q_cV (n := 1) (rest := []) (wr := [(a1, gI g 41 (nK N)), (a2, gI g 41 (nU N)), (a3, gI g 90 (nQ N)), (ax, gC g 40 f), (az, gI g 325 Z), (ap, gI g 1300 P)]) S0 hK hA hW (c_X11_asksP l g mo az ap ak ax a1 a2 a3 a4 a5 a6 v1 v2 v3 v4 v5 v6 pm ik ty th (nN N) (nP N) bn (nWh N) (nD N) (nG N) (0 ≤ u ∧ u ≤ 3) (by omega)) gX11_define_X11_asks rfl rfl rfl (by decide +kernel) ⟨Nat.le_of_ble_eq_true rfl, Nat.le_of_ble_eq_true rfl⟩ [0] [1, 2, 3, 4, 5, 6] rfl rfl rfl rfl (by decide) (q_recv hK hW.1 (ci := 11) (q0 := 0) rfl rfl) (fun _ _ => trivial) (trivial) rfl rfl hl.1 (Nat.le_of_ble_eq_true rfl) ⟨Nat.le_of_ble_eq_true rfl, Nat.le_of_ble_eq_true rfl⟩ dX11_define_5 (fun _ H locs _ hW => ?_)
  have hW : gW g A s.heap H _ [(a1, gI g 41 (nK N)), (a2, gI g 41 (nU N)), (a3, gI g 90 (nQ N)), (ax, gC g 40 f), (az, gI g 325 Z), (ap, gI g 1300 P), (mo, .inr (11, [.ref az, .ref ap, .int (iI pm), .ref ak, .int (iI ik), .ref ax, .int (iI ty), .int (iI 0), .ref a1, .ref a2, .int (iI (nN N)), .ref a3, .int (iI (nP N)), .ref a4, .ref a5, .ref a6, .ref v1, .ref v2, .ref v3, .ref v4, .ref v5, .ref v6, .int (iI bn), .int (iI (nWh N)), .int (iI (nD N)), .int (iI (nG N))]))] := hW
  refine W.eq (g2 := F0 m 8 ls [.int (iI 1)]) rfl ?_
  refine lv_pop S0.1 S0.2.1 dX11_define_8 rfl ?_
  refine lv_aload_n S0.1 S0.2.1 dX11_define_9 rfl (lv_at hl 0 rfl) ?_
  refine lv_aload_n S0.1 S0.2.1 dX11_define_10 rfl (lv_at hl 0 rfl) ?_
  refine q_get (C := RX11) (T := TX11) (N := 26) S0 hK hW.1 hinX11 6 rfl rfl 7 (by decide) (List.mem_of_getElem? (i := 1) rfl) rfl rfl dX11_define_11 ?_
  refine q_if_gt (tgt := 33) S0 (by omega) dX11_define_14 (by decide) (fun c14 => ?_) (fun c14 => ?_)
  · skip
    exact absurd c14 (by omega)
  · skip
    refine lv_aload_n S0.1 S0.2.1 dX11_define_17 rfl (lv_at hl 0 rfl) ?_
    refine q_cV (n := 0) (rest := [.ref mo]) (wr := [(az, gI g 325 Z), (ap, gI g 1300 P)]) S0 hK hA hW (c_X11_readText l g mo az ap ak ax a1 a2 a3 a4 a5 a6 v1 v2 v3 v4 v5 v6 pm ik ty 0 bn N f (hZ) (ht) (hf)) gX11_define_X11_readText rfl rfl rfl (by decide +kernel) ⟨Nat.le_of_ble_eq_true rfl, Nat.le_of_ble_eq_true rfl⟩ [6, 0, 1, 2, 3] [4, 5] rfl rfl rfl rfl (by decide) (q_recv hK hW.1 (ci := 11) (q0 := 6) rfl rfl) (fun _ _ => trivial) (trivial) rfl rfl hl.1 (Nat.le_of_ble_eq_true rfl) ⟨Nat.le_of_ble_eq_true rfl, Nat.le_of_ble_eq_true rfl⟩ dX11_define_18 (fun _ H locs _ hW => ?_)
    have hW : gW g A s.heap H _ [(az, gI g 325 Z), (ap, gI g 1300 P), (mo, .inr (11, [.ref az, .ref ap, .int (iI pm), .ref ak, .int (iI ik), .ref ax, .int (iI ty), .int (iI 0), .ref a1, .ref a2, .int (iI (nN ((mRead N f ty).1))), .ref a3, .int (iI (nP ((mRead N f ty).1))), .ref a4, .ref a5, .ref a6, .ref v1, .ref v2, .ref v3, .ref v4, .ref v5, .ref v6, .int (iI bn), .int (iI (nWh ((mRead N f ty).1))), .int (iI (nD ((mRead N f ty).1))), .int (iI (nG ((mRead N f ty).1)))])), (a1, gI g 41 (nK ((mRead N f ty).1))), (a2, gI g 41 (nU ((mRead N f ty).1))), (a3, gI g 90 (nQ ((mRead N f ty).1))), (ax, gC g 40 f)] := hW
    refine W.eq (g2 := F0 m 21 ls [.int (iI ((mRead N f ty).2)), .ref mo]) rfl ?_
    refine q_iconst S0 dX11_define_21 ?_
    refine q_icmp_ne (tgt := 37) S0 (by omega) dX11_define_22 (by decide) (fun c22 => ?_) (fun c22 => ?_)
    · skip
      exact absurd c22 (by omega)
    · skip
      refine lv_aload_n S0.1 S0.2.1 dX11_define_25 rfl (lv_at hl 0 rfl) ?_
      refine q_pV (n := 0) (rest := [.ref mo]) S0 hK (c_X11_least l g mo az ap ak ax a1 a2 a3 a4 a5 a6 v1 v2 v3 v4 v5 v6 pm ik ty 0 bn ((mRead N f ty).1) (hZm) (hnm hv)) (subP hW.1 [2, 3, 4] rfl) (trivial) gX11_define_X11_least rfl rfl rfl (by decide +kernel) ⟨Nat.le_of_ble_eq_true rfl, Nat.le_of_ble_eq_true rfl⟩ (q_recv hK hW.1 (ci := 11) (q0 := 2) rfl rfl) rfl rfl hl.1 (Nat.le_of_ble_eq_true rfl) ⟨Nat.le_of_ble_eq_true rfl, Nat.le_of_ble_eq_true rfl⟩ dX11_define_26 ?_
      refine W.eq (g2 := F0 m 29 ls [.int (iI (mLe ((mRead N f ty).1))), .ref mo]) rfl ?_
      refine lv_iload_n S0.1 S0.2.1 dX11_define_29 rfl (lv_at hl 1 rfl) ?_
      refine q_icmp_gt (tgt := 37) S0 (by omega) dX11_define_30 (by decide) (fun c30 => ?_) (fun c30 => ?_)
      · skip
        exact absurd c30 (by omega)
      · skip
        refine q_iconst S0 dX11_define_33 ?_
        refine lv_goto (tgt := 38) S0.1 S0.2.1 dX11_define_34 (by decide) ?_
        refine q_iconst S0 dX11_define_38 ?_
        refine q_cV (n := 2) (rest := []) (wr := [(az, gI g 325 Z), (ap, gI g 1300 P), (a1, gI g 41 (nK ((mRead N f ty).1))), (a2, gI g 41 (nU ((mRead N f ty).1))), (a3, gI g 90 (nQ ((mRead N f ty).1))), (ax, gC g 40 f)]) S0 hK hA hW (c_X11_asksThen0 l g mo az ap ak ax a1 a2 a3 a4 a5 a6 v1 v2 v3 v4 v5 v6 pm ik ty 0 (nN ((mRead N f ty).1)) (nP ((mRead N f ty).1)) bn (nWh ((mRead N f ty).1)) (nD ((mRead N f ty).1)) (nG ((mRead N f ty).1)) True 2 (rfl) (trivial)) gX11_define_X11_asksThen rfl rfl rfl (by decide +kernel) ⟨Nat.le_of_ble_eq_true rfl, Nat.le_of_ble_eq_true rfl⟩ [2] [0, 1, 3, 4, 5, 6] rfl rfl rfl rfl (by decide) (q_recv hK hW.1 (ci := 11) (q0 := 2) rfl rfl) (fun _ _ => trivial) (trivial) rfl rfl hl.1 (Nat.le_of_ble_eq_true rfl) ⟨Nat.le_of_ble_eq_true rfl, Nat.le_of_ble_eq_true rfl⟩ dX11_define_39 (fun _ H locs _ hW => ?_)
        have hW : gW g A s.heap H _ [(az, gI g 325 Z), (ap, gI g 1300 P), (a1, gI g 41 (nK ((mRead N f ty).1))), (a2, gI g 41 (nU ((mRead N f ty).1))), (a3, gI g 90 (nQ ((mRead N f ty).1))), (ax, gC g 40 f), (mo, .inr (11, [.ref az, .ref ap, .int (iI pm), .ref ak, .int (iI ik), .ref ax, .int (iI ty), .int (iI 0), .ref a1, .ref a2, .int (iI (nN ((mRead N f ty).1))), .ref a3, .int (iI (nP ((mRead N f ty).1))), .ref a4, .ref a5, .ref a6, .ref v1, .ref v2, .ref v3, .ref v4, .ref v5, .ref v6, .int (iI bn), .int (iI (nWh ((mRead N f ty).1))), .int (iI (nD ((mRead N f ty).1))), .int (iI (nG ((mRead N f ty).1)))]))] := hW
        refine W.eq (g2 := F0 m 42 ls [.int (iI 1)]) rfl ?_
        refine q_if_ne (tgt := 47) S0 (by omega) dX11_define_42 (by decide) (fun c42 => ?_) (fun c42 => ?_)
        · skip
          refine lv_aload_n S0.1 S0.2.1 dX11_define_47 rfl (lv_at hl 0 rfl) ?_
          refine q_cV (n := 0) (rest := []) (wr := [(a1, gI g 41 (nK ((mRead N f ty).1))), (a2, gI g 41 (nU ((mRead N f ty).1))), (a3, gI g 90 (nQ ((mRead N f ty).1))), (ax, gC g 40 f)]) S0 hK hA hW (c_X11_record3 l g mo az ap ak ax a1 a2 a3 a4 a5 a6 v1 v2 v3 v4 v5 v6 pm ik ty 0 (nN ((mRead N f ty).1)) (nP ((mRead N f ty).1)) bn (nWh ((mRead N f ty).1)) (nD ((mRead N f ty).1)) (nG ((mRead N f ty).1)) Z P (by omega)) gX11_define_X11_record rfl rfl rfl (by decide +kernel) ⟨Nat.le_of_ble_eq_true rfl, Nat.le_of_ble_eq_true rfl⟩ [6, 0, 1] [2, 3, 4, 5] rfl rfl rfl rfl (by decide) (q_recv hK hW.1 (ci := 11) (q0 := 6) rfl rfl) (fun _ _ => trivial) (trivial) rfl rfl hl.1 (Nat.le_of_ble_eq_true rfl) ⟨Nat.le_of_ble_eq_true rfl, Nat.le_of_ble_eq_true rfl⟩ dX11_define_48 (fun _ H locs _ hW => ?_)
          have hW : gW g A s.heap H _ [(a1, gI g 41 (nK ((mRead N f ty).1))), (a2, gI g 41 (nU ((mRead N f ty).1))), (a3, gI g 90 (nQ ((mRead N f ty).1))), (ax, gC g 40 f), (mo, .inr (11, [.ref az, .ref ap, .int (iI (recN pm)), .ref ak, .int (iI ik), .ref ax, .int (iI ty), .int (iI 0), .ref a1, .ref a2, .int (iI (nN ((mRead N f ty).1))), .ref a3, .int (iI (nP ((mRead N f ty).1))), .ref a4, .ref a5, .ref a6, .ref v1, .ref v2, .ref v3, .ref v4, .ref v5, .ref v6, .int (iI bn), .int (iI (nWh ((mRead N f ty).1))), .int (iI (nD ((mRead N f ty).1))), .int (iI (nG ((mRead N f ty).1)))])), (az, gI g 325 Z), (ap, gI g 1300 (recM pm P Z))] := hW
          refine W.eq (g2 := F0 m 51 ls []) rfl ?_
          refine lv_aload_n S0.1 S0.2.1 dX11_define_51 rfl (lv_at hl 0 rfl) ?_
          refine lv_iload_n S0.1 S0.2.1 dX11_define_52 rfl (lv_at hl 1 rfl) ?_
          refine q_cV (n := 1) (rest := []) (wr := [(a3, gI g 90 (nQ ((mRead N f ty).1))), (ax, gC g 40 f), (ap, gI g 1300 (recM pm P Z))]) S0 hK hA hW (c_X11_gets l g mo az ap ak ax a1 a2 a3 a4 a5 a6 v1 v2 v3 v4 v5 v6 (recN pm) ik ty 0 bn ((mRead N f ty).1) Z u (by omega) (hnm hv)) gX11_define_X11_gets rfl rfl rfl (by decide +kernel) ⟨Nat.le_of_ble_eq_true rfl, Nat.le_of_ble_eq_true rfl⟩ [4, 0, 1, 5] [2, 3, 6] rfl rfl rfl rfl (by decide) (q_recv hK hW.1 (ci := 11) (q0 := 4) rfl rfl) (fun _ _ => trivial) (trivial) rfl rfl hl.1 (Nat.le_of_ble_eq_true rfl) ⟨Nat.le_of_ble_eq_true rfl, Nat.le_of_ble_eq_true rfl⟩ dX11_define_53 (fun _ H locs _ hW => ?_)
          have hW : gW g A s.heap H _ [(a3, gI g 90 (nQ ((mRead N f ty).1))), (ax, gC g 40 f), (ap, gI g 1300 (recM pm P Z)), (mo, .inr (11, [.ref az, .ref ap, .int (iI (recN pm)), .ref ak, .int (iI ik), .ref ax, .int (iI ty), .int (iI 0), .ref a1, .ref a2, .int (iI (nN ((mRead N f ty).1))), .ref a3, .int (iI (nP ((mRead N f ty).1))), .ref a4, .ref a5, .ref a6, .ref v1, .ref v2, .ref v3, .ref v4, .ref v5, .ref v6, .int (iI bn), .int (iI (nWh ((mRead N f ty).1))), .int (iI (nD ((mRead N f ty).1))), .int (iI (nG ((mRead N f ty).1)))])), (a1, gI g 41 (nK ((mRead N f ty).1))), (a2, gI g 41 (nU ((mRead N f ty).1))), (az, gI g 325 (gzs ((mRead N f ty).1) Z u 40))] := hW
          refine W.eq (g2 := F0 m 56 ls [.int (iI (nN ((mRead N f ty).1)))]) rfl ?_
          exact q_iret S0 hr hlocks () (trivial) (rfl) (hW.sub [3, 4, 5, 0, 1, 6, 2] rfl (rfl)) (Nat.le_of_ble_eq_true rfl) (Nat.le_of_ble_eq_true rfl) dX11_define_56
        · skip
          exact absurd c42 (by omega)
set_option maxHeartbeats 4000000 in
set_option maxRecDepth 100000 in
theorem c_X11_copy1 (l : Launch) (g : GG) (mo az ap ak ax a1 a2 a3 a4 a5 a6 v1 v2 v3 v4 v5 v6 : Nat) (pm ik ty th mn wt bn wh dp dg : Int) (u w : Int) (hu : -2147483648 ≤ u ∧ u < 2147483648) (hw : -2147483648 ≤ w ∧ w < 2147483648) (hb : ¬ ((0 ≤ u ∧ u ≤ 3) ∧ (0 ≤ w ∧ w ≤ 3))) : qMet l yX11_copy wsX11_copy ({ frames := 2, cells := 0, slots := 0, locals := 42 }) g [.ref mo, .int (iI u), .int (iI w)] [(mo, .inr (11, [.ref az, .ref ap, .int (iI pm), .ref ak, .int (iI ik), .ref ax, .int (iI ty), .int (iI th), .ref a1, .ref a2, .int (iI mn), .ref a3, .int (iI wt), .ref a4, .ref a5, .ref a6, .ref v1, .ref v2, .ref v3, .ref v4, .ref v5, .ref v6, .int (iI bn), .int (iI wh), .int (iI dp), .int (iI dg)]))] (fun _ => True) (fun _ => True) (S := Unit) (fun _ => some (.int (iI 0))) (fun _ => [(mo, .inr (11, [.ref az, .ref ap, .int (iI pm), .ref ak, .int (iI ik), .ref ax, .int (iI ty), .int (iI 1), .ref a1, .ref a2, .int (iI mn), .ref a3, .int (iI wt), .ref a4, .ref a5, .ref a6, .ref v1, .ref v2, .ref v3, .ref v4, .ref v5, .ref v6, .int (iI bn), .int (iI wh), .int (iI dp), .int (iI dg)]))]) (fun _ => True) 0 0 := by
  refine q_ofW (cc := cX11_copy) (maxL := 3) (ret := (some .int)) (fun sz h => h.self) (by decide) rfl (Nat.le_of_ble_eq_true rfl) ?_
  intro p e s m args below meth c A ls S0 hr hlocks hnme hK hA hAe hW hD0 hX hl
  have hW : gW g A s.heap s.heap [] [(mo, .inr (11, [.ref az, .ref ap, .int (iI pm), .ref ak, .int (iI ik), .ref ax, .int (iI ty), .int (iI th), .ref a1, .ref a2, .int (iI mn), .ref a3, .int (iI wt), .ref a4, .ref a5, .ref a6, .ref v1, .ref v2, .ref v3, .ref v4, .ref v5, .ref v6, .int (iI bn), .int (iI wh), .int (iI dp), .int (iI dg)]))] := hW
  have hl : lv_has ls 3 [(0, .ref mo), (1, .int (iI u)), (2, .int (iI w))] := hl
  refine lv_aload_n S0.1 S0.2.1 dX11_copy_0 rfl (lv_at hl 0 rfl) ?_
  refine lv_iload_n S0.1 S0.2.1 dX11_copy_1 rfl (lv_at hl 1 rfl) ?_
  refine q_pS (n := 1) (rest := [.ref mo]) S0 hK (c_X11_isFunction l g u (by omega)) (subP hW.1 [] rfl) (trivial) gX11_copy_X11_isFunction rfl rfl rfl (by decide +kernel) ⟨Nat.le_of_ble_eq_true rfl, Nat.le_of_ble_eq_true rfl⟩ rfl rfl hl.1 (Nat.le_of_ble_eq_true rfl) ⟨Nat.le_of_ble_eq_true rfl, Nat.le_of_ble_eq_true rfl⟩ dX11_copy_2 ?_
  refine W.eq (g2 := F0 m 5 ls [.int (iI (if 0 ≤ u ∧ u ≤ 3 then (1 : Int) else 0)), .ref mo]) rfl ?_
  refine q_if_eqP (tgt := 19) S0 dX11_copy_5 (by decide) (fun c5 => ?_) (fun c5 => ?_)
  · skip
    refine q_iconst S0 dX11_copy_19 ?_
    refine q_cV (n := 1) (rest := []) (wr := []) S0 hK hA hW (c_X11_asksF l g mo az ap ak ax a1 a2 a3 a4 a5 a6 v1 v2 v3 v4 v5 v6 pm ik ty th mn wt bn wh dp dg) gX11_copy_X11_asks rfl rfl rfl (by decide +kernel) ⟨Nat.le_of_ble_eq_true rfl, Nat.le_of_ble_eq_true rfl⟩ [0] [] rfl rfl rfl rfl (by decide) (q_recv hK hW.1 (ci := 11) (q0 := 0) rfl rfl) (fun _ _ => trivial) (trivial) rfl rfl hl.1 (Nat.le_of_ble_eq_true rfl) ⟨Nat.le_of_ble_eq_true rfl, Nat.le_of_ble_eq_true rfl⟩ dX11_copy_20 (fun _ H locs _ hW => ?_)
    have hW : gW g A s.heap H _ [(mo, .inr (11, [.ref az, .ref ap, .int (iI pm), .ref ak, .int (iI ik), .ref ax, .int (iI ty), .int (iI 1), .ref a1, .ref a2, .int (iI mn), .ref a3, .int (iI wt), .ref a4, .ref a5, .ref a6, .ref v1, .ref v2, .ref v3, .ref v4, .ref v5, .ref v6, .int (iI bn), .int (iI wh), .int (iI dp), .int (iI dg)]))] := hW
    refine W.eq (g2 := F0 m 23 ls [.int (iI 0)]) rfl ?_
    refine q_if_ne (tgt := 28) S0 (by omega) dX11_copy_23 (by decide) (fun c23 => ?_) (fun c23 => ?_)
    · skip
      exact absurd c23 (by omega)
    · skip
      refine q_iconst S0 dX11_copy_26 ?_
      exact q_iret S0 hr hlocks () (trivial) (rfl) (hW.sub [0] rfl (rfl)) (Nat.le_of_ble_eq_true rfl) (Nat.le_of_ble_eq_true rfl) dX11_copy_27
  · skip
    refine lv_iload_n S0.1 S0.2.1 dX11_copy_8 rfl (lv_at hl 2 rfl) ?_
    refine q_pS (n := 1) (rest := [.ref mo]) S0 hK (c_X11_isFunction l g w (by omega)) (subP hW.1 [] rfl) (trivial) gX11_copy_X11_isFunction rfl rfl rfl (by decide +kernel) ⟨Nat.le_of_ble_eq_true rfl, Nat.le_of_ble_eq_true rfl⟩ rfl rfl hl.1 (Nat.le_of_ble_eq_true rfl) ⟨Nat.le_of_ble_eq_true rfl, Nat.le_of_ble_eq_true rfl⟩ dX11_copy_9 ?_
    refine W.eq (g2 := F0 m 12 ls [.int (iI (if 0 ≤ w ∧ w ≤ 3 then (1 : Int) else 0)), .ref mo]) rfl ?_
    refine q_if_eqP (tgt := 19) S0 dX11_copy_12 (by decide) (fun c12 => ?_) (fun c12 => ?_)
    · skip
      refine q_iconst S0 dX11_copy_19 ?_
      refine q_cV (n := 1) (rest := []) (wr := []) S0 hK hA hW (c_X11_asksF l g mo az ap ak ax a1 a2 a3 a4 a5 a6 v1 v2 v3 v4 v5 v6 pm ik ty th mn wt bn wh dp dg) gX11_copy_X11_asks rfl rfl rfl (by decide +kernel) ⟨Nat.le_of_ble_eq_true rfl, Nat.le_of_ble_eq_true rfl⟩ [0] [] rfl rfl rfl rfl (by decide) (q_recv hK hW.1 (ci := 11) (q0 := 0) rfl rfl) (fun _ _ => trivial) (trivial) rfl rfl hl.1 (Nat.le_of_ble_eq_true rfl) ⟨Nat.le_of_ble_eq_true rfl, Nat.le_of_ble_eq_true rfl⟩ dX11_copy_20 (fun _ H locs _ hW => ?_)
      have hW : gW g A s.heap H _ [(mo, .inr (11, [.ref az, .ref ap, .int (iI pm), .ref ak, .int (iI ik), .ref ax, .int (iI ty), .int (iI 1), .ref a1, .ref a2, .int (iI mn), .ref a3, .int (iI wt), .ref a4, .ref a5, .ref a6, .ref v1, .ref v2, .ref v3, .ref v4, .ref v5, .ref v6, .int (iI bn), .int (iI wh), .int (iI dp), .int (iI dg)]))] := hW
      refine W.eq (g2 := F0 m 23 ls [.int (iI 0)]) rfl ?_
      refine q_if_ne (tgt := 28) S0 (by omega) dX11_copy_23 (by decide) (fun c23 => ?_) (fun c23 => ?_)
      · skip
        exact absurd c23 (by omega)
      · skip
        refine q_iconst S0 dX11_copy_26 ?_
        exact q_iret S0 hr hlocks () (trivial) (rfl) (hW.sub [0] rfl (rfl)) (Nat.le_of_ble_eq_true rfl) (Nat.le_of_ble_eq_true rfl) dX11_copy_27
    · skip
      exact absurd c12 (by omega)
set_option maxHeartbeats 4000000 in
set_option maxRecDepth 100000 in
theorem c_X11_copy2 (l : Launch) (g : GG) (mo az ap ak ax a1 a2 a3 a4 a5 a6 v1 v2 v3 v4 v5 v6 : Nat) (pm ik ty th bn : Int) (N : NT) (Z : Nat → Int) (u w : Int) (hu : 0 ≤ u ∧ u < 4) (hw : 0 ≤ w ∧ w < 4) (hs : 0 ≤ Z (1 + 81 * w).toNat ∧ Z (1 + 81 * w).toNat ≤ 40) (hZ : WZ (mTake N Z w)) (hv : u < mLe (mTake N Z w)) : qMet l yX11_copy wsX11_copy ({ frames := 2, cells := 0, slots := 0, locals := 44 }) g [.ref mo, .int (iI u), .int (iI w)] [(mo, .inr (11, [.ref az, .ref ap, .int (iI pm), .ref ak, .int (iI ik), .ref ax, .int (iI ty), .int (iI th), .ref a1, .ref a2, .int (iI (nN N)), .ref a3, .int (iI (nP N)), .ref a4, .ref a5, .ref a6, .ref v1, .ref v2, .ref v3, .ref v4, .ref v5, .ref v6, .int (iI bn), .int (iI (nWh N)), .int (iI (nD N)), .int (iI (nG N))])), (a1, gI g 41 (nK N)), (a2, gI g 41 (nU N)), (az, gI g 325 Z)] (fun _ => True) (fun _ => True) (S := Unit) (fun _ => some (.int (iI 0))) (fun _ => [(mo, .inr (11, [.ref az, .ref ap, .int (iI pm), .ref ak, .int (iI ik), .ref ax, .int (iI ty), .int (iI 2), .ref a1, .ref a2, .int (iI (nN (mTake N Z w))), .ref a3, .int (iI (nP (mTake N Z w))), .ref a4, .ref a5, .ref a6, .ref v1, .ref v2, .ref v3, .ref v4, .ref v5, .ref v6, .int (iI bn), .int (iI (nWh (mTake N Z w))), .int (iI (nD (mTake N Z w))), .int (iI (nG (mTake N Z w)))])), (a1, gI g 41 (nK (mTake N Z w))), (a2, gI g 41 (nU (mTake N Z w))), (az, gI g 325 Z)]) (fun _ => True) 0 0 := by
  refine q_ofW (cc := cX11_copy) (maxL := 3) (ret := (some .int)) (fun sz h => h.self) (by decide) rfl (Nat.le_of_ble_eq_true rfl) ?_
  intro p e s m args below meth c A ls S0 hr hlocks hnme hK hA hAe hW hD0 hX hl
  have hW : gW g A s.heap s.heap [] [(mo, .inr (11, [.ref az, .ref ap, .int (iI pm), .ref ak, .int (iI ik), .ref ax, .int (iI ty), .int (iI th), .ref a1, .ref a2, .int (iI (nN N)), .ref a3, .int (iI (nP N)), .ref a4, .ref a5, .ref a6, .ref v1, .ref v2, .ref v3, .ref v4, .ref v5, .ref v6, .int (iI bn), .int (iI (nWh N)), .int (iI (nD N)), .int (iI (nG N))])), (a1, gI g 41 (nK N)), (a2, gI g 41 (nU N)), (az, gI g 325 Z)] := hW
  have hl : lv_has ls 3 [(0, .ref mo), (1, .int (iI u)), (2, .int (iI w))] := hl
  refine lv_aload_n S0.1 S0.2.1 dX11_copy_0 rfl (lv_at hl 0 rfl) ?_
  refine lv_iload_n S0.1 S0.2.1 dX11_copy_1 rfl (lv_at hl 1 rfl) ?_
  refine q_pS (n := 1) (rest := [.ref mo]) S0 hK (c_X11_isFunction l g u (by omega)) (subP hW.1 [] rfl) (trivial) gX11_copy_X11_isFunction rfl rfl rfl (by decide +kernel) ⟨Nat.le_of_ble_eq_true rfl, Nat.le_of_ble_eq_true rfl⟩ rfl rfl hl.1 (Nat.le_of_ble_eq_true rfl) ⟨Nat.le_of_ble_eq_true rfl, Nat.le_of_ble_eq_true rfl⟩ dX11_copy_2 ?_
  refine W.eq (g2 := F0 m 5 ls [.int (iI (if 0 ≤ u ∧ u ≤ 3 then (1 : Int) else 0)), .ref mo]) rfl ?_
  refine q_if_eqP (tgt := 19) S0 dX11_copy_5 (by decide) (fun c5 => ?_) (fun c5 => ?_)
  · skip
    exact absurd c5 (by omega)
  · skip
    refine lv_iload_n S0.1 S0.2.1 dX11_copy_8 rfl (lv_at hl 2 rfl) ?_
    refine q_pS (n := 1) (rest := [.ref mo]) S0 hK (c_X11_isFunction l g w (by omega)) (subP hW.1 [] rfl) (trivial) gX11_copy_X11_isFunction rfl rfl rfl (by decide +kernel) ⟨Nat.le_of_ble_eq_true rfl, Nat.le_of_ble_eq_true rfl⟩ rfl rfl hl.1 (Nat.le_of_ble_eq_true rfl) ⟨Nat.le_of_ble_eq_true rfl, Nat.le_of_ble_eq_true rfl⟩ dX11_copy_9 ?_
    refine W.eq (g2 := F0 m 12 ls [.int (iI (if 0 ≤ w ∧ w ≤ 3 then (1 : Int) else 0)), .ref mo]) rfl ?_
    refine q_if_eqP (tgt := 19) S0 dX11_copy_12 (by decide) (fun c12 => ?_) (fun c12 => ?_)
    · skip
      exact absurd c12 (by omega)
    · skip
      refine q_iconst S0 dX11_copy_15 ?_
      refine lv_goto (tgt := 20) S0.1 S0.2.1 dX11_copy_16 (by decide) ?_
      refine q_cV (n := 1) (rest := []) (wr := [(a1, gI g 41 (nK N)), (a2, gI g 41 (nU N)), (az, gI g 325 Z)]) S0 hK hA hW (c_X11_asksT l g mo az ap ak ax a1 a2 a3 a4 a5 a6 v1 v2 v3 v4 v5 v6 pm ik ty th (nN N) (nP N) bn (nWh N) (nD N) (nG N)) gX11_copy_X11_asks rfl rfl rfl (by decide +kernel) ⟨Nat.le_of_ble_eq_true rfl, Nat.le_of_ble_eq_true rfl⟩ [0] [1, 2, 3] rfl rfl rfl rfl (by decide) (q_recv hK hW.1 (ci := 11) (q0 := 0) rfl rfl) (fun _ _ => trivial) (trivial) rfl rfl hl.1 (Nat.le_of_ble_eq_true rfl) ⟨Nat.le_of_ble_eq_true rfl, Nat.le_of_ble_eq_true rfl⟩ dX11_copy_20 (fun _ H locs _ hW => ?_)
      have hW : gW g A s.heap H _ [(a1, gI g 41 (nK N)), (a2, gI g 41 (nU N)), (az, gI g 325 Z), (mo, .inr (11, [.ref az, .ref ap, .int (iI pm), .ref ak, .int (iI ik), .ref ax, .int (iI ty), .int (iI 0), .ref a1, .ref a2, .int (iI (nN N)), .ref a3, .int (iI (nP N)), .ref a4, .ref a5, .ref a6, .ref v1, .ref v2, .ref v3, .ref v4, .ref v5, .ref v6, .int (iI bn), .int (iI (nWh N)), .int (iI (nD N)), .int (iI (nG N))]))] := hW
      refine W.eq (g2 := F0 m 23 ls [.int (iI 1)]) rfl ?_
      refine q_if_ne (tgt := 28) S0 (by omega) dX11_copy_23 (by decide) (fun c23 => ?_) (fun c23 => ?_)
      · skip
        refine lv_aload_n S0.1 S0.2.1 dX11_copy_28 rfl (lv_at hl 0 rfl) ?_
        refine lv_iload_n S0.1 S0.2.1 dX11_copy_29 rfl (lv_at hl 2 rfl) ?_
        refine q_cV (n := 1) (rest := []) (wr := []) S0 hK hA hW (c_X11_takes l g mo az ap ak ax a1 a2 a3 a4 a5 a6 v1 v2 v3 v4 v5 v6 pm ik ty 0 bn N Z w (by omega) (by omega)) gX11_copy_X11_takes rfl rfl rfl (by decide +kernel) ⟨Nat.le_of_ble_eq_true rfl, Nat.le_of_ble_eq_true rfl⟩ [3, 0, 1, 2] [] rfl rfl rfl rfl (by decide) (q_recv hK hW.1 (ci := 11) (q0 := 3) rfl rfl) (fun _ _ => trivial) (trivial) rfl rfl hl.1 (Nat.le_of_ble_eq_true rfl) ⟨Nat.le_of_ble_eq_true rfl, Nat.le_of_ble_eq_true rfl⟩ dX11_copy_30 (fun _ H locs _ hW => ?_)
        have hW : gW g A s.heap H _ [(mo, .inr (11, [.ref az, .ref ap, .int (iI pm), .ref ak, .int (iI ik), .ref ax, .int (iI ty), .int (iI 0), .ref a1, .ref a2, .int (iI (nN (mTake N Z w))), .ref a3, .int (iI (nP (mTake N Z w))), .ref a4, .ref a5, .ref a6, .ref v1, .ref v2, .ref v3, .ref v4, .ref v5, .ref v6, .int (iI bn), .int (iI (nWh (mTake N Z w))), .int (iI (nD (mTake N Z w))), .int (iI (nG (mTake N Z w)))])), (a1, gI g 41 (nK (mTake N Z w))), (a2, gI g 41 (nU (mTake N Z w))), (az, gI g 325 Z)] := hW
        refine W.eq (g2 := F0 m 33 ls []) rfl ?_
        refine lv_aload_n S0.1 S0.2.1 dX11_copy_33 rfl (lv_at hl 0 rfl) ?_
        refine lv_aload_n S0.1 S0.2.1 dX11_copy_34 rfl (lv_at hl 0 rfl) ?_
        have hle := mLe_rng hZ hs
        refine q_pV (n := 0) (rest := [.ref mo]) S0 hK (c_X11_least l g mo az ap ak ax a1 a2 a3 a4 a5 a6 v1 v2 v3 v4 v5 v6 pm ik ty 0 bn (mTake N Z w) (hZ) (hs)) (subP hW.1 [0, 1, 2] rfl) (trivial) gX11_copy_X11_least rfl rfl rfl (by decide +kernel) ⟨Nat.le_of_ble_eq_true rfl, Nat.le_of_ble_eq_true rfl⟩ (q_recv hK hW.1 (ci := 11) (q0 := 0) rfl rfl) rfl rfl hl.1 (Nat.le_of_ble_eq_true rfl) ⟨Nat.le_of_ble_eq_true rfl, Nat.le_of_ble_eq_true rfl⟩ dX11_copy_35 ?_
        refine W.eq (g2 := F0 m 38 ls [.int (iI (mLe (mTake N Z w))), .ref mo]) rfl ?_
        refine lv_iload_n S0.1 S0.2.1 dX11_copy_38 rfl (lv_at hl 1 rfl) ?_
        refine q_icmp_gt (tgt := 46) S0 (by omega) dX11_copy_39 (by decide) (fun c39 => ?_) (fun c39 => ?_)
        · skip
          refine q_iconst S0 dX11_copy_46 ?_
          refine q_iconst S0 dX11_copy_47 ?_
          refine q_cV (n := 2) (rest := []) (wr := [(a1, gI g 41 (nK (mTake N Z w))), (a2, gI g 41 (nU (mTake N Z w))), (az, gI g 325 Z)]) S0 hK hA hW (c_X11_asksThen2 l g mo az ap ak ax a1 a2 a3 a4 a5 a6 v1 v2 v3 v4 v5 v6 pm ik ty 0 (nN (mTake N Z w)) (nP (mTake N Z w)) bn (nWh (mTake N Z w)) (nD (mTake N Z w)) (nG (mTake N Z w)) False 2 (rfl) (fun z => z) (by omega)) gX11_copy_X11_asksThen rfl rfl rfl (by decide +kernel) ⟨Nat.le_of_ble_eq_true rfl, Nat.le_of_ble_eq_true rfl⟩ [0] [1, 2, 3] rfl rfl rfl rfl (by decide) (q_recv hK hW.1 (ci := 11) (q0 := 0) rfl rfl) (fun _ _ => trivial) (trivial) rfl rfl hl.1 (Nat.le_of_ble_eq_true rfl) ⟨Nat.le_of_ble_eq_true rfl, Nat.le_of_ble_eq_true rfl⟩ dX11_copy_48 (fun _ H locs _ hW => ?_)
          have hW : gW g A s.heap H _ [(a1, gI g 41 (nK (mTake N Z w))), (a2, gI g 41 (nU (mTake N Z w))), (az, gI g 325 Z), (mo, .inr (11, [.ref az, .ref ap, .int (iI pm), .ref ak, .int (iI ik), .ref ax, .int (iI ty), .int (iI 2), .ref a1, .ref a2, .int (iI (nN (mTake N Z w))), .ref a3, .int (iI (nP (mTake N Z w))), .ref a4, .ref a5, .ref a6, .ref v1, .ref v2, .ref v3, .ref v4, .ref v5, .ref v6, .int (iI bn), .int (iI (nWh (mTake N Z w))), .int (iI (nD (mTake N Z w))), .int (iI (nG (mTake N Z w)))]))] := hW
          refine W.eq (g2 := F0 m 51 ls [.int (iI 0)]) rfl ?_
          refine q_if_ne (tgt := 56) S0 (by omega) dX11_copy_51 (by decide) (fun c51 => ?_) (fun c51 => ?_)
          · skip
            exact absurd c51 (by omega)
          · skip
            refine q_iconst S0 dX11_copy_54 ?_
            exact q_iret S0 hr hlocks () (trivial) (rfl) (hW.sub [3, 0, 1, 2] rfl (rfl)) (Nat.le_of_ble_eq_true rfl) (Nat.le_of_ble_eq_true rfl) dX11_copy_55
        · skip
          exact absurd c39 (by omega)
      · skip
        exact absurd c23 (by omega)
set_option maxHeartbeats 4000000 in
set_option maxRecDepth 100000 in
theorem c_X11_copy04 (l : Launch) (g : GG) (mo az ap ak ax a1 a2 a3 a4 a5 a6 v1 v2 v3 v4 v5 v6 : Nat) (ik ty th bn : Int) (N : NT) (Z P : Nat → Int) (u w : Int) (hu : 0 ≤ u ∧ u < 4) (hw : 0 ≤ w ∧ w < 4) (hs : 0 ≤ Z (1 + 81 * w).toNat ∧ Z (1 + 81 * w).toNat ≤ 40) (hZ : WZ (mTake N Z w)) (hv : mLe (mTake N Z w) ≤ u) : qMet l yX11_copy wsX11_copy ({ frames := 2, cells := 0, slots := 0, locals := 44 }) g [.ref mo, .int (iI u), .int (iI w)] [(mo, .inr (11, [.ref az, .ref ap, .int (iI 4), .ref ak, .int (iI ik), .ref ax, .int (iI ty), .int (iI th), .ref a1, .ref a2, .int (iI (nN N)), .ref a3, .int (iI (nP N)), .ref a4, .ref a5, .ref a6, .ref v1, .ref v2, .ref v3, .ref v4, .ref v5, .ref v6, .int (iI bn), .int (iI (nWh N)), .int (iI (nD N)), .int (iI (nG N))])), (a1, gI g 41 (nK N)), (a2, gI g 41 (nU N)), (az, gI g 325 Z), (ap, gI g 1300 P)] (fun _ => True) (fun _ => True) (S := Unit) (fun _ => some (.int (iI (nN (mTake N Z w))))) (fun _ => [(mo, .inr (11, [.ref az, .ref ap, .int (iI (recN 4)), .ref ak, .int (iI ik), .ref ax, .int (iI ty), .int (iI 0), .ref a1, .ref a2, .int (iI (nN (mTake N Z w))), .ref a3, .int (iI (nP (mTake N Z w))), .ref a4, .ref a5, .ref a6, .ref v1, .ref v2, .ref v3, .ref v4, .ref v5, .ref v6, .int (iI bn), .int (iI (nWh (mTake N Z w))), .int (iI (nD (mTake N Z w))), .int (iI (nG (mTake N Z w)))])), (a1, gI g 41 (nK (mTake N Z w))), (a2, gI g 41 (nU (mTake N Z w))), (az, gI g 325 (gzs (mTake N Z w) Z u 40)), (ap, gI g 1300 (recM 4 P Z))]) (fun _ => True) 0 0 := by
  refine q_ofW (cc := cX11_copy) (maxL := 3) (ret := (some .int)) (fun sz h => h.self) (by decide) rfl (Nat.le_of_ble_eq_true rfl) ?_
  intro p e s m args below meth c A ls S0 hr hlocks hnme hK hA hAe hW hD0 hX hl
  have hW : gW g A s.heap s.heap [] [(mo, .inr (11, [.ref az, .ref ap, .int (iI 4), .ref ak, .int (iI ik), .ref ax, .int (iI ty), .int (iI th), .ref a1, .ref a2, .int (iI (nN N)), .ref a3, .int (iI (nP N)), .ref a4, .ref a5, .ref a6, .ref v1, .ref v2, .ref v3, .ref v4, .ref v5, .ref v6, .int (iI bn), .int (iI (nWh N)), .int (iI (nD N)), .int (iI (nG N))])), (a1, gI g 41 (nK N)), (a2, gI g 41 (nU N)), (az, gI g 325 Z), (ap, gI g 1300 P)] := hW
  have hl : lv_has ls 3 [(0, .ref mo), (1, .int (iI u)), (2, .int (iI w))] := hl
  refine lv_aload_n S0.1 S0.2.1 dX11_copy_0 rfl (lv_at hl 0 rfl) ?_
  refine lv_iload_n S0.1 S0.2.1 dX11_copy_1 rfl (lv_at hl 1 rfl) ?_
  refine q_pS (n := 1) (rest := [.ref mo]) S0 hK (c_X11_isFunction l g u (by omega)) (subP hW.1 [] rfl) (trivial) gX11_copy_X11_isFunction rfl rfl rfl (by decide +kernel) ⟨Nat.le_of_ble_eq_true rfl, Nat.le_of_ble_eq_true rfl⟩ rfl rfl hl.1 (Nat.le_of_ble_eq_true rfl) ⟨Nat.le_of_ble_eq_true rfl, Nat.le_of_ble_eq_true rfl⟩ dX11_copy_2 ?_
  refine W.eq (g2 := F0 m 5 ls [.int (iI (if 0 ≤ u ∧ u ≤ 3 then (1 : Int) else 0)), .ref mo]) rfl ?_
  refine q_if_eqP (tgt := 19) S0 dX11_copy_5 (by decide) (fun c5 => ?_) (fun c5 => ?_)
  · skip
    exact absurd c5 (by omega)
  · skip
    refine lv_iload_n S0.1 S0.2.1 dX11_copy_8 rfl (lv_at hl 2 rfl) ?_
    refine q_pS (n := 1) (rest := [.ref mo]) S0 hK (c_X11_isFunction l g w (by omega)) (subP hW.1 [] rfl) (trivial) gX11_copy_X11_isFunction rfl rfl rfl (by decide +kernel) ⟨Nat.le_of_ble_eq_true rfl, Nat.le_of_ble_eq_true rfl⟩ rfl rfl hl.1 (Nat.le_of_ble_eq_true rfl) ⟨Nat.le_of_ble_eq_true rfl, Nat.le_of_ble_eq_true rfl⟩ dX11_copy_9 ?_
    refine W.eq (g2 := F0 m 12 ls [.int (iI (if 0 ≤ w ∧ w ≤ 3 then (1 : Int) else 0)), .ref mo]) rfl ?_
    refine q_if_eqP (tgt := 19) S0 dX11_copy_12 (by decide) (fun c12 => ?_) (fun c12 => ?_)
    · skip
      exact absurd c12 (by omega)
    · skip
      refine q_iconst S0 dX11_copy_15 ?_
      refine lv_goto (tgt := 20) S0.1 S0.2.1 dX11_copy_16 (by decide) ?_
      refine q_cV (n := 1) (rest := []) (wr := [(a1, gI g 41 (nK N)), (a2, gI g 41 (nU N)), (az, gI g 325 Z), (ap, gI g 1300 P)]) S0 hK hA hW (c_X11_asksT l g mo az ap ak ax a1 a2 a3 a4 a5 a6 v1 v2 v3 v4 v5 v6 4 ik ty th (nN N) (nP N) bn (nWh N) (nD N) (nG N)) gX11_copy_X11_asks rfl rfl rfl (by decide +kernel) ⟨Nat.le_of_ble_eq_true rfl, Nat.le_of_ble_eq_true rfl⟩ [0] [1, 2, 3, 4] rfl rfl rfl rfl (by decide) (q_recv hK hW.1 (ci := 11) (q0 := 0) rfl rfl) (fun _ _ => trivial) (trivial) rfl rfl hl.1 (Nat.le_of_ble_eq_true rfl) ⟨Nat.le_of_ble_eq_true rfl, Nat.le_of_ble_eq_true rfl⟩ dX11_copy_20 (fun _ H locs _ hW => ?_)
      have hW : gW g A s.heap H _ [(a1, gI g 41 (nK N)), (a2, gI g 41 (nU N)), (az, gI g 325 Z), (ap, gI g 1300 P), (mo, .inr (11, [.ref az, .ref ap, .int (iI 4), .ref ak, .int (iI ik), .ref ax, .int (iI ty), .int (iI 0), .ref a1, .ref a2, .int (iI (nN N)), .ref a3, .int (iI (nP N)), .ref a4, .ref a5, .ref a6, .ref v1, .ref v2, .ref v3, .ref v4, .ref v5, .ref v6, .int (iI bn), .int (iI (nWh N)), .int (iI (nD N)), .int (iI (nG N))]))] := hW
      refine W.eq (g2 := F0 m 23 ls [.int (iI 1)]) rfl ?_
      refine q_if_ne (tgt := 28) S0 (by omega) dX11_copy_23 (by decide) (fun c23 => ?_) (fun c23 => ?_)
      · skip
        refine lv_aload_n S0.1 S0.2.1 dX11_copy_28 rfl (lv_at hl 0 rfl) ?_
        refine lv_iload_n S0.1 S0.2.1 dX11_copy_29 rfl (lv_at hl 2 rfl) ?_
        refine q_cV (n := 1) (rest := []) (wr := [(ap, gI g 1300 P)]) S0 hK hA hW (c_X11_takes l g mo az ap ak ax a1 a2 a3 a4 a5 a6 v1 v2 v3 v4 v5 v6 4 ik ty 0 bn N Z w (by omega) (by omega)) gX11_copy_X11_takes rfl rfl rfl (by decide +kernel) ⟨Nat.le_of_ble_eq_true rfl, Nat.le_of_ble_eq_true rfl⟩ [4, 0, 1, 2] [3] rfl rfl rfl rfl (by decide) (q_recv hK hW.1 (ci := 11) (q0 := 4) rfl rfl) (fun _ _ => trivial) (trivial) rfl rfl hl.1 (Nat.le_of_ble_eq_true rfl) ⟨Nat.le_of_ble_eq_true rfl, Nat.le_of_ble_eq_true rfl⟩ dX11_copy_30 (fun _ H locs _ hW => ?_)
        have hW : gW g A s.heap H _ [(ap, gI g 1300 P), (mo, .inr (11, [.ref az, .ref ap, .int (iI 4), .ref ak, .int (iI ik), .ref ax, .int (iI ty), .int (iI 0), .ref a1, .ref a2, .int (iI (nN (mTake N Z w))), .ref a3, .int (iI (nP (mTake N Z w))), .ref a4, .ref a5, .ref a6, .ref v1, .ref v2, .ref v3, .ref v4, .ref v5, .ref v6, .int (iI bn), .int (iI (nWh (mTake N Z w))), .int (iI (nD (mTake N Z w))), .int (iI (nG (mTake N Z w)))])), (a1, gI g 41 (nK (mTake N Z w))), (a2, gI g 41 (nU (mTake N Z w))), (az, gI g 325 Z)] := hW
        refine W.eq (g2 := F0 m 33 ls []) rfl ?_
        refine lv_aload_n S0.1 S0.2.1 dX11_copy_33 rfl (lv_at hl 0 rfl) ?_
        refine lv_aload_n S0.1 S0.2.1 dX11_copy_34 rfl (lv_at hl 0 rfl) ?_
        have hle := mLe_rng hZ hs
        refine q_pV (n := 0) (rest := [.ref mo]) S0 hK (c_X11_least l g mo az ap ak ax a1 a2 a3 a4 a5 a6 v1 v2 v3 v4 v5 v6 4 ik ty 0 bn (mTake N Z w) (hZ) (hs)) (subP hW.1 [1, 2, 3] rfl) (trivial) gX11_copy_X11_least rfl rfl rfl (by decide +kernel) ⟨Nat.le_of_ble_eq_true rfl, Nat.le_of_ble_eq_true rfl⟩ (q_recv hK hW.1 (ci := 11) (q0 := 1) rfl rfl) rfl rfl hl.1 (Nat.le_of_ble_eq_true rfl) ⟨Nat.le_of_ble_eq_true rfl, Nat.le_of_ble_eq_true rfl⟩ dX11_copy_35 ?_
        refine W.eq (g2 := F0 m 38 ls [.int (iI (mLe (mTake N Z w))), .ref mo]) rfl ?_
        refine lv_iload_n S0.1 S0.2.1 dX11_copy_38 rfl (lv_at hl 1 rfl) ?_
        refine q_icmp_gt (tgt := 46) S0 (by omega) dX11_copy_39 (by decide) (fun c39 => ?_) (fun c39 => ?_)
        · skip
          exact absurd c39 (by omega)
        · skip
          refine q_iconst S0 dX11_copy_42 ?_
          refine lv_goto (tgt := 47) S0.1 S0.2.1 dX11_copy_43 (by decide) ?_
          refine q_iconst S0 dX11_copy_47 ?_
          refine q_cV (n := 2) (rest := []) (wr := [(ap, gI g 1300 P), (a1, gI g 41 (nK (mTake N Z w))), (a2, gI g 41 (nU (mTake N Z w))), (az, gI g 325 Z)]) S0 hK hA hW (c_X11_asksThen0 l g mo az ap ak ax a1 a2 a3 a4 a5 a6 v1 v2 v3 v4 v5 v6 4 ik ty 0 (nN (mTake N Z w)) (nP (mTake N Z w)) bn (nWh (mTake N Z w)) (nD (mTake N Z w)) (nG (mTake N Z w)) True 2 (rfl) (trivial)) gX11_copy_X11_asksThen rfl rfl rfl (by decide +kernel) ⟨Nat.le_of_ble_eq_true rfl, Nat.le_of_ble_eq_true rfl⟩ [1] [0, 2, 3, 4] rfl rfl rfl rfl (by decide) (q_recv hK hW.1 (ci := 11) (q0 := 1) rfl rfl) (fun _ _ => trivial) (trivial) rfl rfl hl.1 (Nat.le_of_ble_eq_true rfl) ⟨Nat.le_of_ble_eq_true rfl, Nat.le_of_ble_eq_true rfl⟩ dX11_copy_48 (fun _ H locs _ hW => ?_)
          have hW : gW g A s.heap H _ [(ap, gI g 1300 P), (a1, gI g 41 (nK (mTake N Z w))), (a2, gI g 41 (nU (mTake N Z w))), (az, gI g 325 Z), (mo, .inr (11, [.ref az, .ref ap, .int (iI 4), .ref ak, .int (iI ik), .ref ax, .int (iI ty), .int (iI 0), .ref a1, .ref a2, .int (iI (nN (mTake N Z w))), .ref a3, .int (iI (nP (mTake N Z w))), .ref a4, .ref a5, .ref a6, .ref v1, .ref v2, .ref v3, .ref v4, .ref v5, .ref v6, .int (iI bn), .int (iI (nWh (mTake N Z w))), .int (iI (nD (mTake N Z w))), .int (iI (nG (mTake N Z w)))]))] := hW
          refine W.eq (g2 := F0 m 51 ls [.int (iI 1)]) rfl ?_
          refine q_if_ne (tgt := 56) S0 (by omega) dX11_copy_51 (by decide) (fun c51 => ?_) (fun c51 => ?_)
          · skip
            refine lv_aload_n S0.1 S0.2.1 dX11_copy_56 rfl (lv_at hl 0 rfl) ?_
            refine q_cV (n := 0) (rest := []) (wr := [(a1, gI g 41 (nK (mTake N Z w))), (a2, gI g 41 (nU (mTake N Z w)))]) S0 hK hA hW (c_X11_record4 l g mo az ap ak ax a1 a2 a3 a4 a5 a6 v1 v2 v3 v4 v5 v6 ik ty 0 (nN (mTake N Z w)) (nP (mTake N Z w)) bn (nWh (mTake N Z w)) (nD (mTake N Z w)) (nG (mTake N Z w)) Z P) gX11_copy_X11_record rfl rfl rfl (by decide +kernel) ⟨Nat.le_of_ble_eq_true rfl, Nat.le_of_ble_eq_true rfl⟩ [4, 3, 0] [1, 2] rfl rfl rfl rfl (by decide) (q_recv hK hW.1 (ci := 11) (q0 := 4) rfl rfl) (fun _ _ => trivial) (trivial) rfl rfl hl.1 (Nat.le_of_ble_eq_true rfl) ⟨Nat.le_of_ble_eq_true rfl, Nat.le_of_ble_eq_true rfl⟩ dX11_copy_57 (fun _ H locs _ hW => ?_)
            have hW : gW g A s.heap H _ [(a1, gI g 41 (nK (mTake N Z w))), (a2, gI g 41 (nU (mTake N Z w))), (mo, .inr (11, [.ref az, .ref ap, .int (iI (recN 4)), .ref ak, .int (iI ik), .ref ax, .int (iI ty), .int (iI 0), .ref a1, .ref a2, .int (iI (nN (mTake N Z w))), .ref a3, .int (iI (nP (mTake N Z w))), .ref a4, .ref a5, .ref a6, .ref v1, .ref v2, .ref v3, .ref v4, .ref v5, .ref v6, .int (iI bn), .int (iI (nWh (mTake N Z w))), .int (iI (nD (mTake N Z w))), .int (iI (nG (mTake N Z w)))])), (az, gI g 325 Z), (ap, gI g 1300 (recM 4 P Z))] := hW
            refine W.eq (g2 := F0 m 60 ls []) rfl ?_
            refine lv_aload_n S0.1 S0.2.1 dX11_copy_60 rfl (lv_at hl 0 rfl) ?_
            refine lv_iload_n S0.1 S0.2.1 dX11_copy_61 rfl (lv_at hl 1 rfl) ?_
            refine q_cV (n := 1) (rest := []) (wr := [(ap, gI g 1300 (recM 4 P Z))]) S0 hK hA hW (c_X11_gets l g mo az ap ak ax a1 a2 a3 a4 a5 a6 v1 v2 v3 v4 v5 v6 (recN 4) ik ty 0 bn (mTake N Z w) Z u (by omega) (hs)) gX11_copy_X11_gets rfl rfl rfl (by decide +kernel) ⟨Nat.le_of_ble_eq_true rfl, Nat.le_of_ble_eq_true rfl⟩ [2, 0, 1, 3] [4] rfl rfl rfl rfl (by decide) (q_recv hK hW.1 (ci := 11) (q0 := 2) rfl rfl) (fun _ _ => trivial) (trivial) rfl rfl hl.1 (Nat.le_of_ble_eq_true rfl) ⟨Nat.le_of_ble_eq_true rfl, Nat.le_of_ble_eq_true rfl⟩ dX11_copy_62 (fun _ H locs _ hW => ?_)
            have hW : gW g A s.heap H _ [(ap, gI g 1300 (recM 4 P Z)), (mo, .inr (11, [.ref az, .ref ap, .int (iI (recN 4)), .ref ak, .int (iI ik), .ref ax, .int (iI ty), .int (iI 0), .ref a1, .ref a2, .int (iI (nN (mTake N Z w))), .ref a3, .int (iI (nP (mTake N Z w))), .ref a4, .ref a5, .ref a6, .ref v1, .ref v2, .ref v3, .ref v4, .ref v5, .ref v6, .int (iI bn), .int (iI (nWh (mTake N Z w))), .int (iI (nD (mTake N Z w))), .int (iI (nG (mTake N Z w)))])), (a1, gI g 41 (nK (mTake N Z w))), (a2, gI g 41 (nU (mTake N Z w))), (az, gI g 325 (gzs (mTake N Z w) Z u 40))] := hW
            refine W.eq (g2 := F0 m 65 ls [.int (iI (nN (mTake N Z w)))]) rfl ?_
            exact q_iret S0 hr hlocks () (trivial) (rfl) (hW.sub [1, 2, 3, 4, 0] rfl (rfl)) (Nat.le_of_ble_eq_true rfl) (Nat.le_of_ble_eq_true rfl) dX11_copy_65
          · skip
            exact absurd c51 (by omega)
      · skip
        exact absurd c23 (by omega)
set_option maxHeartbeats 4000000 in
set_option maxRecDepth 100000 in
theorem c_X11_copy03 (l : Launch) (g : GG) (mo az ap ak ax a1 a2 a3 a4 a5 a6 v1 v2 v3 v4 v5 v6 : Nat) (pm ik ty th bn : Int) (N : NT) (Z P : Nat → Int) (u w : Int) (hu : 0 ≤ u ∧ u < 4) (hw : 0 ≤ w ∧ w < 4) (hs : 0 ≤ Z (1 + 81 * w).toNat ∧ Z (1 + 81 * w).toNat ≤ 40) (hZ : WZ (mTake N Z w)) (hv : mLe (mTake N Z w) ≤ u) (hp : 0 ≤ pm ∧ pm < 4) : qMet l yX11_copy wsX11_copy ({ frames := 2, cells := 0, slots := 0, locals := 44 }) g [.ref mo, .int (iI u), .int (iI w)] [(mo, .inr (11, [.ref az, .ref ap, .int (iI pm), .ref ak, .int (iI ik), .ref ax, .int (iI ty), .int (iI th), .ref a1, .ref a2, .int (iI (nN N)), .ref a3, .int (iI (nP N)), .ref a4, .ref a5, .ref a6, .ref v1, .ref v2, .ref v3, .ref v4, .ref v5, .ref v6, .int (iI bn), .int (iI (nWh N)), .int (iI (nD N)), .int (iI (nG N))])), (a1, gI g 41 (nK N)), (a2, gI g 41 (nU N)), (az, gI g 325 Z), (ap, gI g 1300 P)] (fun _ => True) (fun _ => True) (S := Unit) (fun _ => some (.int (iI (nN (mTake N Z w))))) (fun _ => [(mo, .inr (11, [.ref az, .ref ap, .int (iI (recN pm)), .ref ak, .int (iI ik), .ref ax, .int (iI ty), .int (iI 0), .ref a1, .ref a2, .int (iI (nN (mTake N Z w))), .ref a3, .int (iI (nP (mTake N Z w))), .ref a4, .ref a5, .ref a6, .ref v1, .ref v2, .ref v3, .ref v4, .ref v5, .ref v6, .int (iI bn), .int (iI (nWh (mTake N Z w))), .int (iI (nD (mTake N Z w))), .int (iI (nG (mTake N Z w)))])), (a1, gI g 41 (nK (mTake N Z w))), (a2, gI g 41 (nU (mTake N Z w))), (az, gI g 325 (gzs (mTake N Z w) Z u 40)), (ap, gI g 1300 (recM pm P Z))]) (fun _ => True) 0 0 := by
  refine q_ofW (cc := cX11_copy) (maxL := 3) (ret := (some .int)) (fun sz h => h.self) (by decide) rfl (Nat.le_of_ble_eq_true rfl) ?_
  intro p e s m args below meth c A ls S0 hr hlocks hnme hK hA hAe hW hD0 hX hl
  have hW : gW g A s.heap s.heap [] [(mo, .inr (11, [.ref az, .ref ap, .int (iI pm), .ref ak, .int (iI ik), .ref ax, .int (iI ty), .int (iI th), .ref a1, .ref a2, .int (iI (nN N)), .ref a3, .int (iI (nP N)), .ref a4, .ref a5, .ref a6, .ref v1, .ref v2, .ref v3, .ref v4, .ref v5, .ref v6, .int (iI bn), .int (iI (nWh N)), .int (iI (nD N)), .int (iI (nG N))])), (a1, gI g 41 (nK N)), (a2, gI g 41 (nU N)), (az, gI g 325 Z), (ap, gI g 1300 P)] := hW
  have hl : lv_has ls 3 [(0, .ref mo), (1, .int (iI u)), (2, .int (iI w))] := hl
  refine lv_aload_n S0.1 S0.2.1 dX11_copy_0 rfl (lv_at hl 0 rfl) ?_
  refine lv_iload_n S0.1 S0.2.1 dX11_copy_1 rfl (lv_at hl 1 rfl) ?_
  refine q_pS (n := 1) (rest := [.ref mo]) S0 hK (c_X11_isFunction l g u (by omega)) (subP hW.1 [] rfl) (trivial) gX11_copy_X11_isFunction rfl rfl rfl (by decide +kernel) ⟨Nat.le_of_ble_eq_true rfl, Nat.le_of_ble_eq_true rfl⟩ rfl rfl hl.1 (Nat.le_of_ble_eq_true rfl) ⟨Nat.le_of_ble_eq_true rfl, Nat.le_of_ble_eq_true rfl⟩ dX11_copy_2 ?_
  refine W.eq (g2 := F0 m 5 ls [.int (iI (if 0 ≤ u ∧ u ≤ 3 then (1 : Int) else 0)), .ref mo]) rfl ?_
  refine q_if_eqP (tgt := 19) S0 dX11_copy_5 (by decide) (fun c5 => ?_) (fun c5 => ?_)
  · skip
    exact absurd c5 (by omega)
  · skip
    refine lv_iload_n S0.1 S0.2.1 dX11_copy_8 rfl (lv_at hl 2 rfl) ?_
    refine q_pS (n := 1) (rest := [.ref mo]) S0 hK (c_X11_isFunction l g w (by omega)) (subP hW.1 [] rfl) (trivial) gX11_copy_X11_isFunction rfl rfl rfl (by decide +kernel) ⟨Nat.le_of_ble_eq_true rfl, Nat.le_of_ble_eq_true rfl⟩ rfl rfl hl.1 (Nat.le_of_ble_eq_true rfl) ⟨Nat.le_of_ble_eq_true rfl, Nat.le_of_ble_eq_true rfl⟩ dX11_copy_9 ?_
    refine W.eq (g2 := F0 m 12 ls [.int (iI (if 0 ≤ w ∧ w ≤ 3 then (1 : Int) else 0)), .ref mo]) rfl ?_
    refine q_if_eqP (tgt := 19) S0 dX11_copy_12 (by decide) (fun c12 => ?_) (fun c12 => ?_)
    · skip
      exact absurd c12 (by omega)
    · skip
      refine q_iconst S0 dX11_copy_15 ?_
      refine lv_goto (tgt := 20) S0.1 S0.2.1 dX11_copy_16 (by decide) ?_
      refine q_cV (n := 1) (rest := []) (wr := [(a1, gI g 41 (nK N)), (a2, gI g 41 (nU N)), (az, gI g 325 Z), (ap, gI g 1300 P)]) S0 hK hA hW (c_X11_asksT l g mo az ap ak ax a1 a2 a3 a4 a5 a6 v1 v2 v3 v4 v5 v6 pm ik ty th (nN N) (nP N) bn (nWh N) (nD N) (nG N)) gX11_copy_X11_asks rfl rfl rfl (by decide +kernel) ⟨Nat.le_of_ble_eq_true rfl, Nat.le_of_ble_eq_true rfl⟩ [0] [1, 2, 3, 4] rfl rfl rfl rfl (by decide) (q_recv hK hW.1 (ci := 11) (q0 := 0) rfl rfl) (fun _ _ => trivial) (trivial) rfl rfl hl.1 (Nat.le_of_ble_eq_true rfl) ⟨Nat.le_of_ble_eq_true rfl, Nat.le_of_ble_eq_true rfl⟩ dX11_copy_20 (fun _ H locs _ hW => ?_)
      have hW : gW g A s.heap H _ [(a1, gI g 41 (nK N)), (a2, gI g 41 (nU N)), (az, gI g 325 Z), (ap, gI g 1300 P), (mo, .inr (11, [.ref az, .ref ap, .int (iI pm), .ref ak, .int (iI ik), .ref ax, .int (iI ty), .int (iI 0), .ref a1, .ref a2, .int (iI (nN N)), .ref a3, .int (iI (nP N)), .ref a4, .ref a5, .ref a6, .ref v1, .ref v2, .ref v3, .ref v4, .ref v5, .ref v6, .int (iI bn), .int (iI (nWh N)), .int (iI (nD N)), .int (iI (nG N))]))] := hW
      refine W.eq (g2 := F0 m 23 ls [.int (iI 1)]) rfl ?_
      refine q_if_ne (tgt := 28) S0 (by omega) dX11_copy_23 (by decide) (fun c23 => ?_) (fun c23 => ?_)
      · skip
        refine lv_aload_n S0.1 S0.2.1 dX11_copy_28 rfl (lv_at hl 0 rfl) ?_
        refine lv_iload_n S0.1 S0.2.1 dX11_copy_29 rfl (lv_at hl 2 rfl) ?_
        refine q_cV (n := 1) (rest := []) (wr := [(ap, gI g 1300 P)]) S0 hK hA hW (c_X11_takes l g mo az ap ak ax a1 a2 a3 a4 a5 a6 v1 v2 v3 v4 v5 v6 pm ik ty 0 bn N Z w (by omega) (by omega)) gX11_copy_X11_takes rfl rfl rfl (by decide +kernel) ⟨Nat.le_of_ble_eq_true rfl, Nat.le_of_ble_eq_true rfl⟩ [4, 0, 1, 2] [3] rfl rfl rfl rfl (by decide) (q_recv hK hW.1 (ci := 11) (q0 := 4) rfl rfl) (fun _ _ => trivial) (trivial) rfl rfl hl.1 (Nat.le_of_ble_eq_true rfl) ⟨Nat.le_of_ble_eq_true rfl, Nat.le_of_ble_eq_true rfl⟩ dX11_copy_30 (fun _ H locs _ hW => ?_)
        have hW : gW g A s.heap H _ [(ap, gI g 1300 P), (mo, .inr (11, [.ref az, .ref ap, .int (iI pm), .ref ak, .int (iI ik), .ref ax, .int (iI ty), .int (iI 0), .ref a1, .ref a2, .int (iI (nN (mTake N Z w))), .ref a3, .int (iI (nP (mTake N Z w))), .ref a4, .ref a5, .ref a6, .ref v1, .ref v2, .ref v3, .ref v4, .ref v5, .ref v6, .int (iI bn), .int (iI (nWh (mTake N Z w))), .int (iI (nD (mTake N Z w))), .int (iI (nG (mTake N Z w)))])), (a1, gI g 41 (nK (mTake N Z w))), (a2, gI g 41 (nU (mTake N Z w))), (az, gI g 325 Z)] := hW
        refine W.eq (g2 := F0 m 33 ls []) rfl ?_
        refine lv_aload_n S0.1 S0.2.1 dX11_copy_33 rfl (lv_at hl 0 rfl) ?_
        refine lv_aload_n S0.1 S0.2.1 dX11_copy_34 rfl (lv_at hl 0 rfl) ?_
        have hle := mLe_rng hZ hs
        refine q_pV (n := 0) (rest := [.ref mo]) S0 hK (c_X11_least l g mo az ap ak ax a1 a2 a3 a4 a5 a6 v1 v2 v3 v4 v5 v6 pm ik ty 0 bn (mTake N Z w) (hZ) (hs)) (subP hW.1 [1, 2, 3] rfl) (trivial) gX11_copy_X11_least rfl rfl rfl (by decide +kernel) ⟨Nat.le_of_ble_eq_true rfl, Nat.le_of_ble_eq_true rfl⟩ (q_recv hK hW.1 (ci := 11) (q0 := 1) rfl rfl) rfl rfl hl.1 (Nat.le_of_ble_eq_true rfl) ⟨Nat.le_of_ble_eq_true rfl, Nat.le_of_ble_eq_true rfl⟩ dX11_copy_35 ?_
        refine W.eq (g2 := F0 m 38 ls [.int (iI (mLe (mTake N Z w))), .ref mo]) rfl ?_
        refine lv_iload_n S0.1 S0.2.1 dX11_copy_38 rfl (lv_at hl 1 rfl) ?_
        refine q_icmp_gt (tgt := 46) S0 (by omega) dX11_copy_39 (by decide) (fun c39 => ?_) (fun c39 => ?_)
        · skip
          exact absurd c39 (by omega)
        · skip
          refine q_iconst S0 dX11_copy_42 ?_
          refine lv_goto (tgt := 47) S0.1 S0.2.1 dX11_copy_43 (by decide) ?_
          refine q_iconst S0 dX11_copy_47 ?_
          refine q_cV (n := 2) (rest := []) (wr := [(ap, gI g 1300 P), (a1, gI g 41 (nK (mTake N Z w))), (a2, gI g 41 (nU (mTake N Z w))), (az, gI g 325 Z)]) S0 hK hA hW (c_X11_asksThen0 l g mo az ap ak ax a1 a2 a3 a4 a5 a6 v1 v2 v3 v4 v5 v6 pm ik ty 0 (nN (mTake N Z w)) (nP (mTake N Z w)) bn (nWh (mTake N Z w)) (nD (mTake N Z w)) (nG (mTake N Z w)) True 2 (rfl) (trivial)) gX11_copy_X11_asksThen rfl rfl rfl (by decide +kernel) ⟨Nat.le_of_ble_eq_true rfl, Nat.le_of_ble_eq_true rfl⟩ [1] [0, 2, 3, 4] rfl rfl rfl rfl (by decide) (q_recv hK hW.1 (ci := 11) (q0 := 1) rfl rfl) (fun _ _ => trivial) (trivial) rfl rfl hl.1 (Nat.le_of_ble_eq_true rfl) ⟨Nat.le_of_ble_eq_true rfl, Nat.le_of_ble_eq_true rfl⟩ dX11_copy_48 (fun _ H locs _ hW => ?_)
          have hW : gW g A s.heap H _ [(ap, gI g 1300 P), (a1, gI g 41 (nK (mTake N Z w))), (a2, gI g 41 (nU (mTake N Z w))), (az, gI g 325 Z), (mo, .inr (11, [.ref az, .ref ap, .int (iI pm), .ref ak, .int (iI ik), .ref ax, .int (iI ty), .int (iI 0), .ref a1, .ref a2, .int (iI (nN (mTake N Z w))), .ref a3, .int (iI (nP (mTake N Z w))), .ref a4, .ref a5, .ref a6, .ref v1, .ref v2, .ref v3, .ref v4, .ref v5, .ref v6, .int (iI bn), .int (iI (nWh (mTake N Z w))), .int (iI (nD (mTake N Z w))), .int (iI (nG (mTake N Z w)))]))] := hW
          refine W.eq (g2 := F0 m 51 ls [.int (iI 1)]) rfl ?_
          refine q_if_ne (tgt := 56) S0 (by omega) dX11_copy_51 (by decide) (fun c51 => ?_) (fun c51 => ?_)
          · skip
            refine lv_aload_n S0.1 S0.2.1 dX11_copy_56 rfl (lv_at hl 0 rfl) ?_
            refine q_cV (n := 0) (rest := []) (wr := [(a1, gI g 41 (nK (mTake N Z w))), (a2, gI g 41 (nU (mTake N Z w)))]) S0 hK hA hW (c_X11_record3 l g mo az ap ak ax a1 a2 a3 a4 a5 a6 v1 v2 v3 v4 v5 v6 pm ik ty 0 (nN (mTake N Z w)) (nP (mTake N Z w)) bn (nWh (mTake N Z w)) (nD (mTake N Z w)) (nG (mTake N Z w)) Z P (by omega)) gX11_copy_X11_record rfl rfl rfl (by decide +kernel) ⟨Nat.le_of_ble_eq_true rfl, Nat.le_of_ble_eq_true rfl⟩ [4, 3, 0] [1, 2] rfl rfl rfl rfl (by decide) (q_recv hK hW.1 (ci := 11) (q0 := 4) rfl rfl) (fun _ _ => trivial) (trivial) rfl rfl hl.1 (Nat.le_of_ble_eq_true rfl) ⟨Nat.le_of_ble_eq_true rfl, Nat.le_of_ble_eq_true rfl⟩ dX11_copy_57 (fun _ H locs _ hW => ?_)
            have hW : gW g A s.heap H _ [(a1, gI g 41 (nK (mTake N Z w))), (a2, gI g 41 (nU (mTake N Z w))), (mo, .inr (11, [.ref az, .ref ap, .int (iI (recN pm)), .ref ak, .int (iI ik), .ref ax, .int (iI ty), .int (iI 0), .ref a1, .ref a2, .int (iI (nN (mTake N Z w))), .ref a3, .int (iI (nP (mTake N Z w))), .ref a4, .ref a5, .ref a6, .ref v1, .ref v2, .ref v3, .ref v4, .ref v5, .ref v6, .int (iI bn), .int (iI (nWh (mTake N Z w))), .int (iI (nD (mTake N Z w))), .int (iI (nG (mTake N Z w)))])), (az, gI g 325 Z), (ap, gI g 1300 (recM pm P Z))] := hW
            refine W.eq (g2 := F0 m 60 ls []) rfl ?_
            refine lv_aload_n S0.1 S0.2.1 dX11_copy_60 rfl (lv_at hl 0 rfl) ?_
            refine lv_iload_n S0.1 S0.2.1 dX11_copy_61 rfl (lv_at hl 1 rfl) ?_
            refine q_cV (n := 1) (rest := []) (wr := [(ap, gI g 1300 (recM pm P Z))]) S0 hK hA hW (c_X11_gets l g mo az ap ak ax a1 a2 a3 a4 a5 a6 v1 v2 v3 v4 v5 v6 (recN pm) ik ty 0 bn (mTake N Z w) Z u (by omega) (hs)) gX11_copy_X11_gets rfl rfl rfl (by decide +kernel) ⟨Nat.le_of_ble_eq_true rfl, Nat.le_of_ble_eq_true rfl⟩ [2, 0, 1, 3] [4] rfl rfl rfl rfl (by decide) (q_recv hK hW.1 (ci := 11) (q0 := 2) rfl rfl) (fun _ _ => trivial) (trivial) rfl rfl hl.1 (Nat.le_of_ble_eq_true rfl) ⟨Nat.le_of_ble_eq_true rfl, Nat.le_of_ble_eq_true rfl⟩ dX11_copy_62 (fun _ H locs _ hW => ?_)
            have hW : gW g A s.heap H _ [(ap, gI g 1300 (recM pm P Z)), (mo, .inr (11, [.ref az, .ref ap, .int (iI (recN pm)), .ref ak, .int (iI ik), .ref ax, .int (iI ty), .int (iI 0), .ref a1, .ref a2, .int (iI (nN (mTake N Z w))), .ref a3, .int (iI (nP (mTake N Z w))), .ref a4, .ref a5, .ref a6, .ref v1, .ref v2, .ref v3, .ref v4, .ref v5, .ref v6, .int (iI bn), .int (iI (nWh (mTake N Z w))), .int (iI (nD (mTake N Z w))), .int (iI (nG (mTake N Z w)))])), (a1, gI g 41 (nK (mTake N Z w))), (a2, gI g 41 (nU (mTake N Z w))), (az, gI g 325 (gzs (mTake N Z w) Z u 40))] := hW
            refine W.eq (g2 := F0 m 65 ls [.int (iI (nN (mTake N Z w)))]) rfl ?_
            exact q_iret S0 hr hlocks () (trivial) (rfl) (hW.sub [1, 2, 3, 4, 0] rfl (rfl)) (Nat.le_of_ble_eq_true rfl) (Nat.le_of_ble_eq_true rfl) dX11_copy_65
          · skip
            exact absurd c51 (by omega)
      · skip
        exact absurd c23 (by omega)
