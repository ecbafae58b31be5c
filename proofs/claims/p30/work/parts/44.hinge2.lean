set_option maxHeartbeats 4000000 in
set_option maxRecDepth 100000 in
theorem c_X5_feed (l : Launch) (g : GG) (F : FT) (d : Nat) (rk t0 q0 t1 q1 t2 q2 t3 q3 t4 q4 t5 q5 : Nat) (r : RT) (u x sx : Int) (IH : HSLP l g F d) (hud : u ≤ d) (hG : GF F) (hI : RI F r) (hu : 0 ≤ u ∧ u < 4) (hx : 0 ≤ x ∧ x < fP F) (hsx : 0 ≤ sx ∧ sx < fP F) : qMet l yX5_feed wsX5_feed ({ frames := 3 * d + 17, cells := 0, slots := 0, locals := 90 * d + 460 }) g [.ref rk, .int (iI u), .int (iI x), .int (iI sx)] [(rk, .inr (5, [.ref t0, .ref t1, .ref t2, .ref t3, .ref t4, .ref t5, .ref (fS F)])), (t0, .inr (8, [.int (iI 199), .ref q0])), (q0, gI g 796 (rV r)), (t1, .inr (8, [.int (iI 199), .ref q1])), (q1, gI g 796 (rH r)), (t2, .inr (8, [.int (iI 199), .ref q2])), (q2, gI g 796 (rR r)), (t3, .inr (8, [.int (iI 40), .ref q3])), (q3, gI g 160 (nV r)), (t4, .inr (8, [.int (iI 40), .ref q4])), (q4, gI g 160 (nS r)), (t5, .inr (8, [.int (iI 40), .ref q5])), (q5, gI g 160 (nW r))] (fun q => ¬ fzA F q) (FX g F) (S := RT) (fun u_ => some (.int (iI (hf (fP F) (fE F) u.toNat x sx)))) (fun u_ => [(rk, .inr (5, [.ref t0, .ref t1, .ref t2, .ref t3, .ref t4, .ref t5, .ref (fS F)])), (t0, .inr (8, [.int (iI 199), .ref q0])), (q0, gI g 796 (rV u_)), (t1, .inr (8, [.int (iI 199), .ref q1])), (q1, gI g 796 (rH u_)), (t2, .inr (8, [.int (iI 199), .ref q2])), (q2, gI g 796 (rR u_)), (t3, .inr (8, [.int (iI 40), .ref q3])), (q3, gI g 160 (nV u_)), (t4, .inr (8, [.int (iI 40), .ref q4])), (q4, gI g 160 (nS u_)), (t5, .inr (8, [.int (iI 40), .ref q5])), (q5, gI g 160 (nW u_))]) (fun u_ => RI F u_ ∧ KP u r u_ ∧ (¬ hf (fP F) (fE F) u.toNat x sx = -1 → VI F u x (eN (fE F u.toNat)) u_)) 0 0 := by
  refine q_ofW (cc := cX5_feed) (maxL := 7) (ret := (some .int)) (fun sz h => h.self) (by decide) rfl (Nat.le_of_ble_eq_true rfl) ?_
  intro p e s m args below meth c A ls S0 hr hlocks hnme hK hA hAe hW hD0 hX hl
  have hW : gW g A s.heap s.heap [] [(rk, .inr (5, [.ref t0, .ref t1, .ref t2, .ref t3, .ref t4, .ref t5, .ref (fS F)])), (t0, .inr (8, [.int (iI 199), .ref q0])), (q0, gI g 796 (rV r)), (t1, .inr (8, [.int (iI 199), .ref q1])), (q1, gI g 796 (rH r)), (t2, .inr (8, [.int (iI 199), .ref q2])), (q2, gI g 796 (rR r)), (t3, .inr (8, [.int (iI 40), .ref q3])), (q3, gI g 160 (nV r)), (t4, .inr (8, [.int (iI 40), .ref q4])), (q4, gI g 160 (nS r)), (t5, .inr (8, [.int (iI 40), .ref q5])), (q5, gI g 160 (nW r))] := hW
  have hl : lv_has ls 7 [(0, .ref rk), (1, .int (iI u)), (2, .int (iI x)), (3, .int (iI sx))] := hl
  have hinX5 : ∀ w ∈ wsX50, w ∈ wsX5_feed := fun w h => List.mem_cons_of_mem _ (List.mem_append_left _ (List.mem_append_left _ (List.mem_append_left _ (List.mem_append_left _ (List.mem_append_right _ h)))))
  have hpr := GF_p hG
  have hO := fz_out hX hD0 hAe
  have hfz : ∀ (H : Heap) (locs : List Loc) (ws : va_W), gW g A s.heap H locs ws → FX g F H := fun H locs ws h => fz_stay hX hO h
  have hnn := (hG.2 u.toNat (by omega)).1
  refine lv_aload_n S0.1 S0.2.1 dX5_feed_0 rfl (lv_at hl 0 rfl) ?_
  refine q_get (C := RX5) (T := TX5) (N := 7) S0 hK hW.1 hinX5 0 rfl rfl 6 (by decide) (List.mem_of_getElem? (i := 1) rfl) rfl rfl dX5_feed_1 ?_
  refine lv_iload_n S0.1 S0.2.1 dX5_feed_4 rfl (lv_at hl 1 rfl) ?_
  refine q_pV (n := 1) (rest := []) S0 hK (c_X7_exprOf l g (fS F) (fR F) (fX F) u (by omega)) (subP ((hfz _ _ _ hW)).1 [0] rfl) (trivial) gX5_feed_X7_expressionOf rfl rfl rfl (by decide +kernel) ⟨by dsimp only; omega, by dsimp only; omega⟩ (q_recv hK ((hfz _ _ _ hW)).1 (ci := 7) (q0 := 0) rfl rfl) rfl rfl hl.1 (Nat.le_of_ble_eq_true rfl) ⟨Nat.le_of_ble_eq_true rfl, Nat.le_of_ble_eq_true rfl⟩ dX5_feed_5 ?_
  refine W.eq (g2 := F0 m 8 ls [.ref (fX F u.toNat)]) rfl ?_
  refine lv_astore (lv' := [(4, .ref (fX F u.toNat)), (0, .ref rk), (1, .int (iI u)), (2, .int (iI x)), (3, .int (iI sx))]) S0.1 S0.2.1 dX5_feed_8 hl (by decide) rfl (fun ls hl => ?_)
  refine q_iconst S0 dX5_feed_10 ?_
  refine lv_istore (lv' := [(5, .int (iI ((-1)))), (4, .ref (fX F u.toNat)), (0, .ref rk), (1, .int (iI u)), (2, .int (iI x)), (3, .int (iI sx))]) S0.1 S0.2.1 dX5_feed_11 hl (by decide) rfl (fun ls hl => ?_)
  refine q_iconst S0 dX5_feed_13 ?_
  refine lv_istore (lv' := [(6, .int (iI 0)), (5, .int (iI ((-1)))), (4, .ref (fX F u.toNat)), (0, .ref rk), (1, .int (iI u)), (2, .int (iI x)), (3, .int (iI sx))]) S0.1 S0.2.1 dX5_feed_14 hl (by decide) rfl (fun ls hl => ?_)
  refine q_loop (α := Int × Int × RT) (fun (z_ : Int × Int × RT) => match z_ with | (i, fo, r1) => RI F r1 ∧ KP u r r1 ∧ VI F u x i r1 ∧ SI F u x sx i r1 ∧ (0 ≤ i ∧ i ≤ eN (fE F u.toNat)) ∧ (-1 ≤ fo ∧ fo < fP F) ∧ (0 < i → fo = row (nS r1) u (i - 1).toNat)) (fun (z_ : Int × Int × RT) => match z_ with | (i, fo, r1) => (eN (fE F u.toNat) - i).toNat) (fun (z_ : Int × Int × RT) => match z_ with | (i, fo, r1) => [(rk, .inr (5, [.ref t0, .ref t1, .ref t2, .ref t3, .ref t4, .ref t5, .ref (fS F)])), (t0, .inr (8, [.int (iI 199), .ref q0])), (q0, gI g 796 (rV r1)), (t1, .inr (8, [.int (iI 199), .ref q1])), (q1, gI g 796 (rH r1)), (t2, .inr (8, [.int (iI 199), .ref q2])), (q2, gI g 796 (rR r1)), (t3, .inr (8, [.int (iI 40), .ref q3])), (q3, gI g 160 (nV r1)), (t4, .inr (8, [.int (iI 40), .ref q4])), (q4, gI g 160 (nS r1)), (t5, .inr (8, [.int (iI 40), .ref q5])), (q5, gI g 160 (nW r1))]) (fun (z_ : Int × Int × RT) => match z_ with | (i, fo, r1) => [(6, .int (iI i)), (5, .int (iI fo)), (4, .ref (fX F u.toNat)), (0, .ref rk), (1, .int (iI u)), (2, .int (iI x)), (3, .int (iI sx))]) ?_ (0, (-1), r) (by exact ⟨hI, KP_rfl, VI_0, SI_0, by omega, by omega, fun h => absurd h (by omega)⟩) hW (lv_sub hl [0, 1, 2, 3, 4, 5, 6] rfl)
  rintro ⟨i, fo, r1⟩ hinv IHl H locs ls hW hl
  try dsimp only at hinv
  have hW : gW g A s.heap H _ [(rk, .inr (5, [.ref t0, .ref t1, .ref t2, .ref t3, .ref t4, .ref t5, .ref (fS F)])), (t0, .inr (8, [.int (iI 199), .ref q0])), (q0, gI g 796 (rV r1)), (t1, .inr (8, [.int (iI 199), .ref q1])), (q1, gI g 796 (rH r1)), (t2, .inr (8, [.int (iI 199), .ref q2])), (q2, gI g 796 (rR r1)), (t3, .inr (8, [.int (iI 40), .ref q3])), (q3, gI g 160 (nV r1)), (t4, .inr (8, [.int (iI 40), .ref q4])), (q4, gI g 160 (nS r1)), (t5, .inr (8, [.int (iI 40), .ref q5])), (q5, gI g 160 (nW r1))] := hW
  have hl : lv_has ls 7 [(6, .int (iI i)), (5, .int (iI fo)), (4, .ref (fX F u.toNat)), (0, .ref rk), (1, .int (iI u)), (2, .int (iI x)), (3, .int (iI sx))] := hl
  obtain ⟨hI1, hKP, hVI, hSI, hi, hfo, hfo2⟩ := hinv
  refine lv_iload S0.1 S0.2.1 dX5_feed_16 (lv_at hl 0 rfl) ?_
  refine lv_aload S0.1 S0.2.1 dX5_feed_18 (lv_at hl 2 rfl) ?_
  refine q_pV (n := 0) (rest := [.int (iI i)]) S0 hK (c_X1_size l g (fX F u.toNat) (fK F u.toNat 1) (fK F u.toNat 2) (fK F u.toNat 3) (fK F u.toNat 4) (fD F u.toNat) (fU F u.toNat) (fL F u.toNat) (eN (fE F u.toNat)) (eK (fE F u.toNat)) (by omega)) (subP (((hfz _ _ _ hW)).2 u.toNat (by omega)) [0, 1] rfl) (trivial) gX5_feed_X1_size rfl rfl rfl (by decide +kernel) ⟨by dsimp only; omega, by dsimp only; omega⟩ (q_recv hK (((hfz _ _ _ hW)).2 u.toNat (by omega)) (ci := 1) (q0 := 0) rfl rfl) rfl rfl hl.1 (Nat.le_of_ble_eq_true rfl) ⟨Nat.le_of_ble_eq_true rfl, Nat.le_of_ble_eq_true rfl⟩ dX5_feed_20 ?_
  refine W.eq (g2 := F0 m 23 ls [.int (iI (((eN (fE F u.toNat)) : Int))), .int (iI i)]) rfl ?_
  refine q_icmp_ge (tgt := 85) S0 (by omega) dX5_feed_23 (by decide) (fun c23 => ?_) (fun c23 => ?_)
  · skip
    refine lv_iload S0.1 S0.2.1 dX5_feed_85 (lv_at hl 1 rfl) ?_
    exact q_iret S0 hr hlocks r1 (⟨hI1, hKP, fun _ => by rw [show ((eN (fE F u.toNat) : Nat) : Int) = i by omega]; exact hVI⟩) (by rw [SI_end hG hu (by omega) hVI hSI, hfo2 (by omega)]) (hW.sub [0, 1, 2, 3, 4, 5, 6, 7, 8, 9, 10, 11, 12] rfl (rfl)) (Nat.le_of_ble_eq_true rfl) (Nat.le_of_ble_eq_true rfl) dX5_feed_87
  · skip
    refine lv_aload S0.1 S0.2.1 dX5_feed_26 (lv_at hl 2 rfl) ?_
    refine lv_iload S0.1 S0.2.1 dX5_feed_28 (lv_at hl 0 rfl) ?_
    refine q_pV (n := 1) (rest := []) S0 hK (c_X1_kindI l g (fX F u.toNat) (fK F u.toNat 1) (fK F u.toNat 2) (fK F u.toNat 3) (fK F u.toNat 4) (fD F u.toNat) (fU F u.toNat) (fL F u.toNat) (eN (fE F u.toNat)) (eK (fE F u.toNat)) i (by omega) (by omega)) (subP (((hfz _ _ _ hW)).2 u.toNat (by omega)) [0, 1] rfl) (trivial) gX5_feed_X1_kind rfl rfl rfl (by decide +kernel) ⟨by dsimp only; omega, by dsimp only; omega⟩ (q_recv hK (((hfz _ _ _ hW)).2 u.toNat (by omega)) (ci := 1) (q0 := 0) rfl rfl) rfl rfl hl.1 (Nat.le_of_ble_eq_true rfl) ⟨Nat.le_of_ble_eq_true rfl, Nat.le_of_ble_eq_true rfl⟩ dX5_feed_30 ?_
    refine W.eq (g2 := F0 m 33 ls [.int (iI ((eK (fE F u.toNat)) i.toNat))]) rfl ?_
    have hKd := WFK_K ((hG.2 u.toNat (by omega)).2.1 i.toNat (by omega))
    refine q_bipush S0 (by decide) dX5_feed_33 ?_
    refine q_icmp_ne (tgt := 48) S0 (by omega) dX5_feed_35 (by decide) (fun c35 => ?_) (fun c35 => ?_)
    · skip
      refine lv_aload_n S0.1 S0.2.1 dX5_feed_48 rfl (lv_at hl 3 rfl) ?_
      refine lv_iload_n S0.1 S0.2.1 dX5_feed_49 rfl (lv_at hl 4 rfl) ?_
      refine lv_iload S0.1 S0.2.1 dX5_feed_50 (lv_at hl 0 rfl) ?_
      refine lv_iload_n S0.1 S0.2.1 dX5_feed_52 rfl (lv_at hl 5 rfl) ?_
      refine lv_iload_n S0.1 S0.2.1 dX5_feed_53 rfl (lv_at hl 6 rfl) ?_
      refine q_cV (n := 4) (rest := []) (wr := []) S0 hK hA hW (c_X5_hingeOfNode l g F rk t0 q0 t1 q1 t2 q2 t3 q3 t4 q4 t5 q5 r1 u i x sx (hG) (hu) (by omega) (hx) (VI_rng hG hu hx (by omega) hVI) (SI_rng hG hsx hSI) (hsx) (c35)) gX5_feed_X5_hingeOfNode rfl rfl rfl (by decide +kernel) ⟨by dsimp only; omega, by dsimp only; omega⟩ [0, 1, 2, 3, 4, 5, 6, 7, 8, 9, 10, 11, 12] [] rfl rfl rfl rfl (by decide) (q_recv hK hW.1 (ci := 5) (q0 := 0) rfl rfl) (hO) (hfz _ _ _ hW) rfl rfl hl.1 (Nat.le_of_ble_eq_true rfl) ⟨Nat.le_of_ble_eq_true rfl, Nat.le_of_ble_eq_true rfl⟩ dX5_feed_54 (fun _ H locs _ hW => ?_)
      have hW : gW g A s.heap H _ [(rk, .inr (5, [.ref t0, .ref t1, .ref t2, .ref t3, .ref t4, .ref t5, .ref (fS F)])), (t0, .inr (8, [.int (iI 199), .ref q0])), (q0, gI g 796 (rV ((hnr F r1 u i x)))), (t1, .inr (8, [.int (iI 199), .ref q1])), (q1, gI g 796 (rH ((hnr F r1 u i x)))), (t2, .inr (8, [.int (iI 199), .ref q2])), (q2, gI g 796 (rR ((hnr F r1 u i x)))), (t3, .inr (8, [.int (iI 40), .ref q3])), (q3, gI g 160 (nV ((hnr F r1 u i x)))), (t4, .inr (8, [.int (iI 40), .ref q4])), (q4, gI g 160 (nS ((hnr F r1 u i x)))), (t5, .inr (8, [.int (iI 40), .ref q5])), (q5, gI g 160 (nW ((hnr F r1 u i x))))] := hW
      refine W.eq (g2 := F0 m 57 ls [.int (iI (hnv F r1 u i x sx))]) rfl ?_
      refine q_nm (fun v9 hv9 => ?_)
      obtain ⟨r2, er2⟩ : ∃ z, z = hnr F r1 u i x := ⟨_, rfl⟩
      rw [← er2] at hW
      have hFD : FD F u x sx i r1 r2 v9 := by rw [er2, hv9]; exact FD_node hG hu (by omega) hsx hVI hSI c35
      have hI2 : RI F r2 := by rw [er2]; unfold hnr; split; exact hI1; exact hI1
      have hKP2 : KP u r r2 := by rw [er2]; unfold hnr; split; exact hKP; exact KP_set (by omega) (by omega) r1 hKP ⟨_, Or.inl rfl⟩ ⟨0, Or.inr rfl⟩ ⟨0, Or.inr rfl⟩
      have hvr := hFD.2.2.2
      have hsS := hFD.2.2.1
      refine lv_istore (lv' := [(5, .int (iI v9)), (6, .int (iI i)), (4, .ref (fX F u.toNat)), (0, .ref rk), (1, .int (iI u)), (2, .int (iI x)), (3, .int (iI sx))]) S0.1 S0.2.1 dX5_feed_57 hl (by decide) rfl (fun ls hl => ?_)
      refine lv_iload S0.1 S0.2.1 dX5_feed_59 (lv_at hl 0 rfl) ?_
      refine q_iconst S0 dX5_feed_61 ?_
      refine q_icmp_ne (tgt := 67) S0 (by omega) dX5_feed_62 (by decide) (fun c62 => ?_) (fun c62 => ?_)
      · skip
        refine lv_aload_n S0.1 S0.2.1 dX5_feed_67 rfl (lv_at hl 3 rfl) ?_
        refine q_get (C := RX5) (T := TX5) (N := 7) S0 hK hW.1 hinX5 0 rfl rfl 4 (by decide) (List.mem_of_getElem? (i := 2) rfl) rfl rfl dX5_feed_68 ?_
        refine lv_iload_n S0.1 S0.2.1 dX5_feed_71 rfl (lv_at hl 4 rfl) ?_
        refine lv_iload S0.1 S0.2.1 dX5_feed_72 (lv_at hl 1 rfl) ?_
        refine lv_iload S0.1 S0.2.1 dX5_feed_74 (lv_at hl 0 rfl) ?_
        refine q_cV (n := 3) (rest := []) (wr := [(rk, .inr (5, [.ref t0, .ref t1, .ref t2, .ref t3, .ref t4, .ref t5, .ref (fS F)])), (t0, .inr (8, [.int (iI 199), .ref q0])), (q0, gI g 796 (rV (r2))), (t1, .inr (8, [.int (iI 199), .ref q1])), (q1, gI g 796 (rH (r2))), (t2, .inr (8, [.int (iI 199), .ref q2])), (q2, gI g 796 (rR (r2))), (t3, .inr (8, [.int (iI 40), .ref q3])), (q3, gI g 160 (nV (r2))), (t5, .inr (8, [.int (iI 40), .ref q5])), (q5, gI g 160 (nW (r2)))]) S0 hK hA hW (c_X8_set40 l g t4 q4 (nS (r2)) u i v9 (by omega) (by omega)) gX5_feed_X8_set rfl rfl rfl (by decide +kernel) ⟨by dsimp only; omega, by dsimp only; omega⟩ [9, 10] [0, 1, 2, 3, 4, 5, 6, 7, 8, 11, 12] rfl rfl rfl rfl (by decide) (q_recv hK hW.1 (ci := 8) (q0 := 9) rfl rfl) (fun _ _ => trivial) (trivial) rfl rfl hl.1 (Nat.le_of_ble_eq_true rfl) ⟨Nat.le_of_ble_eq_true rfl, Nat.le_of_ble_eq_true rfl⟩ dX5_feed_76 (fun _ H locs _ hW => ?_)
        have hW : gW g A s.heap H _ [(rk, .inr (5, [.ref t0, .ref t1, .ref t2, .ref t3, .ref t4, .ref t5, .ref (fS F)])), (t0, .inr (8, [.int (iI 199), .ref q0])), (q0, gI g 796 (rV (r2))), (t1, .inr (8, [.int (iI 199), .ref q1])), (q1, gI g 796 (rH (r2))), (t2, .inr (8, [.int (iI 199), .ref q2])), (q2, gI g 796 (rR (r2))), (t3, .inr (8, [.int (iI 40), .ref q3])), (q3, gI g 160 (nV (r2))), (t5, .inr (8, [.int (iI 40), .ref q5])), (q5, gI g 160 (nW (r2))), (t4, .inr (8, [.int (iI 40), .ref q4])), (q4, gI g 160 (up (nS (r2)) (u * 40 + i).toNat v9))] := hW
        refine W.eq (g2 := F0 m 79 ls []) rfl ?_
        refine q_iinc (lv' := [(6, .int (iI (i + 1))), (5, .int (iI v9)), (4, .ref (fX F u.toNat)), (0, .ref rk), (1, .int (iI u)), (2, .int (iI x)), (3, .int (iI sx))]) S0 dX5_feed_79 hl (k := 1) rfl (by decide) rfl (fun ls hl => ?_)
        refine lv_goto (tgt := 16) S0.1 S0.2.1 dX5_feed_82 (by decide) ?_
        obtain ⟨w9, ew1, ew2, ew3, ew4⟩ := hFD.2.1 c62
        exact IHl (i + 1, v9, mkR (rV (r2)) (rH (r2)) (rR (r2)) (nV (r2)) (up (nS (r2)) (u * 40 + i).toNat v9) (nW (r2))) H locs ls (by exact ⟨RI_nodes hI2 _ _ _, KP_set (by omega) (by omega) r2 hKP2 ⟨0, Or.inr rfl⟩ ⟨v9, Or.inl rfl⟩ ⟨0, Or.inr rfl⟩, VI_nx (by omega) hVI ew1 ew2 ew3, SI_nx (by omega) hSI ew4 (fun j hj => by show row (up (nS r2) (u * 40 + i).toNat v9) u j = _; rw [row_up (by omega) (by omega), hsS j]), by omega, by omega, fun _ => by show v9 = row (up (nS r2) (u * 40 + i).toNat v9) u (i + 1 - 1).toNat; rw [row_up (by omega) (by omega), if_pos (by omega)]⟩) (by (try dsimp only); omega) (hW.sub [0, 1, 2, 3, 4, 5, 6, 7, 8, 11, 12, 9, 10] rfl rfl) (lv_sub hl [0, 1, 2, 3, 4, 5, 6] rfl)
      · skip
        refine q_iconst S0 dX5_feed_65 ?_
        exact q_iret S0 hr hlocks (mkR (rV (r2)) (rH (r2)) (rR (r2)) (nV (r2)) (nS (r2)) (nW (r2))) (⟨hI2, hKP2, fun h => absurd (SI_bad hG hu (by omega) (hFD.1 c62)) h⟩) (by rw [SI_bad hG hu (by omega) (hFD.1 c62)]) (hW.sub [0, 1, 2, 3, 4, 5, 6, 7, 8, 9, 10, 11, 12] rfl (rfl)) (Nat.le_of_ble_eq_true rfl) (Nat.le_of_ble_eq_true rfl) dX5_feed_66
    · skip
      refine lv_aload_n S0.1 S0.2.1 dX5_feed_38 rfl (lv_at hl 3 rfl) ?_
      refine lv_iload_n S0.1 S0.2.1 dX5_feed_39 rfl (lv_at hl 4 rfl) ?_
      refine lv_iload S0.1 S0.2.1 dX5_feed_40 (lv_at hl 0 rfl) ?_
      refine q_cV (n := 2) (rest := []) (wr := []) S0 hK hA hW (c_X5_hingeOfCall l g F d rk t0 q0 t1 q1 t2 q2 t3 q3 t4 q4 t5 q5 r1 u i (IH) (hud) (hG) (hI1) (hu) (by omega) (c35) (VI_rng hG hu hx (by omega) hVI) (SI_rng hG hsx hSI)) gX5_feed_X5_hingeOfCall rfl rfl rfl (by decide +kernel) ⟨by dsimp only; omega, by dsimp only; omega⟩ [0, 1, 2, 3, 4, 5, 6, 7, 8, 9, 10, 11, 12] [] rfl rfl rfl rfl (by decide) (q_recv hK hW.1 (ci := 5) (q0 := 0) rfl rfl) (hO) (hfz _ _ _ hW) rfl rfl hl.1 (Nat.le_of_ble_eq_true rfl) ⟨Nat.le_of_ble_eq_true rfl, Nat.le_of_ble_eq_true rfl⟩ dX5_feed_42 ?_
      rintro r2 H locs hp hW
      try dsimp only at hp
      have hW : gW g A s.heap H _ [(rk, .inr (5, [.ref t0, .ref t1, .ref t2, .ref t3, .ref t4, .ref t5, .ref (fS F)])), (t0, .inr (8, [.int (iI 199), .ref q0])), (q0, gI g 796 (rV r2)), (t1, .inr (8, [.int (iI 199), .ref q1])), (q1, gI g 796 (rH r2)), (t2, .inr (8, [.int (iI 199), .ref q2])), (q2, gI g 796 (rR r2)), (t3, .inr (8, [.int (iI 40), .ref q3])), (q3, gI g 160 (nV r2)), (t4, .inr (8, [.int (iI 40), .ref q4])), (q4, gI g 160 (nS r2)), (t5, .inr (8, [.int (iI 40), .ref q5])), (q5, gI g 160 (nW r2))] := hW
      refine W.eq (g2 := F0 m 45 ls [.int (iI (if hh (fP F) (fE F) (eU (fE F u.toNat) i.toNat).toNat (gv (row (nV r1) u) (eL (fE F u.toNat) i.toNat)) = -1 then (-1 : Int) else hh (fP F) (fE F) (eU (fE F u.toNat) i.toNat).toNat (gv (row (nV r1) u) (eL (fE F u.toNat) i.toNat)) * gv (row (nS r1) u) (eL (fE F u.toNat) i.toNat) % fP F))]) rfl ?_
      refine q_nm (fun v9 hv9 => ?_)
      have hFD : FD F u x sx i r1 r2 v9 := FD_call hG hu (by omega) hx hVI hSI c35 hv9 hp.2
      have hI2 := hp.1
      have hKP2 : KP u r r2 := fun j hj => ⟨by rw [(hp.2 j (by omega)).1]; split; exact (hKP j hj).1; rw [up_n (by omega)]; exact (hKP j hj).1, (hp.2 j (by omega)).2.1.trans (hKP j hj).2.1, (hp.2 j (by omega)).2.2.trans (hKP j hj).2.2⟩
      have hvr := hFD.2.2.2
      have hsS := hFD.2.2.1
      refine lv_goto (tgt := 57) S0.1 S0.2.1 dX5_feed_45 (by decide) ?_
      refine lv_istore (lv' := [(5, .int (iI v9)), (6, .int (iI i)), (4, .ref (fX F u.toNat)), (0, .ref rk), (1, .int (iI u)), (2, .int (iI x)), (3, .int (iI sx))]) S0.1 S0.2.1 dX5_feed_57 hl (by decide) rfl (fun ls hl => ?_)
      refine lv_iload S0.1 S0.2.1 dX5_feed_59 (lv_at hl 0 rfl) ?_
      refine q_iconst S0 dX5_feed_61 ?_
      refine q_icmp_ne (tgt := 67) S0 (by omega) dX5_feed_62 (by decide) (fun c62 => ?_) (fun c62 => ?_)
      · skip
        refine lv_aload_n S0.1 S0.2.1 dX5_feed_67 rfl (lv_at hl 3 rfl) ?_
        refine q_get (C := RX5) (T := TX5) (N := 7) S0 hK hW.1 hinX5 0 rfl rfl 4 (by decide) (List.mem_of_getElem? (i := 2) rfl) rfl rfl dX5_feed_68 ?_
        refine lv_iload_n S0.1 S0.2.1 dX5_feed_71 rfl (lv_at hl 4 rfl) ?_
        refine lv_iload S0.1 S0.2.1 dX5_feed_72 (lv_at hl 1 rfl) ?_
        refine lv_iload S0.1 S0.2.1 dX5_feed_74 (lv_at hl 0 rfl) ?_
        refine q_cV (n := 3) (rest := []) (wr := [(rk, .inr (5, [.ref t0, .ref t1, .ref t2, .ref t3, .ref t4, .ref t5, .ref (fS F)])), (t0, .inr (8, [.int (iI 199), .ref q0])), (q0, gI g 796 (rV r2)), (t1, .inr (8, [.int (iI 199), .ref q1])), (q1, gI g 796 (rH r2)), (t2, .inr (8, [.int (iI 199), .ref q2])), (q2, gI g 796 (rR r2)), (t3, .inr (8, [.int (iI 40), .ref q3])), (q3, gI g 160 (nV r2)), (t5, .inr (8, [.int (iI 40), .ref q5])), (q5, gI g 160 (nW r2))]) S0 hK hA hW (c_X8_set40 l g t4 q4 (nS r2) u i v9 (by omega) (by omega)) gX5_feed_X8_set rfl rfl rfl (by decide +kernel) ⟨by dsimp only; omega, by dsimp only; omega⟩ [9, 10] [0, 1, 2, 3, 4, 5, 6, 7, 8, 11, 12] rfl rfl rfl rfl (by decide) (q_recv hK hW.1 (ci := 8) (q0 := 9) rfl rfl) (fun _ _ => trivial) (trivial) rfl rfl hl.1 (Nat.le_of_ble_eq_true rfl) ⟨Nat.le_of_ble_eq_true rfl, Nat.le_of_ble_eq_true rfl⟩ dX5_feed_76 (fun _ H locs _ hW => ?_)
        have hW : gW g A s.heap H _ [(rk, .inr (5, [.ref t0, .ref t1, .ref t2, .ref t3, .ref t4, .ref t5, .ref (fS F)])), (t0, .inr (8, [.int (iI 199), .ref q0])), (q0, gI g 796 (rV r2)), (t1, .inr (8, [.int (iI 199), .ref q1])), (q1, gI g 796 (rH r2)), (t2, .inr (8, [.int (iI 199), .ref q2])), (q2, gI g 796 (rR r2)), (t3, .inr (8, [.int (iI 40), .ref q3])), (q3, gI g 160 (nV r2)), (t5, .inr (8, [.int (iI 40), .ref q5])), (q5, gI g 160 (nW r2)), (t4, .inr (8, [.int (iI 40), .ref q4])), (q4, gI g 160 (up (nS r2) (u * 40 + i).toNat v9))] := hW
        refine W.eq (g2 := F0 m 79 ls []) rfl ?_
        refine q_iinc (lv' := [(6, .int (iI (i + 1))), (5, .int (iI v9)), (4, .ref (fX F u.toNat)), (0, .ref rk), (1, .int (iI u)), (2, .int (iI x)), (3, .int (iI sx))]) S0 dX5_feed_79 hl (k := 1) rfl (by decide) rfl (fun ls hl => ?_)
        refine lv_goto (tgt := 16) S0.1 S0.2.1 dX5_feed_82 (by decide) ?_
        obtain ⟨w9, ew1, ew2, ew3, ew4⟩ := hFD.2.1 c62
        exact IHl (i + 1, v9, mkR (rV r2) (rH r2) (rR r2) (nV r2) (up (nS r2) (u * 40 + i).toNat v9) (nW r2)) H locs ls (by exact ⟨RI_nodes hI2 _ _ _, KP_set (by omega) (by omega) r2 hKP2 ⟨0, Or.inr rfl⟩ ⟨v9, Or.inl rfl⟩ ⟨0, Or.inr rfl⟩, VI_nx (by omega) hVI ew1 ew2 ew3, SI_nx (by omega) hSI ew4 (fun j hj => by show row (up (nS r2) (u * 40 + i).toNat v9) u j = _; rw [row_up (by omega) (by omega), hsS j]), by omega, by omega, fun _ => by show v9 = row (up (nS r2) (u * 40 + i).toNat v9) u (i + 1 - 1).toNat; rw [row_up (by omega) (by omega), if_pos (by omega)]⟩) (by (try dsimp only); omega) (hW.sub [0, 1, 2, 3, 4, 5, 6, 7, 8, 11, 12, 9, 10] rfl rfl) (lv_sub hl [0, 1, 2, 3, 4, 5, 6] rfl)
      · skip
        refine q_iconst S0 dX5_feed_65 ?_
        exact q_iret S0 hr hlocks r2 (⟨hI2, hKP2, fun h => absurd (SI_bad hG hu (by omega) (hFD.1 c62)) h⟩) (by rw [SI_bad hG hu (by omega) (hFD.1 c62)]) (hW.sub [0, 1, 2, 3, 4, 5, 6, 7, 8, 9, 10, 11, 12] rfl (rfl)) (Nat.le_of_ble_eq_true rfl) (Nat.le_of_ble_eq_true rfl) dX5_feed_66
set_option maxHeartbeats 4000000 in
set_option maxRecDepth 100000 in
theorem c_X5_hingeSlope (l : Launch) (g : GG) (F : FT) (d : Nat) (rk t0 q0 t1 q1 t2 q2 t3 q3 t4 q4 t5 q5 : Nat) (r : RT) (u x : Int) (IH : HSLP l g F d) (hud : u ≤ d) (hG : GF F) (hI : RI F r) (hu : 0 ≤ u ∧ u < 4) (hx : 0 ≤ x ∧ x < fP F) : qMet l yX5_hingeSlope wsX5_hingeSlope ({ frames := 3 * d + 18, cells := 0, slots := 0, locals := 90 * d + 490 }) g [.ref rk, .int (iI u), .int (iI x)] [(rk, .inr (5, [.ref t0, .ref t1, .ref t2, .ref t3, .ref t4, .ref t5, .ref (fS F)])), (t0, .inr (8, [.int (iI 199), .ref q0])), (q0, gI g 796 (rV r)), (t1, .inr (8, [.int (iI 199), .ref q1])), (q1, gI g 796 (rH r)), (t2, .inr (8, [.int (iI 199), .ref q2])), (q2, gI g 796 (rR r)), (t3, .inr (8, [.int (iI 40), .ref q3])), (q3, gI g 160 (nV r)), (t4, .inr (8, [.int (iI 40), .ref q4])), (q4, gI g 160 (nS r)), (t5, .inr (8, [.int (iI 40), .ref q5])), (q5, gI g 160 (nW r))] (fun q => ¬ fzA F q) (FX g F) (S := RT) (fun u_ => some (.int (iI (hh (fP F) (fE F) u.toNat x)))) (fun u_ => [(rk, .inr (5, [.ref t0, .ref t1, .ref t2, .ref t3, .ref t4, .ref t5, .ref (fS F)])), (t0, .inr (8, [.int (iI 199), .ref q0])), (q0, gI g 796 (rV u_)), (t1, .inr (8, [.int (iI 199), .ref q1])), (q1, gI g 796 (rH u_)), (t2, .inr (8, [.int (iI 199), .ref q2])), (q2, gI g 796 (rR u_)), (t3, .inr (8, [.int (iI 40), .ref q3])), (q3, gI g 160 (nV u_)), (t4, .inr (8, [.int (iI 40), .ref q4])), (q4, gI g 160 (nS u_)), (t5, .inr (8, [.int (iI 40), .ref q5])), (q5, gI g 160 (nW u_))]) (fun u_ => RI F u_ ∧ KP u r u_ ∧ rV u_ (u * 199 + x).toNat = vv (fP F) (fE F) u.toNat x) 0 0 := by
  refine q_ofW (cc := cX5_hingeSlope) (maxL := 6) (ret := (some .int)) (fun sz h => h.self) (by decide) rfl (Nat.le_of_ble_eq_true rfl) ?_
  intro p e s m args below meth c A ls S0 hr hlocks hnme hK hA hAe hW hD0 hX hl
  have hW : gW g A s.heap s.heap [] [(rk, .inr (5, [.ref t0, .ref t1, .ref t2, .ref t3, .ref t4, .ref t5, .ref (fS F)])), (t0, .inr (8, [.int (iI 199), .ref q0])), (q0, gI g 796 (rV r)), (t1, .inr (8, [.int (iI 199), .ref q1])), (q1, gI g 796 (rH r)), (t2, .inr (8, [.int (iI 199), .ref q2])), (q2, gI g 796 (rR r)), (t3, .inr (8, [.int (iI 40), .ref q3])), (q3, gI g 160 (nV r)), (t4, .inr (8, [.int (iI 40), .ref q4])), (q4, gI g 160 (nS r)), (t5, .inr (8, [.int (iI 40), .ref q5])), (q5, gI g 160 (nW r))] := hW
  have hl : lv_has ls 6 [(0, .ref rk), (1, .int (iI u)), (2, .int (iI x))] := hl
  have hinX5 : ∀ w ∈ wsX50, w ∈ wsX5_hingeSlope := fun w h => List.mem_cons_of_mem _ (List.mem_append_left _ (List.mem_append_left _ (List.mem_append_left _ (List.mem_append_left _ (List.mem_append_right _ h)))))
  have hpr := GF_p hG
  have hO := fz_out hX hD0 hAe
  have hfz : ∀ (H : Heap) (locs : List Loc) (ws : va_W), gW g A s.heap H locs ws → FX g F H := fun H locs ws h => fz_stay hX hO h
  have hnn := (hG.2 u.toNat (by omega)).1
  have hR := hI u x hu.1 hu.2 hx.1 hx.2
  have hvr := GF_hh hG (f := u.toNat) (x := x) (by omega)
  refine lv_aload_n S0.1 S0.2.1 dX5_hingeSlope_0 rfl (lv_at hl 0 rfl) ?_
  refine q_get (C := RX5) (T := TX5) (N := 7) S0 hK hW.1 hinX5 0 rfl rfl 1 (by decide) (List.mem_of_getElem? (i := 1) rfl) rfl rfl dX5_hingeSlope_1 ?_
  refine lv_iload_n S0.1 S0.2.1 dX5_hingeSlope_4 rfl (lv_at hl 1 rfl) ?_
  refine lv_iload_n S0.1 S0.2.1 dX5_hingeSlope_5 rfl (lv_at hl 2 rfl) ?_
  refine q_pV (n := 2) (rest := []) S0 hK (c_X8_get199 l g t1 q1 (rH r) u x (by omega) (by omega)) (subP hW.1 [3, 4] rfl) (trivial) gX5_hingeSlope_X8_get rfl rfl rfl (by decide +kernel) ⟨by dsimp only; omega, by dsimp only; omega⟩ (q_recv hK hW.1 (ci := 8) (q0 := 3) rfl rfl) rfl rfl hl.1 (Nat.le_of_ble_eq_true rfl) ⟨Nat.le_of_ble_eq_true rfl, Nat.le_of_ble_eq_true rfl⟩ dX5_hingeSlope_6 ?_
  refine W.eq (g2 := F0 m 9 ls [.int (iI ((rH r) (u * 199 + x).toNat))]) rfl ?_
  refine q_nm (fun kn hkn => ?_)
  refine lv_istore_n (lv' := [(3, .int (iI kn)), (0, .ref rk), (1, .int (iI u)), (2, .int (iI x))]) S0.1 S0.2.1 dX5_hingeSlope_9 rfl hl (by decide) rfl (fun ls hl => ?_)
  refine lv_iload_n S0.1 S0.2.1 dX5_hingeSlope_10 rfl (lv_at hl 0 rfl) ?_
  refine q_bipush S0 (by decide) dX5_hingeSlope_11 ?_
  refine q_icmp_eq (tgt := 18) S0 (by rcases hR.2.1 with q | q <;> (first | omega | (rw [q.1] at hkn; omega) | (rw [q] at hkn; omega))) dX5_hingeSlope_13 (by decide) (fun c13 => ?_) (fun c13 => ?_)
  · skip
    refine lv_aload_n S0.1 S0.2.1 dX5_hingeSlope_18 rfl (lv_at hl 1 rfl) ?_
    refine lv_iload_n S0.1 S0.2.1 dX5_hingeSlope_19 rfl (lv_at hl 2 rfl) ?_
    refine lv_iload_n S0.1 S0.2.1 dX5_hingeSlope_20 rfl (lv_at hl 3 rfl) ?_
    refine q_iconst S0 dX5_hingeSlope_21 ?_
    refine q_cV (n := 3) (rest := []) (wr := []) S0 hK hA hW (c_X5_feed l g F d rk t0 q0 t1 q1 t2 q2 t3 q3 t4 q4 t5 q5 r u x 1 (IH) (hud) (hG) (hI) (hu) (hx) (by omega)) gX5_hingeSlope_X5_feed rfl rfl rfl (by decide +kernel) ⟨by dsimp only; omega, by dsimp only; omega⟩ [0, 1, 2, 3, 4, 5, 6, 7, 8, 9, 10, 11, 12] [] rfl rfl rfl rfl (by decide) (q_recv hK hW.1 (ci := 5) (q0 := 0) rfl rfl) (hO) (hfz _ _ _ hW) rfl rfl hl.1 (Nat.le_of_ble_eq_true rfl) ⟨Nat.le_of_ble_eq_true rfl, Nat.le_of_ble_eq_true rfl⟩ dX5_hingeSlope_22 ?_
    rintro r1 H locs hp hW
    try dsimp only at hp
    have hW : gW g A s.heap H _ [(rk, .inr (5, [.ref t0, .ref t1, .ref t2, .ref t3, .ref t4, .ref t5, .ref (fS F)])), (t0, .inr (8, [.int (iI 199), .ref q0])), (q0, gI g 796 (rV r1)), (t1, .inr (8, [.int (iI 199), .ref q1])), (q1, gI g 796 (rH r1)), (t2, .inr (8, [.int (iI 199), .ref q2])), (q2, gI g 796 (rR r1)), (t3, .inr (8, [.int (iI 40), .ref q3])), (q3, gI g 160 (nV r1)), (t4, .inr (8, [.int (iI 40), .ref q4])), (q4, gI g 160 (nS r1)), (t5, .inr (8, [.int (iI 40), .ref q5])), (q5, gI g 160 (nW r1))] := hW
    refine W.eq (g2 := F0 m 25 ls [.int (iI (hf (fP F) (fE F) u.toNat x 1))]) rfl ?_
    refine q_topI (b := hh (fP F) (fE F) u.toNat x) ((hh_eq (by omega) (hG.2 u.toNat (by omega)) x).symm) ?_
    have hI1 := hp.1
    have hKP := hp.2.1
    have hVI := hp.2.2
    rw [← hh_eq (by omega) (hG.2 u.toNat (by omega)) x] at hVI
    have hbi := hh_bad_iff hG (f := u.toNat) (by omega) hx
    refine lv_istore (lv' := [(4, .int (iI (hh (fP F) (fE F) u.toNat x))), (3, .int (iI kn)), (0, .ref rk), (1, .int (iI u)), (2, .int (iI x))]) S0.1 S0.2.1 dX5_hingeSlope_25 hl (by decide) rfl (fun ls hl => ?_)
    refine lv_aload_n S0.1 S0.2.1 dX5_hingeSlope_27 rfl (lv_at hl 2 rfl) ?_
    refine q_get (C := RX5) (T := TX5) (N := 7) S0 hK hW.1 hinX5 0 rfl rfl 6 (by decide) (List.mem_of_getElem? (i := 2) rfl) rfl rfl dX5_hingeSlope_28 ?_
    refine lv_iload_n S0.1 S0.2.1 dX5_hingeSlope_31 rfl (lv_at hl 3 rfl) ?_
    refine q_pV (n := 1) (rest := []) S0 hK (c_X7_exprOf l g (fS F) (fR F) (fX F) u (by omega)) (subP ((hfz _ _ _ hW)).1 [0] rfl) (trivial) gX5_hingeSlope_X7_expressionOf rfl rfl rfl (by decide +kernel) ⟨by dsimp only; omega, by dsimp only; omega⟩ (q_recv hK ((hfz _ _ _ hW)).1 (ci := 7) (q0 := 0) rfl rfl) rfl rfl hl.1 (Nat.le_of_ble_eq_true rfl) ⟨Nat.le_of_ble_eq_true rfl, Nat.le_of_ble_eq_true rfl⟩ dX5_hingeSlope_32 ?_
    refine W.eq (g2 := F0 m 35 ls [.ref (fX F u.toNat)]) rfl ?_
    refine q_pV (n := 0) (rest := []) S0 hK (c_X1_size l g (fX F u.toNat) (fK F u.toNat 1) (fK F u.toNat 2) (fK F u.toNat 3) (fK F u.toNat 4) (fD F u.toNat) (fU F u.toNat) (fL F u.toNat) (eN (fE F u.toNat)) (eK (fE F u.toNat)) (by omega)) (subP (((hfz _ _ _ hW)).2 u.toNat (by omega)) [0, 1] rfl) (trivial) gX5_hingeSlope_X1_size rfl rfl rfl (by decide +kernel) ⟨by dsimp only; omega, by dsimp only; omega⟩ (q_recv hK (((hfz _ _ _ hW)).2 u.toNat (by omega)) (ci := 1) (q0 := 0) rfl rfl) rfl rfl hl.1 (Nat.le_of_ble_eq_true rfl) ⟨Nat.le_of_ble_eq_true rfl, Nat.le_of_ble_eq_true rfl⟩ dX5_hingeSlope_35 ?_
    refine W.eq (g2 := F0 m 38 ls [.int (iI (((eN (fE F u.toNat)) : Int)))]) rfl ?_
    refine q_iconst S0 dX5_hingeSlope_38 ?_
    refine q_isub S0 dX5_hingeSlope_39 ?_
    refine lv_istore (lv' := [(5, .int (iI ((((eN (fE F u.toNat)) : Int)) - 1))), (4, .int (iI (hh (fP F) (fE F) u.toNat x))), (3, .int (iI kn)), (0, .ref rk), (1, .int (iI u)), (2, .int (iI x))]) S0.1 S0.2.1 dX5_hingeSlope_40 hl (by decide) rfl (fun ls hl => ?_)
    refine lv_aload_n S0.1 S0.2.1 dX5_hingeSlope_42 rfl (lv_at hl 3 rfl) ?_
    refine q_get (C := RX5) (T := TX5) (N := 7) S0 hK hW.1 hinX5 0 rfl rfl 0 (by decide) (List.mem_of_getElem? (i := 3) rfl) rfl rfl dX5_hingeSlope_43 ?_
    refine lv_iload_n S0.1 S0.2.1 dX5_hingeSlope_46 rfl (lv_at hl 4 rfl) ?_
    refine lv_iload_n S0.1 S0.2.1 dX5_hingeSlope_47 rfl (lv_at hl 5 rfl) ?_
    refine lv_iload S0.1 S0.2.1 dX5_hingeSlope_48 (lv_at hl 1 rfl) ?_
    refine q_iconst S0 dX5_hingeSlope_50 ?_
    refine q_icmp_ne (tgt := 58) S0 (by omega) dX5_hingeSlope_51 (by decide) (fun c51 => ?_) (fun c51 => ?_)
    · skip
      refine lv_aload_n S0.1 S0.2.1 dX5_hingeSlope_58 rfl (lv_at hl 3 rfl) ?_
      refine q_get (C := RX5) (T := TX5) (N := 7) S0 hK hW.1 hinX5 0 rfl rfl 3 (by decide) (List.mem_of_getElem? (i := 4) rfl) rfl rfl dX5_hingeSlope_59 ?_
      refine lv_iload_n S0.1 S0.2.1 dX5_hingeSlope_62 rfl (lv_at hl 4 rfl) ?_
      refine lv_iload S0.1 S0.2.1 dX5_hingeSlope_63 (lv_at hl 0 rfl) ?_
      refine q_pV (n := 2) (rest := [.int (iI x), .int (iI u), .ref t0]) S0 hK (c_X8_get40 l g t3 q3 (nV r1) u ((((eN (fE F u.toNat)) : Int)) - 1) (by omega) (by omega)) (subP hW.1 [7, 8] rfl) (trivial) gX5_hingeSlope_X8_get rfl rfl rfl (by decide +kernel) ⟨by dsimp only; omega, by dsimp only; omega⟩ (q_recv hK hW.1 (ci := 8) (q0 := 7) rfl rfl) rfl rfl hl.1 (Nat.le_of_ble_eq_true rfl) ⟨Nat.le_of_ble_eq_true rfl, Nat.le_of_ble_eq_true rfl⟩ dX5_hingeSlope_65 ?_
      refine W.eq (g2 := F0 m 68 ls [.int (iI (gv (row (nV r1) u) ((((eN (fE F u.toNat)) : Int)) - 1))), .int (iI x), .int (iI u), .ref t0]) rfl ?_
      refine q_topI (b := vv (fP F) (fE F) u.toNat x) (by rw [VI_end hG hu rfl (hVI c51), gv_of (by omega)]) ?_
      refine q_cV (n := 3) (rest := []) (wr := [(rk, .inr (5, [.ref t0, .ref t1, .ref t2, .ref t3, .ref t4, .ref t5, .ref (fS F)])), (t1, .inr (8, [.int (iI 199), .ref q1])), (q1, gI g 796 (rH r1)), (t2, .inr (8, [.int (iI 199), .ref q2])), (q2, gI g 796 (rR r1)), (t3, .inr (8, [.int (iI 40), .ref q3])), (q3, gI g 160 (nV r1)), (t4, .inr (8, [.int (iI 40), .ref q4])), (q4, gI g 160 (nS r1)), (t5, .inr (8, [.int (iI 40), .ref q5])), (q5, gI g 160 (nW r1))]) S0 hK hA hW (c_X8_set199 l g t0 q0 (rV r1) u x (vv (fP F) (fE F) u.toNat x) (by omega) (by omega)) gX5_hingeSlope_X8_set rfl rfl rfl (by decide +kernel) ⟨by dsimp only; omega, by dsimp only; omega⟩ [1, 2] [0, 3, 4, 5, 6, 7, 8, 9, 10, 11, 12] rfl rfl rfl rfl (by decide) (q_recv hK hW.1 (ci := 8) (q0 := 1) rfl rfl) (fun _ _ => trivial) (trivial) rfl rfl hl.1 (Nat.le_of_ble_eq_true rfl) ⟨Nat.le_of_ble_eq_true rfl, Nat.le_of_ble_eq_true rfl⟩ dX5_hingeSlope_68 (fun _ H locs _ hW => ?_)
      have hW : gW g A s.heap H _ [(rk, .inr (5, [.ref t0, .ref t1, .ref t2, .ref t3, .ref t4, .ref t5, .ref (fS F)])), (t1, .inr (8, [.int (iI 199), .ref q1])), (q1, gI g 796 (rH r1)), (t2, .inr (8, [.int (iI 199), .ref q2])), (q2, gI g 796 (rR r1)), (t3, .inr (8, [.int (iI 40), .ref q3])), (q3, gI g 160 (nV r1)), (t4, .inr (8, [.int (iI 40), .ref q4])), (q4, gI g 160 (nS r1)), (t5, .inr (8, [.int (iI 40), .ref q5])), (q5, gI g 160 (nW r1)), (t0, .inr (8, [.int (iI 199), .ref q0])), (q0, gI g 796 (up (rV r1) (u * 199 + x).toNat (vv (fP F) (fE F) u.toNat x)))] := hW
      refine W.eq (g2 := F0 m 71 ls []) rfl ?_
      refine lv_aload_n S0.1 S0.2.1 dX5_hingeSlope_71 rfl (lv_at hl 3 rfl) ?_
      refine q_get (C := RX5) (T := TX5) (N := 7) S0 hK hW.1 hinX5 0 rfl rfl 1 (by decide) (List.mem_of_getElem? (i := 1) rfl) rfl rfl dX5_hingeSlope_72 ?_
      refine lv_iload_n S0.1 S0.2.1 dX5_hingeSlope_75 rfl (lv_at hl 4 rfl) ?_
      refine lv_iload_n S0.1 S0.2.1 dX5_hingeSlope_76 rfl (lv_at hl 5 rfl) ?_
      refine lv_iload S0.1 S0.2.1 dX5_hingeSlope_77 (lv_at hl 1 rfl) ?_
      refine q_cV (n := 3) (rest := []) (wr := [(rk, .inr (5, [.ref t0, .ref t1, .ref t2, .ref t3, .ref t4, .ref t5, .ref (fS F)])), (t2, .inr (8, [.int (iI 199), .ref q2])), (q2, gI g 796 (rR r1)), (t3, .inr (8, [.int (iI 40), .ref q3])), (q3, gI g 160 (nV r1)), (t4, .inr (8, [.int (iI 40), .ref q4])), (q4, gI g 160 (nS r1)), (t5, .inr (8, [.int (iI 40), .ref q5])), (q5, gI g 160 (nW r1)), (t0, .inr (8, [.int (iI 199), .ref q0])), (q0, gI g 796 (up (rV r1) (u * 199 + x).toNat (vv (fP F) (fE F) u.toNat x)))]) S0 hK hA hW (c_X8_set199 l g t1 q1 (rH r1) u x (hh (fP F) (fE F) u.toNat x) (by omega) (by omega)) gX5_hingeSlope_X8_set rfl rfl rfl (by decide +kernel) ⟨by dsimp only; omega, by dsimp only; omega⟩ [1, 2] [0, 3, 4, 5, 6, 7, 8, 9, 10, 11, 12] rfl rfl rfl rfl (by decide) (q_recv hK hW.1 (ci := 8) (q0 := 1) rfl rfl) (fun _ _ => trivial) (trivial) rfl rfl hl.1 (Nat.le_of_ble_eq_true rfl) ⟨Nat.le_of_ble_eq_true rfl, Nat.le_of_ble_eq_true rfl⟩ dX5_hingeSlope_79 (fun _ H locs _ hW => ?_)
      have hW : gW g A s.heap H _ [(rk, .inr (5, [.ref t0, .ref t1, .ref t2, .ref t3, .ref t4, .ref t5, .ref (fS F)])), (t2, .inr (8, [.int (iI 199), .ref q2])), (q2, gI g 796 (rR r1)), (t3, .inr (8, [.int (iI 40), .ref q3])), (q3, gI g 160 (nV r1)), (t4, .inr (8, [.int (iI 40), .ref q4])), (q4, gI g 160 (nS r1)), (t5, .inr (8, [.int (iI 40), .ref q5])), (q5, gI g 160 (nW r1)), (t0, .inr (8, [.int (iI 199), .ref q0])), (q0, gI g 796 (up (rV r1) (u * 199 + x).toNat (vv (fP F) (fE F) u.toNat x))), (t1, .inr (8, [.int (iI 199), .ref q1])), (q1, gI g 796 (up (rH r1) (u * 199 + x).toNat (hh (fP F) (fE F) u.toNat x)))] := hW
      refine W.eq (g2 := F0 m 82 ls []) rfl ?_
      refine lv_iload S0.1 S0.2.1 dX5_hingeSlope_82 (lv_at hl 1 rfl) ?_
      exact q_iret S0 hr hlocks (mkR (up (rV r1) (u * 199 + x).toNat (vv (fP F) (fE F) u.toNat x)) (up (rH r1) (u * 199 + x).toNat (hh (fP F) (fE F) u.toNat x)) (rR r1) (nV r1) (nS r1) (nW r1)) (⟨RI_setH hpr.2 hI1 hu hx, hKP, up_s⟩) (rfl) (hW.sub [0, 9, 10, 11, 12, 1, 2, 3, 4, 5, 6, 7, 8] rfl (rfl)) (Nat.le_of_ble_eq_true rfl) (Nat.le_of_ble_eq_true rfl) dX5_hingeSlope_84
    · skip
      refine q_iconst S0 dX5_hingeSlope_54 ?_
      refine q_topI (b := vv (fP F) (fE F) u.toNat x) ((hbi.mp c51).symm) ?_
      refine lv_goto (tgt := 68) S0.1 S0.2.1 dX5_hingeSlope_55 (by decide) ?_
      refine q_cV (n := 3) (rest := []) (wr := [(rk, .inr (5, [.ref t0, .ref t1, .ref t2, .ref t3, .ref t4, .ref t5, .ref (fS F)])), (t1, .inr (8, [.int (iI 199), .ref q1])), (q1, gI g 796 (rH r1)), (t2, .inr (8, [.int (iI 199), .ref q2])), (q2, gI g 796 (rR r1)), (t3, .inr (8, [.int (iI 40), .ref q3])), (q3, gI g 160 (nV r1)), (t4, .inr (8, [.int (iI 40), .ref q4])), (q4, gI g 160 (nS r1)), (t5, .inr (8, [.int (iI 40), .ref q5])), (q5, gI g 160 (nW r1))]) S0 hK hA hW (c_X8_set199 l g t0 q0 (rV r1) u x (vv (fP F) (fE F) u.toNat x) (by omega) (by omega)) gX5_hingeSlope_X8_set rfl rfl rfl (by decide +kernel) ⟨by dsimp only; omega, by dsimp only; omega⟩ [1, 2] [0, 3, 4, 5, 6, 7, 8, 9, 10, 11, 12] rfl rfl rfl rfl (by decide) (q_recv hK hW.1 (ci := 8) (q0 := 1) rfl rfl) (fun _ _ => trivial) (trivial) rfl rfl hl.1 (Nat.le_of_ble_eq_true rfl) ⟨Nat.le_of_ble_eq_true rfl, Nat.le_of_ble_eq_true rfl⟩ dX5_hingeSlope_68 (fun _ H locs _ hW => ?_)
      have hW : gW g A s.heap H _ [(rk, .inr (5, [.ref t0, .ref t1, .ref t2, .ref t3, .ref t4, .ref t5, .ref (fS F)])), (t1, .inr (8, [.int (iI 199), .ref q1])), (q1, gI g 796 (rH r1)), (t2, .inr (8, [.int (iI 199), .ref q2])), (q2, gI g 796 (rR r1)), (t3, .inr (8, [.int (iI 40), .ref q3])), (q3, gI g 160 (nV r1)), (t4, .inr (8, [.int (iI 40), .ref q4])), (q4, gI g 160 (nS r1)), (t5, .inr (8, [.int (iI 40), .ref q5])), (q5, gI g 160 (nW r1)), (t0, .inr (8, [.int (iI 199), .ref q0])), (q0, gI g 796 (up (rV r1) (u * 199 + x).toNat (vv (fP F) (fE F) u.toNat x)))] := hW
      refine W.eq (g2 := F0 m 71 ls []) rfl ?_
      refine lv_aload_n S0.1 S0.2.1 dX5_hingeSlope_71 rfl (lv_at hl 3 rfl) ?_
      refine q_get (C := RX5) (T := TX5) (N := 7) S0 hK hW.1 hinX5 0 rfl rfl 1 (by decide) (List.mem_of_getElem? (i := 1) rfl) rfl rfl dX5_hingeSlope_72 ?_
      refine lv_iload_n S0.1 S0.2.1 dX5_hingeSlope_75 rfl (lv_at hl 4 rfl) ?_
      refine lv_iload_n S0.1 S0.2.1 dX5_hingeSlope_76 rfl (lv_at hl 5 rfl) ?_
      refine lv_iload S0.1 S0.2.1 dX5_hingeSlope_77 (lv_at hl 1 rfl) ?_
      refine q_cV (n := 3) (rest := []) (wr := [(rk, .inr (5, [.ref t0, .ref t1, .ref t2, .ref t3, .ref t4, .ref t5, .ref (fS F)])), (t2, .inr (8, [.int (iI 199), .ref q2])), (q2, gI g 796 (rR r1)), (t3, .inr (8, [.int (iI 40), .ref q3])), (q3, gI g 160 (nV r1)), (t4, .inr (8, [.int (iI 40), .ref q4])), (q4, gI g 160 (nS r1)), (t5, .inr (8, [.int (iI 40), .ref q5])), (q5, gI g 160 (nW r1)), (t0, .inr (8, [.int (iI 199), .ref q0])), (q0, gI g 796 (up (rV r1) (u * 199 + x).toNat (vv (fP F) (fE F) u.toNat x)))]) S0 hK hA hW (c_X8_set199 l g t1 q1 (rH r1) u x (hh (fP F) (fE F) u.toNat x) (by omega) (by omega)) gX5_hingeSlope_X8_set rfl rfl rfl (by decide +kernel) ⟨by dsimp only; omega, by dsimp only; omega⟩ [1, 2] [0, 3, 4, 5, 6, 7, 8, 9, 10, 11, 12] rfl rfl rfl rfl (by decide) (q_recv hK hW.1 (ci := 8) (q0 := 1) rfl rfl) (fun _ _ => trivial) (trivial) rfl rfl hl.1 (Nat.le_of_ble_eq_true rfl) ⟨Nat.le_of_ble_eq_true rfl, Nat.le_of_ble_eq_true rfl⟩ dX5_hingeSlope_79 (fun _ H locs _ hW => ?_)
      have hW : gW g A s.heap H _ [(rk, .inr (5, [.ref t0, .ref t1, .ref t2, .ref t3, .ref t4, .ref t5, .ref (fS F)])), (t2, .inr (8, [.int (iI 199), .ref q2])), (q2, gI g 796 (rR r1)), (t3, .inr (8, [.int (iI 40), .ref q3])), (q3, gI g 160 (nV r1)), (t4, .inr (8, [.int (iI 40), .ref q4])), (q4, gI g 160 (nS r1)), (t5, .inr (8, [.int (iI 40), .ref q5])), (q5, gI g 160 (nW r1)), (t0, .inr (8, [.int (iI 199), .ref q0])), (q0, gI g 796 (up (rV r1) (u * 199 + x).toNat (vv (fP F) (fE F) u.toNat x))), (t1, .inr (8, [.int (iI 199), .ref q1])), (q1, gI g 796 (up (rH r1) (u * 199 + x).toNat (hh (fP F) (fE F) u.toNat x)))] := hW
      refine W.eq (g2 := F0 m 82 ls []) rfl ?_
      refine lv_iload S0.1 S0.2.1 dX5_hingeSlope_82 (lv_at hl 1 rfl) ?_
      exact q_iret S0 hr hlocks (mkR (up (rV r1) (u * 199 + x).toNat (vv (fP F) (fE F) u.toNat x)) (up (rH r1) (u * 199 + x).toNat (hh (fP F) (fE F) u.toNat x)) (rR r1) (nV r1) (nS r1) (nW r1)) (⟨RI_setH hpr.2 hI1 hu hx, hKP, up_s⟩) (rfl) (hW.sub [0, 9, 10, 11, 12, 1, 2, 3, 4, 5, 6, 7, 8] rfl (rfl)) (Nat.le_of_ble_eq_true rfl) (Nat.le_of_ble_eq_true rfl) dX5_hingeSlope_84
  · skip
    refine lv_iload_n S0.1 S0.2.1 dX5_hingeSlope_16 rfl (lv_at hl 0 rfl) ?_
    exact q_iret S0 hr hlocks r (⟨hI, KP_rfl, by rcases hR.2.1 with q | q; exact absurd (hkn.trans q) c13; exact q.2⟩) (by rcases hR.2.1 with q | q <;> (first | (exfalso; omega) | (rw [hkn, q.1]))) (hW.sub [0, 1, 2, 3, 4, 5, 6, 7, 8, 9, 10, 11, 12] rfl (rfl)) (Nat.le_of_ble_eq_true rfl) (Nat.le_of_ble_eq_true rfl) dX5_hingeSlope_17
theorem HSL_all (l : Launch) (g : GG) (F : FT) (hG : GF F) : ∀ d, HSLP l g F d
  | 0 => fun rk t0 q0 t1 q1 t2 q2 t3 q3 t4 q4 t5 q5 r u x h0 hd h4 hx hI => absurd hd (by omega)
  | d + 1 => fun rk t0 q0 t1 q1 t2 q2 t3 q3 t4 q4 t5 q5 r u x h0 hd h4 hx hI => c_X5_hingeSlope l g F d rk t0 q0 t1 q1 t2 q2 t3 q3 t4 q4 t5 q5 r u x (HSL_all l g F hG d) (by omega) hG hI ⟨h0, h4⟩ hx
