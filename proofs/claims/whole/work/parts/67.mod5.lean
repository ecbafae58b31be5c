set_option maxHeartbeats 4000000 in
set_option maxRecDepth 100000 in
theorem c_X11_isPrime (l : Launch) (g : GG) (v : Int) (hv : 2 ≤ v ∧ v ≤ 199) : qPure l yX11_isPrime wsX11_isPrime ({ frames := 0, cells := 0, slots := 0, locals := 0 }) g [.int (iI v)] [] (fun _ => True) (some (.int (iI (isp v (v - 2).toNat 2 1)))) := by
  refine q_ofP (cc := cX11_isPrime) (maxL := 3) (ret := (some .boolean)) (by decide) rfl (Nat.le_of_ble_eq_true rfl) ?_
  intro p e s m args below meth c ls S0 hr hlocks hK hP hX hl
  have hP : va_P g.1 vwCl [] s.heap := hP
  have hl : lv_has ls 3 [(0, .int (iI v))] := hl
  refine lv_iload_n S0.1 S0.2.1 dX11_isPrime_0 rfl (lv_at hl 0 rfl) ?_
  refine q_iconst S0 dX11_isPrime_1 ?_
  refine q_icmp_le (tgt := 9) S0 (by omega) dX11_isPrime_2 (by decide) (fun c2 => ?_) (fun c2 => ?_)
  · skip
    exact absurd c2 (by omega)
  · skip
    refine q_iconst S0 dX11_isPrime_5 ?_
    refine lv_goto (tgt := 10) S0.1 S0.2.1 dX11_isPrime_6 (by decide) ?_
    refine lv_istore_n (lv' := [(1, .int (iI 1)), (0, .int (iI v))]) S0.1 S0.2.1 dX11_isPrime_10 rfl hl (by decide) rfl (fun ls hl => ?_)
    refine q_iconst S0 dX11_isPrime_11 ?_
    refine lv_istore_n (lv' := [(2, .int (iI 2)), (1, .int (iI 1)), (0, .int (iI v))]) S0.1 S0.2.1 dX11_isPrime_12 rfl hl (by decide) rfl (fun ls hl => ?_)
    refine q_loopP (α := Int × Int) (fun (z_ : Int × Int) => match z_ with | (d9, b9) => (2 ≤ d9 ∧ d9 ≤ v) ∧ (b9 = 0 ∨ b9 = 1) ∧ isp v (v - d9).toNat d9 b9 = isp v (v - 2).toNat 2 1) (fun (z_ : Int × Int) => match z_ with | (d9, b9) => (v - d9).toNat) (fun (z_ : Int × Int) => match z_ with | (d9, b9) => [(2, .int (iI d9)), (1, .int (iI b9)), (0, .int (iI v))]) ?_ (2, 1) (by refine ⟨by omega, Or.inr rfl, rfl⟩) (lv_sub hl [0, 1, 2] rfl)
    rintro ⟨d9, b9⟩ hinv IHl ls hl
    try dsimp only at hinv
    have hl : lv_has ls 3 [(2, .int (iI d9)), (1, .int (iI b9)), (0, .int (iI v))] := hl
    obtain ⟨hd9, hb9, heq⟩ := hinv
    have htm : Int.tmod v d9 = v % d9 := Int.tmod_eq_emod_of_nonneg (by omega)
    have hem := emod_rng v (p := d9) (by omega)
    refine lv_iload_n S0.1 S0.2.1 dX11_isPrime_13 rfl (lv_at hl 0 rfl) ?_
    refine lv_iload_n S0.1 S0.2.1 dX11_isPrime_14 rfl (lv_at hl 2 rfl) ?_
    refine q_icmp_ge (tgt := 40) S0 (by omega) dX11_isPrime_15 (by decide) (fun c15 => ?_) (fun c15 => ?_)
    · skip
      refine lv_iload_n S0.1 S0.2.1 dX11_isPrime_40 rfl (lv_at hl 1 rfl) ?_
      exact qp_zret S0 hr hlocks (by omega) (by rw [← heq, show (v - d9).toNat = 0 by omega]; rfl) dX11_isPrime_41
    · skip
      refine q_cut (α := Int) (fun y9 => F0 m 33 ls (.int (iI y9) :: [])) (fun y9 => y9 = if ¬ b9 = 0 ∧ 0 < v % d9 then (1 : Int) else 0) (fun y9 hy9 => ?_) (fun hJ18 => ?_)
      · skip
        refine lv_istore_n (lv' := [(1, .int (iI y9)), (2, .int (iI d9)), (0, .int (iI v))]) S0.1 S0.2.1 dX11_isPrime_33 rfl hl (by decide) rfl (fun ls hl => ?_)
        refine q_iinc (lv' := [(2, .int (iI (d9 + 1))), (1, .int (iI y9)), (0, .int (iI v))]) S0 dX11_isPrime_34 hl (k := 1) rfl (by decide) rfl (fun ls hl => ?_)
        refine lv_goto (tgt := 13) S0.1 S0.2.1 dX11_isPrime_37 (by decide) ?_
        exact IHl (d9 + 1, y9) ls (by refine ⟨by omega, (by rw [hy9]; split <;> simp), ?_⟩; rw [← heq, show (v - d9).toNat = (v - (d9 + 1)).toNat + 1 by omega, hy9]; rfl) (by dsimp only; omega) (lv_sub hl [0, 1, 2] rfl)
      · skip
        refine lv_iload_n S0.1 S0.2.1 dX11_isPrime_18 rfl (lv_at hl 1 rfl) ?_
        refine q_if_eq (tgt := 32) S0 (by omega) dX11_isPrime_19 (by decide) (fun c19 => ?_) (fun c19 => ?_)
        · skip
          refine q_iconst S0 dX11_isPrime_32 ?_
          exact hJ18 _ (by first | (rw [if_pos (by omega)]; done) | (rw [if_neg (by omega)]; done) | omega)
        · skip
          refine lv_iload_n S0.1 S0.2.1 dX11_isPrime_22 rfl (lv_at hl 2 rfl) ?_
          refine lv_iload_n S0.1 S0.2.1 dX11_isPrime_23 rfl (lv_at hl 0 rfl) ?_
          refine q_irem S0 (by omega) (by omega) dX11_isPrime_24 ?_
          refine q_if_le (tgt := 32) S0 (by omega) dX11_isPrime_25 (by decide) (fun c25 => ?_) (fun c25 => ?_)
          · skip
            refine q_iconst S0 dX11_isPrime_32 ?_
            exact hJ18 _ (by first | (rw [if_pos (by omega)]; done) | (rw [if_neg (by omega)]; done) | omega)
          · skip
            refine q_iconst S0 dX11_isPrime_28 ?_
            refine lv_goto (tgt := 33) S0.1 S0.2.1 dX11_isPrime_29 (by decide) ?_
            exact hJ18 _ (by first | (rw [if_pos (by omega)]; done) | (rw [if_neg (by omega)]; done) | omega)
set_option maxHeartbeats 4000000 in
set_option maxRecDepth 100000 in
theorem c_X11_setModulus1 (l : Launch) (g : GG) (mo az ap ak ax a1 a2 a3 a4 a5 a6 v1 v2 v3 v4 v5 v6 : Nat) (pm ik ty th mn wt bn wh dp dg : Int) (p_ : Int) (hr : -2147483648 ≤ p_ ∧ p_ < 2147483648) (hv : 2 ≤ p_ ∧ p_ ≤ 199 → isp p_ (p_ - 2).toNat 2 1 = 0) : qMet l yX11_setModulus wsX11_setModulus ({ frames := 1, cells := 0, slots := 0, locals := 22 }) g [.ref mo, .int (iI p_)] [(mo, .inr (11, [.ref az, .ref ap, .int (iI pm), .ref ak, .int (iI ik), .ref ax, .int (iI ty), .int (iI th), .ref a1, .ref a2, .int (iI mn), .ref a3, .int (iI wt), .ref a4, .ref a5, .ref a6, .ref v1, .ref v2, .ref v3, .ref v4, .ref v5, .ref v6, .int (iI bn), .int (iI wh), .int (iI dp), .int (iI dg)]))] (fun _ => True) (fun _ => True) (S := Unit) (fun _ => some (.int (iI 0))) (fun _ => [(mo, .inr (11, [.ref az, .ref ap, .int (iI pm), .ref ak, .int (iI ik), .ref ax, .int (iI ty), .int (iI 1), .ref a1, .ref a2, .int (iI mn), .ref a3, .int (iI wt), .ref a4, .ref a5, .ref a6, .ref v1, .ref v2, .ref v3, .ref v4, .ref v5, .ref v6, .int (iI bn), .int (iI wh), .int (iI dp), .int (iI dg)]))]) (fun _ => True) 0 0 := by
  refine q_ofW (cc := cX11_setModulus) (maxL := 3) (ret := (some .int)) (fun sz h => h.self) (by decide) rfl (Nat.le_of_ble_eq_true rfl) ?_
  intro p e s m args below meth c A ls S0 hr hlocks hnme hK hA hAe hW hD0 hX hl
  have hW : gW g A s.heap s.heap [] [(mo, .inr (11, [.ref az, .ref ap, .int (iI pm), .ref ak, .int (iI ik), .ref ax, .int (iI ty), .int (iI th), .ref a1, .ref a2, .int (iI mn), .ref a3, .int (iI wt), .ref a4, .ref a5, .ref a6, .ref v1, .ref v2, .ref v3, .ref v4, .ref v5, .ref v6, .int (iI bn), .int (iI wh), .int (iI dp), .int (iI dg)]))] := hW
  have hl : lv_has ls 3 [(0, .ref mo), (1, .int (iI p_))] := hl
  refine lv_aload_n S0.1 S0.2.1 dX11_setModulus_0 rfl (lv_at hl 0 rfl) ?_
  refine lv_iload_n S0.1 S0.2.1 dX11_setModulus_1 rfl (lv_at hl 1 rfl) ?_
  refine q_iconst S0 dX11_setModulus_2 ?_
  refine q_sipush S0 (by decide) dX11_setModulus_3 ?_
  refine q_pS (n := 3) (rest := [.ref mo]) S0 hK (c_X11_in l g p_ 2 199 (by omega) (by omega) (by omega)) (subP hW.1 [] rfl) (trivial) gX11_setModulus_X11_in rfl rfl rfl (by decide +kernel) ⟨Nat.le_of_ble_eq_true rfl, Nat.le_of_ble_eq_true rfl⟩ rfl rfl hl.1 (Nat.le_of_ble_eq_true rfl) ⟨Nat.le_of_ble_eq_true rfl, Nat.le_of_ble_eq_true rfl⟩ dX11_setModulus_6 ?_
  refine W.eq (g2 := F0 m 9 ls [.int (iI (if 2 ≤ p_ ∧ p_ ≤ 199 then (1 : Int) else 0)), .ref mo]) rfl ?_
  refine q_if_eqP (tgt := 23) S0 dX11_setModulus_9 (by decide) (fun c9 => ?_) (fun c9 => ?_)
  · skip
    refine q_iconst S0 dX11_setModulus_23 ?_
    refine q_cV (n := 1) (rest := []) (wr := []) S0 hK hA hW (c_X11_asksF l g mo az ap ak ax a1 a2 a3 a4 a5 a6 v1 v2 v3 v4 v5 v6 pm ik ty th mn wt bn wh dp dg) gX11_setModulus_X11_asks rfl rfl rfl (by decide +kernel) ⟨Nat.le_of_ble_eq_true rfl, Nat.le_of_ble_eq_true rfl⟩ [0] [] rfl rfl rfl rfl (by decide) (q_recv hK hW.1 (ci := 11) (q0 := 0) rfl rfl) (fun _ _ => trivial) (trivial) rfl rfl hl.1 (Nat.le_of_ble_eq_true rfl) ⟨Nat.le_of_ble_eq_true rfl, Nat.le_of_ble_eq_true rfl⟩ dX11_setModulus_24 (fun _ H locs _ hW => ?_)
    have hW : gW g A s.heap H _ [(mo, .inr (11, [.ref az, .ref ap, .int (iI pm), .ref ak, .int (iI ik), .ref ax, .int (iI ty), .int (iI 1), .ref a1, .ref a2, .int (iI mn), .ref a3, .int (iI wt), .ref a4, .ref a5, .ref a6, .ref v1, .ref v2, .ref v3, .ref v4, .ref v5, .ref v6, .int (iI bn), .int (iI wh), .int (iI dp), .int (iI dg)]))] := hW
    refine W.eq (g2 := F0 m 27 ls [.int (iI 0)]) rfl ?_
    refine q_if_ne (tgt := 32) S0 (by omega) dX11_setModulus_27 (by decide) (fun c27 => ?_) (fun c27 => ?_)
    · skip
      exact absurd c27 (by omega)
    · skip
      refine q_iconst S0 dX11_setModulus_30 ?_
      exact q_iret S0 hr hlocks () (trivial) (rfl) (hW.sub [0] rfl (rfl)) (Nat.le_of_ble_eq_true rfl) (Nat.le_of_ble_eq_true rfl) dX11_setModulus_31
  · skip
    refine lv_iload_n S0.1 S0.2.1 dX11_setModulus_12 rfl (lv_at hl 1 rfl) ?_
    refine q_pS (n := 1) (rest := [.ref mo]) S0 hK (c_X11_isPrime l g p_ (by omega)) (subP hW.1 [] rfl) (trivial) gX11_setModulus_X11_isPrime rfl rfl rfl (by decide +kernel) ⟨Nat.le_of_ble_eq_true rfl, Nat.le_of_ble_eq_true rfl⟩ rfl rfl hl.1 (Nat.le_of_ble_eq_true rfl) ⟨Nat.le_of_ble_eq_true rfl, Nat.le_of_ble_eq_true rfl⟩ dX11_setModulus_13 ?_
    refine W.eq (g2 := F0 m 16 ls [.int (iI (isp p_ (p_ - 2).toNat 2 1)), .ref mo]) rfl ?_
    refine q_if_eq (tgt := 23) S0 (by have := hv (by omega); omega) dX11_setModulus_16 (by decide) (fun c16 => ?_) (fun c16 => ?_)
    · skip
      refine q_iconst S0 dX11_setModulus_23 ?_
      refine q_cV (n := 1) (rest := []) (wr := []) S0 hK hA hW (c_X11_asksF l g mo az ap ak ax a1 a2 a3 a4 a5 a6 v1 v2 v3 v4 v5 v6 pm ik ty th mn wt bn wh dp dg) gX11_setModulus_X11_asks rfl rfl rfl (by decide +kernel) ⟨Nat.le_of_ble_eq_true rfl, Nat.le_of_ble_eq_true rfl⟩ [0] [] rfl rfl rfl rfl (by decide) (q_recv hK hW.1 (ci := 11) (q0 := 0) rfl rfl) (fun _ _ => trivial) (trivial) rfl rfl hl.1 (Nat.le_of_ble_eq_true rfl) ⟨Nat.le_of_ble_eq_true rfl, Nat.le_of_ble_eq_true rfl⟩ dX11_setModulus_24 (fun _ H locs _ hW => ?_)
      have hW : gW g A s.heap H _ [(mo, .inr (11, [.ref az, .ref ap, .int (iI pm), .ref ak, .int (iI ik), .ref ax, .int (iI ty), .int (iI 1), .ref a1, .ref a2, .int (iI mn), .ref a3, .int (iI wt), .ref a4, .ref a5, .ref a6, .ref v1, .ref v2, .ref v3, .ref v4, .ref v5, .ref v6, .int (iI bn), .int (iI wh), .int (iI dp), .int (iI dg)]))] := hW
      refine W.eq (g2 := F0 m 27 ls [.int (iI 0)]) rfl ?_
      refine q_if_ne (tgt := 32) S0 (by omega) dX11_setModulus_27 (by decide) (fun c27 => ?_) (fun c27 => ?_)
      · skip
        exact absurd c27 (by omega)
      · skip
        refine q_iconst S0 dX11_setModulus_30 ?_
        exact q_iret S0 hr hlocks () (trivial) (rfl) (hW.sub [0] rfl (rfl)) (Nat.le_of_ble_eq_true rfl) (Nat.le_of_ble_eq_true rfl) dX11_setModulus_31
    · skip
      exact absurd (hv (by omega)) c16
set_option maxHeartbeats 4000000 in
set_option maxRecDepth 100000 in
theorem c_X11_setModulus04 (l : Launch) (g : GG) (mo az ap ak ax a1 a2 a3 a4 a5 a6 v1 v2 v3 v4 v5 v6 : Nat) (ik ty th mn wt bn wh dp dg : Int) (Z P : Nat → Int) (p_ : Int) (hr : 2 ≤ p_ ∧ p_ ≤ 199) (hv : isp p_ (p_ - 2).toNat 2 1 = 1) : qMet l yX11_setModulus wsX11_setModulus ({ frames := 1, cells := 0, slots := 0, locals := 22 }) g [.ref mo, .int (iI p_)] [(mo, .inr (11, [.ref az, .ref ap, .int (iI 4), .ref ak, .int (iI ik), .ref ax, .int (iI ty), .int (iI th), .ref a1, .ref a2, .int (iI mn), .ref a3, .int (iI wt), .ref a4, .ref a5, .ref a6, .ref v1, .ref v2, .ref v3, .ref v4, .ref v5, .ref v6, .int (iI bn), .int (iI wh), .int (iI dp), .int (iI dg)])), (az, gI g 325 Z), (ap, gI g 1300 P)] (fun _ => True) (fun _ => True) (S := Unit) (fun _ => some (.int (iI (Z 0)))) (fun _ => [(mo, .inr (11, [.ref az, .ref ap, .int (iI (recN 4)), .ref ak, .int (iI ik), .ref ax, .int (iI ty), .int (iI 0), .ref a1, .ref a2, .int (iI mn), .ref a3, .int (iI wt), .ref a4, .ref a5, .ref a6, .ref v1, .ref v2, .ref v3, .ref v4, .ref v5, .ref v6, .int (iI bn), .int (iI wh), .int (iI dp), .int (iI dg)])), (az, gI g 325 (up Z 0 p_)), (ap, gI g 1300 (recM 4 P Z))]) (fun _ => True) 0 0 := by
  refine q_ofW (cc := cX11_setModulus) (maxL := 3) (ret := (some .int)) (fun sz h => h.self) (by decide) rfl (Nat.le_of_ble_eq_true rfl) ?_
  intro p e s m args below meth c A ls S0 hr hlocks hnme hK hA hAe hW hD0 hX hl
  have hW : gW g A s.heap s.heap [] [(mo, .inr (11, [.ref az, .ref ap, .int (iI 4), .ref ak, .int (iI ik), .ref ax, .int (iI ty), .int (iI th), .ref a1, .ref a2, .int (iI mn), .ref a3, .int (iI wt), .ref a4, .ref a5, .ref a6, .ref v1, .ref v2, .ref v3, .ref v4, .ref v5, .ref v6, .int (iI bn), .int (iI wh), .int (iI dp), .int (iI dg)])), (az, gI g 325 Z), (ap, gI g 1300 P)] := hW
  have hl : lv_has ls 3 [(0, .ref mo), (1, .int (iI p_))] := hl
  have hinX11 : ∀ w ∈ wsX110, w ∈ wsX11_setModulus := fun w h => List.mem_cons_of_mem _ (List.mem_append_right _ h)
  refine lv_aload_n S0.1 S0.2.1 dX11_setModulus_0 rfl (lv_at hl 0 rfl) ?_
  refine lv_iload_n S0.1 S0.2.1 dX11_setModulus_1 rfl (lv_at hl 1 rfl) ?_
  refine q_iconst S0 dX11_setModulus_2 ?_
  refine q_sipush S0 (by decide) dX11_setModulus_3 ?_
  refine q_pS (n := 3) (rest := [.ref mo]) S0 hK (c_X11_in l g p_ 2 199 (by omega) (by omega) (by omega)) (subP hW.1 [] rfl) (trivial) gX11_setModulus_X11_in rfl rfl rfl (by decide +kernel) ⟨Nat.le_of_ble_eq_true rfl, Nat.le_of_ble_eq_true rfl⟩ rfl rfl hl.1 (Nat.le_of_ble_eq_true rfl) ⟨Nat.le_of_ble_eq_true rfl, Nat.le_of_ble_eq_true rfl⟩ dX11_setModulus_6 ?_
  refine W.eq (g2 := F0 m 9 ls [.int (iI (if 2 ≤ p_ ∧ p_ ≤ 199 then (1 : Int) else 0)), .ref mo]) rfl ?_
  refine q_if_eqP (tgt := 23) S0 dX11_setModulus_9 (by decide) (fun c9 => ?_) (fun c9 => ?_)
  · skip
    exact absurd c9 (by omega)
  · skip
    refine lv_iload_n S0.1 S0.2.1 dX11_setModulus_12 rfl (lv_at hl 1 rfl) ?_
    refine q_pS (n := 1) (rest := [.ref mo]) S0 hK (c_X11_isPrime l g p_ (by omega)) (subP hW.1 [] rfl) (trivial) gX11_setModulus_X11_isPrime rfl rfl rfl (by decide +kernel) ⟨Nat.le_of_ble_eq_true rfl, Nat.le_of_ble_eq_true rfl⟩ rfl rfl hl.1 (Nat.le_of_ble_eq_true rfl) ⟨Nat.le_of_ble_eq_true rfl, Nat.le_of_ble_eq_true rfl⟩ dX11_setModulus_13 ?_
    refine W.eq (g2 := F0 m 16 ls [.int (iI (isp p_ (p_ - 2).toNat 2 1)), .ref mo]) rfl ?_
    refine q_if_eq (tgt := 23) S0 (by omega) dX11_setModulus_16 (by decide) (fun c16 => ?_) (fun c16 => ?_)
    · skip
      exact absurd c16 (by omega)
    · skip
      refine q_iconst S0 dX11_setModulus_19 ?_
      refine lv_goto (tgt := 24) S0.1 S0.2.1 dX11_setModulus_20 (by decide) ?_
      refine q_cV (n := 1) (rest := []) (wr := [(az, gI g 325 Z), (ap, gI g 1300 P)]) S0 hK hA hW (c_X11_asksT l g mo az ap ak ax a1 a2 a3 a4 a5 a6 v1 v2 v3 v4 v5 v6 4 ik ty th mn wt bn wh dp dg) gX11_setModulus_X11_asks rfl rfl rfl (by decide +kernel) ⟨Nat.le_of_ble_eq_true rfl, Nat.le_of_ble_eq_true rfl⟩ [0] [1, 2] rfl rfl rfl rfl (by decide) (q_recv hK hW.1 (ci := 11) (q0 := 0) rfl rfl) (fun _ _ => trivial) (trivial) rfl rfl hl.1 (Nat.le_of_ble_eq_true rfl) ⟨Nat.le_of_ble_eq_true rfl, Nat.le_of_ble_eq_true rfl⟩ dX11_setModulus_24 (fun _ H locs _ hW => ?_)
      have hW : gW g A s.heap H _ [(az, gI g 325 Z), (ap, gI g 1300 P), (mo, .inr (11, [.ref az, .ref ap, .int (iI 4), .ref ak, .int (iI ik), .ref ax, .int (iI ty), .int (iI 0), .ref a1, .ref a2, .int (iI mn), .ref a3, .int (iI wt), .ref a4, .ref a5, .ref a6, .ref v1, .ref v2, .ref v3, .ref v4, .ref v5, .ref v6, .int (iI bn), .int (iI wh), .int (iI dp), .int (iI dg)]))] := hW
      refine W.eq (g2 := F0 m 27 ls [.int (iI 1)]) rfl ?_
      refine q_if_ne (tgt := 32) S0 (by omega) dX11_setModulus_27 (by decide) (fun c27 => ?_) (fun c27 => ?_)
      · skip
        refine lv_aload_n S0.1 S0.2.1 dX11_setModulus_32 rfl (lv_at hl 0 rfl) ?_
        refine q_cV (n := 0) (rest := []) (wr := []) S0 hK hA hW (c_X11_record4 l g mo az ap ak ax a1 a2 a3 a4 a5 a6 v1 v2 v3 v4 v5 v6 ik ty 0 mn wt bn wh dp dg Z P) gX11_setModulus_X11_record rfl rfl rfl (by decide +kernel) ⟨Nat.le_of_ble_eq_true rfl, Nat.le_of_ble_eq_true rfl⟩ [2, 0, 1] [] rfl rfl rfl rfl (by decide) (q_recv hK hW.1 (ci := 11) (q0 := 2) rfl rfl) (fun _ _ => trivial) (trivial) rfl rfl hl.1 (Nat.le_of_ble_eq_true rfl) ⟨Nat.le_of_ble_eq_true rfl, Nat.le_of_ble_eq_true rfl⟩ dX11_setModulus_33 (fun _ H locs _ hW => ?_)
        have hW : gW g A s.heap H _ [(mo, .inr (11, [.ref az, .ref ap, .int (iI (recN 4)), .ref ak, .int (iI ik), .ref ax, .int (iI ty), .int (iI 0), .ref a1, .ref a2, .int (iI mn), .ref a3, .int (iI wt), .ref a4, .ref a5, .ref a6, .ref v1, .ref v2, .ref v3, .ref v4, .ref v5, .ref v6, .int (iI bn), .int (iI wh), .int (iI dp), .int (iI dg)])), (az, gI g 325 Z), (ap, gI g 1300 (recM 4 P Z))] := hW
        refine W.eq (g2 := F0 m 36 ls []) rfl ?_
        refine lv_aload_n S0.1 S0.2.1 dX11_setModulus_36 rfl (lv_at hl 0 rfl) ?_
        refine q_get (C := RX11) (T := TX11) (N := 26) S0 hK hW.1 hinX11 0 rfl rfl 0 (by decide) (List.mem_of_getElem? (i := 1) rfl) rfl rfl dX11_setModulus_37 ?_
        refine q_iconst S0 dX11_setModulus_40 ?_
        refine q_iald S0 hK hW.1 1 rfl (by omega) dX11_setModulus_41 ?_
        refine W.eq (g2 := F0 m 42 ls [.int (iI (Z 0))]) rfl ?_
        refine lv_istore_n (lv' := [(2, .int (iI (Z 0))), (0, .ref mo), (1, .int (iI p_))]) S0.1 S0.2.1 dX11_setModulus_42 rfl hl (by decide) rfl (fun ls hl => ?_)
        refine lv_aload_n S0.1 S0.2.1 dX11_setModulus_43 rfl (lv_at hl 1 rfl) ?_
        refine q_get (C := RX11) (T := TX11) (N := 26) S0 hK hW.1 hinX11 0 rfl rfl 0 (by decide) (List.mem_of_getElem? (i := 1) rfl) rfl rfl dX11_setModulus_44 ?_
        refine q_iconst S0 dX11_setModulus_47 ?_
        refine lv_iload_n S0.1 S0.2.1 dX11_setModulus_48 rfl (lv_at hl 2 rfl) ?_
        refine q_iast S0 hK hW 1 rfl (by omega) dX11_setModulus_49 (fun H locs hW => ?_)
        have hW : gW g A s.heap H _ [(mo, .inr (11, [.ref az, .ref ap, .int (iI (recN 4)), .ref ak, .int (iI ik), .ref ax, .int (iI ty), .int (iI 0), .ref a1, .ref a2, .int (iI mn), .ref a3, .int (iI wt), .ref a4, .ref a5, .ref a6, .ref v1, .ref v2, .ref v3, .ref v4, .ref v5, .ref v6, .int (iI bn), .int (iI wh), .int (iI dp), .int (iI dg)])), (az, gI g 325 (up Z 0 p_)), (ap, gI g 1300 (recM 4 P Z))] := hW
        refine lv_iload_n S0.1 S0.2.1 dX11_setModulus_50 rfl (lv_at hl 0 rfl) ?_
        exact q_iret S0 hr hlocks () (trivial) (rfl) (hW.sub [0, 1, 2] rfl (rfl)) (Nat.le_of_ble_eq_true rfl) (Nat.le_of_ble_eq_true rfl) dX11_setModulus_51
      · skip
        exact absurd c27 (by omega)
set_option maxHeartbeats 4000000 in
set_option maxRecDepth 100000 in
theorem c_X11_setModulus03 (l : Launch) (g : GG) (mo az ap ak ax a1 a2 a3 a4 a5 a6 v1 v2 v3 v4 v5 v6 : Nat) (pm ik ty th mn wt bn wh dp dg : Int) (Z P : Nat → Int) (p_ : Int) (hr : 2 ≤ p_ ∧ p_ ≤ 199) (hv : isp p_ (p_ - 2).toNat 2 1 = 1) (hp : 0 ≤ pm ∧ pm < 4) : qMet l yX11_setModulus wsX11_setModulus ({ frames := 1, cells := 0, slots := 0, locals := 22 }) g [.ref mo, .int (iI p_)] [(mo, .inr (11, [.ref az, .ref ap, .int (iI pm), .ref ak, .int (iI ik), .ref ax, .int (iI ty), .int (iI th), .ref a1, .ref a2, .int (iI mn), .ref a3, .int (iI wt), .ref a4, .ref a5, .ref a6, .ref v1, .ref v2, .ref v3, .ref v4, .ref v5, .ref v6, .int (iI bn), .int (iI wh), .int (iI dp), .int (iI dg)])), (az, gI g 325 Z), (ap, gI g 1300 P)] (fun _ => True) (fun _ => True) (S := Unit) (fun _ => some (.int (iI (Z 0)))) (fun _ => [(mo, .inr (11, [.ref az, .ref ap, .int (iI (recN pm)), .ref ak, .int (iI ik), .ref ax, .int (iI ty), .int (iI 0), .ref a1, .ref a2, .int (iI mn), .ref a3, .int (iI wt), .ref a4, .ref a5, .ref a6, .ref v1, .ref v2, .ref v3, .ref v4, .ref v5, .ref v6, .int (iI bn), .int (iI wh), .int (iI dp), .int (iI dg)])), (az, gI g 325 (up Z 0 p_)), (ap, gI g 1300 (recM pm P Z))]) (fun _ => True) 0 0 := by
  refine q_ofW (cc := cX11_setModulus) (maxL := 3) (ret := (some .int)) (fun sz h => h.self) (by decide) rfl (Nat.le_of_ble_eq_true rfl) ?_
  intro p e s m args below meth c A ls S0 hr hlocks hnme hK hA hAe hW hD0 hX hl
  have hW : gW g A s.heap s.heap [] [(mo, .inr (11, [.ref az, .ref ap, .int (iI pm), .ref ak, .int (iI ik), .ref ax, .int (iI ty), .int (iI th), .ref a1, .ref a2, .int (iI mn), .ref a3, .int (iI wt), .ref a4, .ref a5, .ref a6, .ref v1, .ref v2, .ref v3, .ref v4, .ref v5, .ref v6, .int (iI bn), .int (iI wh), .int (iI dp), .int (iI dg)])), (az, gI g 325 Z), (ap, gI g 1300 P)] := hW
  have hl : lv_has ls 3 [(0, .ref mo), (1, .int (iI p_))] := hl
  have hinX11 : ∀ w ∈ wsX110, w ∈ wsX11_setModulus := fun w h => List.mem_cons_of_mem _ (List.mem_append_right _ h)
  refine lv_aload_n S0.1 S0.2.1 dX11_setModulus_0 rfl (lv_at hl 0 rfl) ?_
  refine lv_iload_n S0.1 S0.2.1 dX11_setModulus_1 rfl (lv_at hl 1 rfl) ?_
  refine q_iconst S0 dX11_setModulus_2 ?_
  refine q_sipush S0 (by decide) dX11_setModulus_3 ?_
  refine q_pS (n := 3) (rest := [.ref mo]) S0 hK (c_X11_in l g p_ 2 199 (by omega) (by omega) (by omega)) (subP hW.1 [] rfl) (trivial) gX11_setModulus_X11_in rfl rfl rfl (by decide +kernel) ⟨Nat.le_of_ble_eq_true rfl, Nat.le_of_ble_eq_true rfl⟩ rfl rfl hl.1 (Nat.le_of_ble_eq_true rfl) ⟨Nat.le_of_ble_eq_true rfl, Nat.le_of_ble_eq_true rfl⟩ dX11_setModulus_6 ?_
  refine W.eq (g2 := F0 m 9 ls [.int (iI (if 2 ≤ p_ ∧ p_ ≤ 199 then (1 : Int) else 0)), .ref mo]) rfl ?_
  refine q_if_eqP (tgt := 23) S0 dX11_setModulus_9 (by decide) (fun c9 => ?_) (fun c9 => ?_)
  · skip
    exact absurd c9 (by omega)
  · skip
    refine lv_iload_n S0.1 S0.2.1 dX11_setModulus_12 rfl (lv_at hl 1 rfl) ?_
    refine q_pS (n := 1) (rest := [.ref mo]) S0 hK (c_X11_isPrime l g p_ (by omega)) (subP hW.1 [] rfl) (trivial) gX11_setModulus_X11_isPrime rfl rfl rfl (by decide +kernel) ⟨Nat.le_of_ble_eq_true rfl, Nat.le_of_ble_eq_true rfl⟩ rfl rfl hl.1 (Nat.le_of_ble_eq_true rfl) ⟨Nat.le_of_ble_eq_true rfl, Nat.le_of_ble_eq_true rfl⟩ dX11_setModulus_13 ?_
    refine W.eq (g2 := F0 m 16 ls [.int (iI (isp p_ (p_ - 2).toNat 2 1)), .ref mo]) rfl ?_
    refine q_if_eq (tgt := 23) S0 (by omega) dX11_setModulus_16 (by decide) (fun c16 => ?_) (fun c16 => ?_)
    · skip
      exact absurd c16 (by omega)
    · skip
      refine q_iconst S0 dX11_setModulus_19 ?_
      refine lv_goto (tgt := 24) S0.1 S0.2.1 dX11_setModulus_20 (by decide) ?_
      refine q_cV (n := 1) (rest := []) (wr := [(az, gI g 325 Z), (ap, gI g 1300 P)]) S0 hK hA hW (c_X11_asksT l g mo az ap ak ax a1 a2 a3 a4 a5 a6 v1 v2 v3 v4 v5 v6 pm ik ty th mn wt bn wh dp dg) gX11_setModulus_X11_asks rfl rfl rfl (by decide +kernel) ⟨Nat.le_of_ble_eq_true rfl, Nat.le_of_ble_eq_true rfl⟩ [0] [1, 2] rfl rfl rfl rfl (by decide) (q_recv hK hW.1 (ci := 11) (q0 := 0) rfl rfl) (fun _ _ => trivial) (trivial) rfl rfl hl.1 (Nat.le_of_ble_eq_true rfl) ⟨Nat.le_of_ble_eq_true rfl, Nat.le_of_ble_eq_true rfl⟩ dX11_setModulus_24 (fun _ H locs _ hW => ?_)
      have hW : gW g A s.heap H _ [(az, gI g 325 Z), (ap, gI g 1300 P), (mo, .inr (11, [.ref az, .ref ap, .int (iI pm), .ref ak, .int (iI ik), .ref ax, .int (iI ty), .int (iI 0), .ref a1, .ref a2, .int (iI mn), .ref a3, .int (iI wt), .ref a4, .ref a5, .ref a6, .ref v1, .ref v2, .ref v3, .ref v4, .ref v5, .ref v6, .int (iI bn), .int (iI wh), .int (iI dp), .int (iI dg)]))] := hW
      refine W.eq (g2 := F0 m 27 ls [.int (iI 1)]) rfl ?_
      refine q_if_ne (tgt := 32) S0 (by omega) dX11_setModulus_27 (by decide) (fun c27 => ?_) (fun c27 => ?_)
      · skip
        refine lv_aload_n S0.1 S0.2.1 dX11_setModulus_32 rfl (lv_at hl 0 rfl) ?_
        refine q_cV (n := 0) (rest := []) (wr := []) S0 hK hA hW (c_X11_record3 l g mo az ap ak ax a1 a2 a3 a4 a5 a6 v1 v2 v3 v4 v5 v6 pm ik ty 0 mn wt bn wh dp dg Z P (by omega)) gX11_setModulus_X11_record rfl rfl rfl (by decide +kernel) ⟨Nat.le_of_ble_eq_true rfl, Nat.le_of_ble_eq_true rfl⟩ [2, 0, 1] [] rfl rfl rfl rfl (by decide) (q_recv hK hW.1 (ci := 11) (q0 := 2) rfl rfl) (fun _ _ => trivial) (trivial) rfl rfl hl.1 (Nat.le_of_ble_eq_true rfl) ⟨Nat.le_of_ble_eq_true rfl, Nat.le_of_ble_eq_true rfl⟩ dX11_setModulus_33 (fun _ H locs _ hW => ?_)
        have hW : gW g A s.heap H _ [(mo, .inr (11, [.ref az, .ref ap, .int (iI (recN pm)), .ref ak, .int (iI ik), .ref ax, .int (iI ty), .int (iI 0), .ref a1, .ref a2, .int (iI mn), .ref a3, .int (iI wt), .ref a4, .ref a5, .ref a6, .ref v1, .ref v2, .ref v3, .ref v4, .ref v5, .ref v6, .int (iI bn), .int (iI wh), .int (iI dp), .int (iI dg)])), (az, gI g 325 Z), (ap, gI g 1300 (recM pm P Z))] := hW
        refine W.eq (g2 := F0 m 36 ls []) rfl ?_
        refine lv_aload_n S0.1 S0.2.1 dX11_setModulus_36 rfl (lv_at hl 0 rfl) ?_
        refine q_get (C := RX11) (T := TX11) (N := 26) S0 hK hW.1 hinX11 0 rfl rfl 0 (by decide) (List.mem_of_getElem? (i := 1) rfl) rfl rfl dX11_setModulus_37 ?_
        refine q_iconst S0 dX11_setModulus_40 ?_
        refine q_iald S0 hK hW.1 1 rfl (by omega) dX11_setModulus_41 ?_
        refine W.eq (g2 := F0 m 42 ls [.int (iI (Z 0))]) rfl ?_
        refine lv_istore_n (lv' := [(2, .int (iI (Z 0))), (0, .ref mo), (1, .int (iI p_))]) S0.1 S0.2.1 dX11_setModulus_42 rfl hl (by decide) rfl (fun ls hl => ?_)
        refine lv_aload_n S0.1 S0.2.1 dX11_setModulus_43 rfl (lv_at hl 1 rfl) ?_
        refine q_get (C := RX11) (T := TX11) (N := 26) S0 hK hW.1 hinX11 0 rfl rfl 0 (by decide) (List.mem_of_getElem? (i := 1) rfl) rfl rfl dX11_setModulus_44 ?_
        refine q_iconst S0 dX11_setModulus_47 ?_
        refine lv_iload_n S0.1 S0.2.1 dX11_setModulus_48 rfl (lv_at hl 2 rfl) ?_
        refine q_iast S0 hK hW 1 rfl (by omega) dX11_setModulus_49 (fun H locs hW => ?_)
        have hW : gW g A s.heap H _ [(mo, .inr (11, [.ref az, .ref ap, .int (iI (recN pm)), .ref ak, .int (iI ik), .ref ax, .int (iI ty), .int (iI 0), .ref a1, .ref a2, .int (iI mn), .ref a3, .int (iI wt), .ref a4, .ref a5, .ref a6, .ref v1, .ref v2, .ref v3, .ref v4, .ref v5, .ref v6, .int (iI bn), .int (iI wh), .int (iI dp), .int (iI dg)])), (az, gI g 325 (up Z 0 p_)), (ap, gI g 1300 (recM pm P Z))] := hW
        refine lv_iload_n S0.1 S0.2.1 dX11_setModulus_50 rfl (lv_at hl 0 rfl) ?_
        exact q_iret S0 hr hlocks () (trivial) (rfl) (hW.sub [0, 1, 2] rfl (rfl)) (Nat.le_of_ble_eq_true rfl) (Nat.le_of_ble_eq_true rfl) dX11_setModulus_51
      · skip
        exact absurd c27 (by omega)
set_option maxHeartbeats 4000000 in
set_option maxRecDepth 100000 in
theorem c_X11_p (l : Launch) (g : GG) (mo az ap ak ax a1 a2 a3 a4 a5 a6 v1 v2 v3 v4 v5 v6 : Nat) (pm ik ty th mn wt bn wh dp dg : Int) (Z : Nat → Int) (pr : Int) (v : Int) (hp : 2 ≤ pr ∧ pr ≤ 199) (hz0 : Z 0 = pr) (hv : -2147483648 ≤ v ∧ v < 2147483648) : qPure l yX11_p wsX11_p ({ frames := 0, cells := 0, slots := 0, locals := 0 }) g [.ref mo, .int (iI v)] [(mo, .inr (11, [.ref az, .ref ap, .int (iI pm), .ref ak, .int (iI ik), .ref ax, .int (iI ty), .int (iI th), .ref a1, .ref a2, .int (iI mn), .ref a3, .int (iI wt), .ref a4, .ref a5, .ref a6, .ref v1, .ref v2, .ref v3, .ref v4, .ref v5, .ref v6, .int (iI bn), .int (iI wh), .int (iI dp), .int (iI dg)])), (az, gI g 325 Z)] (fun _ => True) (some (.int (iI (v % pr)))) := by
  refine q_ofP (cc := cX11_p) (maxL := 3) (ret := (some .int)) (by decide) rfl (Nat.le_of_ble_eq_true rfl) ?_
  intro p e s m args below meth c ls S0 hr hlocks hK hP hX hl
  have hP : va_P g.1 vwCl [(mo, .inr (11, [.ref az, .ref ap, .int (iI pm), .ref ak, .int (iI ik), .ref ax, .int (iI ty), .int (iI th), .ref a1, .ref a2, .int (iI mn), .ref a3, .int (iI wt), .ref a4, .ref a5, .ref a6, .ref v1, .ref v2, .ref v3, .ref v4, .ref v5, .ref v6, .int (iI bn), .int (iI wh), .int (iI dp), .int (iI dg)])), (az, gI g 325 Z)] s.heap := hP
  have hl : lv_has ls 3 [(0, .ref mo), (1, .int (iI v))] := hl
  have hinX11 : ∀ w ∈ wsX110, w ∈ wsX11_p := fun w h => List.mem_cons_of_mem _ (List.mem_append_right _ h)
  refine lv_iload_n S0.1 S0.2.1 dX11_p_0 rfl (lv_at hl 1 rfl) ?_
  refine lv_aload_n S0.1 S0.2.1 dX11_p_1 rfl (lv_at hl 0 rfl) ?_
  refine q_get (C := RX11) (T := TX11) (N := 26) S0 hK hP hinX11 0 rfl rfl 0 (by decide) (List.mem_of_getElem? (i := 1) rfl) rfl rfl dX11_p_2 ?_
  refine q_iconst S0 dX11_p_5 ?_
  refine q_iald S0 hK hP 1 rfl (by omega) dX11_p_6 ?_
  refine W.eq (g2 := F0 m 7 ls [.int (iI (Z 0)), .int (iI v)]) rfl ?_
  refine q_topI (b := pr) (hz0) ?_
  refine q_irem S0 (by omega) (by omega) dX11_p_7 ?_
  refine lv_istore_n (lv' := [(2, .int (iI (Int.tmod v pr))), (0, .ref mo), (1, .int (iI v))]) S0.1 S0.2.1 dX11_p_8 rfl hl (by decide) rfl (fun ls hl => ?_)
  have ht := tmod_rng (z := v) (p := pr) (by omega)
  refine lv_iload_n S0.1 S0.2.1 dX11_p_9 rfl (lv_at hl 0 rfl) ?_
  refine q_if_ge (tgt := 24) S0 (by omega) dX11_p_10 (by decide) (fun c10 => ?_) (fun c10 => ?_)
  · skip
    refine lv_iload_n S0.1 S0.2.1 dX11_p_24 rfl (lv_at hl 0 rfl) ?_
    exact qp_iret S0 hr hlocks (by first | rw [tmod_pos (by omega) (by omega)] | rw [tmod_neg (by omega) (by omega)]) dX11_p_25
  · skip
    refine lv_iload_n S0.1 S0.2.1 dX11_p_13 rfl (lv_at hl 0 rfl) ?_
    refine lv_aload_n S0.1 S0.2.1 dX11_p_14 rfl (lv_at hl 1 rfl) ?_
    refine q_get (C := RX11) (T := TX11) (N := 26) S0 hK hP hinX11 0 rfl rfl 0 (by decide) (List.mem_of_getElem? (i := 1) rfl) rfl rfl dX11_p_15 ?_
    refine q_iconst S0 dX11_p_18 ?_
    refine q_iald S0 hK hP 1 rfl (by omega) dX11_p_19 ?_
    refine W.eq (g2 := F0 m 20 ls [.int (iI (Z 0)), .int (iI (Int.tmod v pr))]) rfl ?_
    refine q_topI (b := pr) (hz0) ?_
    refine q_iadd S0 dX11_p_20 ?_
    refine lv_goto (tgt := 25) S0.1 S0.2.1 dX11_p_21 (by decide) ?_
    exact qp_iret S0 hr hlocks (by first | rw [tmod_pos (by omega) (by omega)] | rw [tmod_neg (by omega) (by omega)]) dX11_p_25
set_option maxHeartbeats 4000000 in
set_option maxRecDepth 100000 in
theorem c_X11_power (l : Launch) (g : GG) (mo az ap ak ax a1 a2 a3 a4 a5 a6 v1 v2 v3 v4 v5 v6 : Nat) (pm ik ty th mn wt bn wh dp dg : Int) (Z : Nat → Int) (pr : Int) (v n : Int) (hp : 2 ≤ pr ∧ pr ≤ 199) (hz0 : Z 0 = pr) (hv : 0 ≤ v ∧ v < 200) (hn : 0 ≤ n ∧ n ≤ 1000) : qPure l yX11_power wsX11_power ({ frames := 1, cells := 0, slots := 0, locals := 22 }) g [.ref mo, .int (iI v), .int (iI n)] [(mo, .inr (11, [.ref az, .ref ap, .int (iI pm), .ref ak, .int (iI ik), .ref ax, .int (iI ty), .int (iI th), .ref a1, .ref a2, .int (iI mn), .ref a3, .int (iI wt), .ref a4, .ref a5, .ref a6, .ref v1, .ref v2, .ref v3, .ref v4, .ref v5, .ref v6, .int (iI bn), .int (iI wh), .int (iI dp), .int (iI dg)])), (az, gI g 325 Z)] (fun _ => True) (some (.int (iI (v ^ n.toNat % pr)))) := by
  refine q_ofP (cc := cX11_power) (maxL := 5) (ret := (some .int)) (by decide) rfl (Nat.le_of_ble_eq_true rfl) ?_
  intro p e s m args below meth c ls S0 hr hlocks hK hP hX hl
  have hP : va_P g.1 vwCl [(mo, .inr (11, [.ref az, .ref ap, .int (iI pm), .ref ak, .int (iI ik), .ref ax, .int (iI ty), .int (iI th), .ref a1, .ref a2, .int (iI mn), .ref a3, .int (iI wt), .ref a4, .ref a5, .ref a6, .ref v1, .ref v2, .ref v3, .ref v4, .ref v5, .ref v6, .int (iI bn), .int (iI wh), .int (iI dp), .int (iI dg)])), (az, gI g 325 Z)] s.heap := hP
  have hl : lv_has ls 5 [(0, .ref mo), (1, .int (iI v)), (2, .int (iI n))] := hl
  refine lv_aload_n S0.1 S0.2.1 dX11_power_0 rfl (lv_at hl 0 rfl) ?_
  refine q_iconst S0 dX11_power_1 ?_
  refine q_pV (n := 1) (rest := []) S0 hK (c_X11_p l g mo az ap ak ax a1 a2 a3 a4 a5 a6 v1 v2 v3 v4 v5 v6 pm ik ty th mn wt bn wh dp dg Z pr 1 (hp) (hz0) (by omega)) (subP hP [0, 1] rfl) (trivial) gX11_power_X11_p rfl rfl rfl (by decide +kernel) ⟨Nat.le_of_ble_eq_true rfl, Nat.le_of_ble_eq_true rfl⟩ (q_recv hK hP (ci := 11) (q0 := 0) rfl rfl) rfl rfl hl.1 (Nat.le_of_ble_eq_true rfl) ⟨Nat.le_of_ble_eq_true rfl, Nat.le_of_ble_eq_true rfl⟩ dX11_power_2 ?_
  refine W.eq (g2 := F0 m 5 ls [.int (iI (1 % pr))]) rfl ?_
  refine lv_istore_n (lv' := [(3, .int (iI (1 % pr))), (0, .ref mo), (1, .int (iI v)), (2, .int (iI n))]) S0.1 S0.2.1 dX11_power_5 rfl hl (by decide) rfl (fun ls hl => ?_)
  refine q_iconst S0 dX11_power_6 ?_
  refine lv_istore (lv' := [(4, .int (iI 0)), (3, .int (iI (1 % pr))), (0, .ref mo), (1, .int (iI v)), (2, .int (iI n))]) S0.1 S0.2.1 dX11_power_7 hl (by decide) rfl (fun ls hl => ?_)
  refine q_loopP (α := Int × Int) (fun (z_ : Int × Int) => match z_ with | (k9, r9) => (0 ≤ k9 ∧ k9 ≤ n) ∧ (0 ≤ r9 ∧ r9 < pr) ∧ r9 = v ^ k9.toNat % pr) (fun (z_ : Int × Int) => match z_ with | (k9, r9) => (n - k9).toNat) (fun (z_ : Int × Int) => match z_ with | (k9, r9) => [(4, .int (iI k9)), (3, .int (iI r9)), (0, .ref mo), (1, .int (iI v)), (2, .int (iI n))]) ?_ (0, 1 % pr) (by refine ⟨by omega, emod_rng _ (by omega), by rw [show (0 : Int).toNat = 0 from rfl, Int.pow_zero]⟩) (lv_sub hl [0, 1, 2, 3, 4] rfl)
  rintro ⟨k9, r9⟩ hinv IHl ls hl
  try dsimp only at hinv
  have hl : lv_has ls 5 [(4, .int (iI k9)), (3, .int (iI r9)), (0, .ref mo), (1, .int (iI v)), (2, .int (iI n))] := hl
  obtain ⟨hk9, hr9, heq⟩ := hinv
  have hm := mul_rng (a := r9) (b := v) (n := 200) (k := 200) (by omega) (by omega)
  refine lv_iload S0.1 S0.2.1 dX11_power_9 (lv_at hl 0 rfl) ?_
  refine lv_iload_n S0.1 S0.2.1 dX11_power_11 rfl (lv_at hl 4 rfl) ?_
  refine q_icmp_ge (tgt := 29) S0 (by omega) dX11_power_12 (by decide) (fun c12 => ?_) (fun c12 => ?_)
  · skip
    refine lv_iload_n S0.1 S0.2.1 dX11_power_29 rfl (lv_at hl 1 rfl) ?_
    exact qp_iret S0 hr hlocks (by rw [heq, show k9 = n by omega]) dX11_power_30
  · skip
    refine lv_aload_n S0.1 S0.2.1 dX11_power_15 rfl (lv_at hl 2 rfl) ?_
    refine lv_iload_n S0.1 S0.2.1 dX11_power_16 rfl (lv_at hl 1 rfl) ?_
    refine lv_iload_n S0.1 S0.2.1 dX11_power_17 rfl (lv_at hl 3 rfl) ?_
    refine q_imul S0 dX11_power_18 ?_
    refine q_pV (n := 1) (rest := []) S0 hK (c_X11_p l g mo az ap ak ax a1 a2 a3 a4 a5 a6 v1 v2 v3 v4 v5 v6 pm ik ty th mn wt bn wh dp dg Z pr (r9 * v) (hp) (hz0) (by omega)) (subP hP [0, 1] rfl) (trivial) gX11_power_X11_p rfl rfl rfl (by decide +kernel) ⟨Nat.le_of_ble_eq_true rfl, Nat.le_of_ble_eq_true rfl⟩ (q_recv hK hP (ci := 11) (q0 := 0) rfl rfl) rfl rfl hl.1 (Nat.le_of_ble_eq_true rfl) ⟨Nat.le_of_ble_eq_true rfl, Nat.le_of_ble_eq_true rfl⟩ dX11_power_19 ?_
    refine W.eq (g2 := F0 m 22 ls [.int (iI ((r9 * v) % pr))]) rfl ?_
    refine lv_istore_n (lv' := [(3, .int (iI ((r9 * v) % pr))), (4, .int (iI k9)), (0, .ref mo), (1, .int (iI v)), (2, .int (iI n))]) S0.1 S0.2.1 dX11_power_22 rfl hl (by decide) rfl (fun ls hl => ?_)
    refine q_iinc (lv' := [(4, .int (iI (k9 + 1))), (3, .int (iI ((r9 * v) % pr))), (0, .ref mo), (1, .int (iI v)), (2, .int (iI n))]) S0 dX11_power_23 hl (k := 1) rfl (by decide) rfl (fun ls hl => ?_)
    refine lv_goto (tgt := 9) S0.1 S0.2.1 dX11_power_26 (by decide) ?_
    exact IHl (k9 + 1, r9 * v % pr) ls (by refine ⟨by omega, emod_rng _ (by omega), ?_⟩; rw [heq, show (k9 + 1).toNat = k9.toNat + 1 by omega, Int.pow_succ, Int.mul_emod, Int.emod_emod, ← Int.mul_emod]) (by dsimp only; omega) (lv_sub hl [0, 1, 2, 3, 4] rfl)
set_option maxHeartbeats 4000000 in
set_option maxRecDepth 100000 in
theorem c_X11_inverse (l : Launch) (g : GG) (mo az ap ak ax a1 a2 a3 a4 a5 a6 v1 v2 v3 v4 v5 v6 : Nat) (pm ik ty th mn wt bn wh dp dg : Int) (Z : Nat → Int) (pr : Int) (v : Int) (hPm : PRM pr) (hz0 : Z 0 = pr) (hv : 0 < v ∧ v < pr) : qPure l yX11_inverse wsX11_inverse ({ frames := 1, cells := 0, slots := 0, locals := 22 }) g [.ref mo, .int (iI v)] [(mo, .inr (11, [.ref az, .ref ap, .int (iI pm), .ref ak, .int (iI ik), .ref ax, .int (iI ty), .int (iI th), .ref a1, .ref a2, .int (iI mn), .ref a3, .int (iI wt), .ref a4, .ref a5, .ref a6, .ref v1, .ref v2, .ref v3, .ref v4, .ref v5, .ref v6, .int (iI bn), .int (iI wh), .int (iI dp), .int (iI dg)])), (az, gI g 325 Z)] (fun _ => True) (some (.int (iI (inv' pr v)))) := by
  refine q_ofP (cc := cX11_inverse) (maxL := 3) (ret := (some .int)) (by decide) rfl (Nat.le_of_ble_eq_true rfl) ?_
  intro p e s m args below meth c ls S0 hr hlocks hK hP hX hl
  have hP : va_P g.1 vwCl [(mo, .inr (11, [.ref az, .ref ap, .int (iI pm), .ref ak, .int (iI ik), .ref ax, .int (iI ty), .int (iI th), .ref a1, .ref a2, .int (iI mn), .ref a3, .int (iI wt), .ref a4, .ref a5, .ref a6, .ref v1, .ref v2, .ref v3, .ref v4, .ref v5, .ref v6, .int (iI bn), .int (iI wh), .int (iI dp), .int (iI dg)])), (az, gI g 325 Z)] s.heap := hP
  have hl : lv_has ls 3 [(0, .ref mo), (1, .int (iI v))] := hl
  have hi9 := inv_pos hPm hv
  have hp : 2 ≤ pr ∧ pr ≤ 199 := ⟨hPm.1, hPm.2.1⟩
  refine q_iconst S0 dX11_inverse_0 ?_
  refine lv_istore_n (lv' := [(2, .int (iI 1)), (0, .ref mo), (1, .int (iI v))]) S0.1 S0.2.1 dX11_inverse_1 rfl hl (by decide) rfl (fun ls hl => ?_)
  refine q_loopP (α := Int) (fun (r9 : Int) => 1 ≤ r9 ∧ r9 ≤ inv' pr v) (fun (r9 : Int) => (inv' pr v - r9).toNat) (fun (r9 : Int) => [(2, .int (iI r9)), (0, .ref mo), (1, .int (iI v))]) ?_ 1 (by omega) (lv_sub hl [0, 1, 2] rfl)
  rintro r9 hinv IHl ls hl
  try dsimp only at hinv
  have hl : lv_has ls 3 [(2, .int (iI r9)), (0, .ref mo), (1, .int (iI v))] := hl
  have hm := mul_rng (a := r9) (b := v) (n := 200) (k := 200) (by omega) (by omega)
  have he1 := emod_rng (r9 * v) (p := pr) (by omega)
  have he2 := emod_rng 1 (p := pr) (by omega)
  refine lv_aload_n S0.1 S0.2.1 dX11_inverse_2 rfl (lv_at hl 1 rfl) ?_
  refine lv_iload_n S0.1 S0.2.1 dX11_inverse_3 rfl (lv_at hl 0 rfl) ?_
  refine lv_iload_n S0.1 S0.2.1 dX11_inverse_4 rfl (lv_at hl 2 rfl) ?_
  refine q_imul S0 dX11_inverse_5 ?_
  refine q_pV (n := 1) (rest := []) S0 hK (c_X11_p l g mo az ap ak ax a1 a2 a3 a4 a5 a6 v1 v2 v3 v4 v5 v6 pm ik ty th mn wt bn wh dp dg Z pr (r9 * v) (hp) (hz0) (by omega)) (subP hP [0, 1] rfl) (trivial) gX11_inverse_X11_p rfl rfl rfl (by decide +kernel) ⟨Nat.le_of_ble_eq_true rfl, Nat.le_of_ble_eq_true rfl⟩ (q_recv hK hP (ci := 11) (q0 := 0) rfl rfl) rfl rfl hl.1 (Nat.le_of_ble_eq_true rfl) ⟨Nat.le_of_ble_eq_true rfl, Nat.le_of_ble_eq_true rfl⟩ dX11_inverse_6 ?_
  refine W.eq (g2 := F0 m 9 ls [.int (iI ((r9 * v) % pr))]) rfl ?_
  refine lv_aload_n S0.1 S0.2.1 dX11_inverse_9 rfl (lv_at hl 1 rfl) ?_
  refine q_iconst S0 dX11_inverse_10 ?_
  refine q_pV (n := 1) (rest := [.int (iI ((r9 * v) % pr))]) S0 hK (c_X11_p l g mo az ap ak ax a1 a2 a3 a4 a5 a6 v1 v2 v3 v4 v5 v6 pm ik ty th mn wt bn wh dp dg Z pr 1 (hp) (hz0) (by omega)) (subP hP [0, 1] rfl) (trivial) gX11_inverse_X11_p rfl rfl rfl (by decide +kernel) ⟨Nat.le_of_ble_eq_true rfl, Nat.le_of_ble_eq_true rfl⟩ (q_recv hK hP (ci := 11) (q0 := 0) rfl rfl) rfl rfl hl.1 (Nat.le_of_ble_eq_true rfl) ⟨Nat.le_of_ble_eq_true rfl, Nat.le_of_ble_eq_true rfl⟩ dX11_inverse_11 ?_
  refine W.eq (g2 := F0 m 14 ls [.int (iI (1 % pr)), .int (iI ((r9 * v) % pr))]) rfl ?_
  refine q_icmp_eq (tgt := 23) S0 (by omega) dX11_inverse_14 (by decide) (fun c14 => ?_) (fun c14 => ?_)
  · skip
    refine lv_iload_n S0.1 S0.2.1 dX11_inverse_23 rfl (lv_at hl 0 rfl) ?_
    exact qp_iret S0 hr hlocks (by rw [inv_uniq hPm hv (by omega) c14]) dX11_inverse_24
  · skip
    refine q_iinc (lv' := [(2, .int (iI (r9 + 1))), (0, .ref mo), (1, .int (iI v))]) S0 dX11_inverse_17 hl (k := 0) rfl (by decide) rfl (fun ls hl => ?_)
    refine lv_goto (tgt := 2) S0.1 S0.2.1 dX11_inverse_20 (by decide) ?_
    have hne : ¬ r9 = inv' pr v := fun q => c14 (by rw [q]; exact inv_ok hPm hv)
    exact IHl (r9 + 1) ls (by (try dsimp only); omega) (by (try dsimp only); omega) (lv_sub hl [0, 1, 2] rfl)
