/-! the law's own methods -/
/-- a row times x + c, down to place d -/
def mulk (c p : Int) (f : Nat → Int) (d : Int) : Nat → Int := fun j => if d < (j : Int) ∧ j < 40 then (f j * c + (if 0 < j then f (j - 1) else 0)) % p else f j
theorem mulk_0 {c p : Int} {f : Nat → Int} : mulk c p f 39 = f := by
  funext j
  unfold mulk
  rw [if_neg (by omega)]
theorem mulk_e {c p : Int} {f : Nat → Int} : mulk c p f (-1) = mulx c p f := by
  funext j
  unfold mulk mulx
  by_cases h : j < 40
  · rw [if_pos (by omega), if_pos h]
  · rw [if_neg (by omega), if_neg h]
theorem mulk_at {c p d : Int} {f : Nat → Int} (h : 0 ≤ d) : mulk c p f d d.toNat = f d.toNat := by
  unfold mulk
  rw [if_neg (by omega)]
theorem mulk_lo {c p d : Int} {f : Nat → Int} (h : 0 < d) : mulk c p f d (d - 1).toNat = f (d - 1).toNat := by
  unfold mulk
  rw [if_neg (by omega)]
theorem mulk_s {c p d z : Int} {f : Nat → Int} (h : 0 ≤ d ∧ d ≤ 39) (hz : z = if 0 < d then f (d - 1).toNat else 0) : up (mulk c p f d) d.toNat ((f d.toNat * c + z) % p) = mulk c p f (d + (-1)) := by
  funext j
  by_cases e : j = d.toNat
  · rw [e, up_s]
    unfold mulk
    rw [if_pos (by omega), hz]
    by_cases z0 : 0 < d
    · rw [if_pos z0, if_pos (by omega), show (d - 1).toNat = d.toNat - 1 by omega]
    · rw [if_neg z0, if_neg (by omega)]
  · rw [up_n e]
    unfold mulk
    by_cases y : d < (j : Int) ∧ j < 40
    · rw [if_pos y, if_pos (show d + (-1) < (j : Int) ∧ j < 40 by omega)]
    · rw [if_neg y, if_neg (show ¬ (d + (-1) < (j : Int) ∧ j < 40) by omega)]
theorem mulx_rng {c p : Int} {f : Nat → Int} (hp : 0 < p) (h : ∀ j, 0 ≤ f j ∧ f j < p) : ∀ j, 0 ≤ mulx c p f j ∧ mulx c p f j < p := fun j => by
  unfold mulx
  split
  · exact emod_rng _ hp
  · exact h j
theorem tms_rng {c p : Int} (hp : 0 < p) : ∀ (n : Nat) (f : Nat → Int), (∀ j, 0 ≤ f j ∧ f j < p) → ∀ j, 0 ≤ tms c p n f j ∧ tms c p n f j < p
  | 0, _, h => h
  | n + 1, _, h => tms_rng hp n _ (mulx_rng hp h)
theorem sq_le8 {d n : Int} (h0 : 0 ≤ d) (h : d * d ≤ n) (hn : n ≤ 61) : d ≤ 7 := by
  rcases Int.lt_or_le 7 d with q | q
  · have : 8 * 8 ≤ d * d := Int.mul_le_mul (by omega) (by omega) (by omega) (by omega)
    omega
  · exact q
theorem dvd9_step {n d : Int} {k : Nat} (h : ¬ n < d * d) (h2 : ¬ n % d = 0) : dvd9 n (k + 1) d = dvd9 n k (d + 1) := by
  show (if n < d * d then 0 else if n % d = 0 then 1 else dvd9 n k (d + 1)) = _
  rw [if_neg h, if_neg h2]
theorem dvd9_hit {n d : Int} {k : Nat} (h : ¬ n < d * d) (h2 : n % d = 0) : dvd9 n (k + 1) d = 1 := by
  show (if n < d * d then 0 else if n % d = 0 then 1 else dvd9 n k (d + 1)) = _
  rw [if_neg h, if_pos h2]
theorem dvd9_end {n d : Int} {k : Nat} (h : n < d * d) : dvd9 n (k + 1) d = 0 := by
  show (if n < d * d then 0 else if n % d = 0 then 1 else dvd9 n k (d + 1)) = _
  rw [if_pos h]
theorem dvd9_01 {n : Int} : ∀ (k : Nat) (d : Int), dvd9 n k d = 0 ∨ dvd9 n k d = 1
  | 0, _ => Or.inl rfl
  | k + 1, d => by
    show (if n < d * d then (0 : Int) else if n % d = 0 then 1 else dvd9 n k (d + 1)) = 0 ∨ (if n < d * d then (0 : Int) else if n % d = 0 then 1 else dvd9 n k (d + 1)) = 1
    split
    · exact Or.inl rfl
    · split
      · exact Or.inr rfl
      · exact dvd9_01 k (d + 1)
theorem dvd9_ne2 {n : Int} (h : ¬ dvd9 n 62 2 = 0) : ¬ n = 2 := by
  intro e
  rw [e] at h
  exact h (dvd9_end (k := 61) (by decide))
theorem pri9_go {n : Int} {k : Nat} (h : ¬ dvd9 n 62 2 = 0) : pri9 (k + 1) n = pri9 k (n + (-1)) := by
  rw [show n + (-1) = n - 1 by omega]
  exact if_neg h
theorem pri9_end {n : Int} {k : Nat} (h : dvd9 n 62 2 = 0) : pri9 (k + 1) n = n := if_pos h

set_option maxHeartbeats 4000000 in
set_option maxRecDepth 100000 in
theorem c_L_low (l : Launch) (g : GG) (v n : Int) (hn : 0 < n ∧ n < 1000) : qPure l yL_low wsL_low ({ frames := 0, cells := 0, slots := 0, locals := 0 }) g [.int (iI v), .int (iI n)] [] (fun _ => True) (some (.int (iI (lo v n)))) := by
  refine q_ofP (cc := cL_low) (maxL := 2) (ret := (some .int)) (by decide) rfl (Nat.le_of_ble_eq_true rfl) ?_
  intro p e s m args below meth c ls S0 hr hlocks hK hP hX hl
  have hP : va_P g.1 vwCl [] s.heap := hP
  have hl : lv_has ls 2 [(0, .int (iI v)), (1, .int (iI n))] := hl
  refine lv_iload_n S0.1 S0.2.1 dL_low_0 rfl (lv_at hl 0 rfl) ?_
  refine lv_ldc (v := 2147483647) S0.1 S0.2.1 S0.2.2.2.1 (S0.2.2.2.2 _ (List.mem_of_getElem? (i := 1) rfl)) dL_low_1 ?_
  refine q_top (w := .int (iI 2147483647)) (by first | rfl | decide) ?_
  refine lv_iand S0.1 S0.2.1 dL_low_3 ?_
  refine q_top (w := .int (iI (lo0 v))) (congrArg Value.int (iI_of _)) ?_
  have hl0 := lo0_r v
  refine lv_iload_n S0.1 S0.2.1 dL_low_4 rfl (lv_at hl 1 rfl) ?_
  refine q_irem S0 (by omega) (by omega) dL_low_5 ?_
  exact qp_iret S0 hr hlocks (by unfold lo; rw [Int.tmod_eq_emod_of_nonneg hl0.1]) dL_low_6
set_option maxHeartbeats 4000000 in
set_option maxRecDepth 100000 in
theorem c_L_mod (l : Launch) (g : GG) (v pr : Int) (hpr : 0 < pr ∧ pr < 1000) (hv : -2147483648 ≤ v ∧ v < 2147483648) : qPure l yL_mod wsL_mod ({ frames := 0, cells := 0, slots := 0, locals := 0 }) g [.int (iI v), .int (iI pr)] [] (fun _ => True) (some (.int (iI (v % pr)))) := by
  refine q_ofP (cc := cL_mod) (maxL := 3) (ret := (some .int)) (by decide) rfl (Nat.le_of_ble_eq_true rfl) ?_
  intro p e s m args below meth c ls S0 hr hlocks hK hP hX hl
  have hP : va_P g.1 vwCl [] s.heap := hP
  have hl : lv_has ls 3 [(0, .int (iI v)), (1, .int (iI pr))] := hl
  refine lv_iload_n S0.1 S0.2.1 dL_mod_0 rfl (lv_at hl 0 rfl) ?_
  refine lv_iload_n S0.1 S0.2.1 dL_mod_1 rfl (lv_at hl 1 rfl) ?_
  refine q_irem S0 (by omega) (by omega) dL_mod_2 ?_
  have ht := tmod_rng (z := v) (p := pr) (by omega)
  refine lv_istore_n (lv' := [(2, .int (iI (Int.tmod v pr))), (0, .int (iI v)), (1, .int (iI pr))]) S0.1 S0.2.1 dL_mod_3 rfl hl (by decide) rfl (fun ls hl => ?_)
  refine lv_iload_n S0.1 S0.2.1 dL_mod_4 rfl (lv_at hl 0 rfl) ?_
  refine q_if_ge (tgt := 14) S0 (by omega) dL_mod_5 (by decide) (fun c5 => ?_) (fun c5 => ?_)
  · skip
    refine lv_iload_n S0.1 S0.2.1 dL_mod_14 rfl (lv_at hl 0 rfl) ?_
    exact qp_iret S0 hr hlocks (by first | rw [tmod_pos (by omega) (by omega)] | rw [tmod_neg (by omega) (by omega)]) dL_mod_15
  · skip
    refine lv_iload_n S0.1 S0.2.1 dL_mod_8 rfl (lv_at hl 0 rfl) ?_
    refine lv_iload_n S0.1 S0.2.1 dL_mod_9 rfl (lv_at hl 2 rfl) ?_
    refine q_iadd S0 dL_mod_10 ?_
    refine lv_goto (tgt := 15) S0.1 S0.2.1 dL_mod_11 (by decide) ?_
    exact qp_iret S0 hr hlocks (by first | rw [tmod_pos (by omega) (by omega)] | rw [tmod_neg (by omega) (by omega)]) dL_mod_15
set_option maxHeartbeats 4000000 in
set_option maxRecDepth 100000 in
theorem c_L_times (l : Launch) (g : GG) (q : Nat) (f : Nat → Int) (cc n pr : Int) (hpr : 2 ≤ pr ∧ pr ≤ 61) (hc : 0 ≤ cc ∧ cc < pr) (hn : 0 ≤ n ∧ n ≤ 9) (hf : ∀ j, 0 ≤ f j ∧ f j < pr) : qMet l yL_times wsL_times ({ frames := 1, cells := 0, slots := 0, locals := 22 }) g [.ref q, .int (iI cc), .int (iI n), .int (iI pr)] [(q, gI g 40 f)] (fun _ => True) (fun _ => True) (S := Unit) (fun _ => none) (fun _ => [(q, gI g 40 (tms cc pr n.toNat f))]) (fun _ => True) 0 0 := by
  refine q_ofW (cc := cL_times) (maxL := 6) (ret := none) (fun sz h => h.self) (by decide) rfl (Nat.le_of_ble_eq_true rfl) ?_
  intro p e s m args below meth c A ls S0 hr hlocks hnme hK hA hAe hW hD0 hX hl
  have hW : gW g A s.heap s.heap [] [(q, gI g 40 f)] := hW
  have hl : lv_has ls 6 [(0, .ref q), (1, .int (iI cc)), (2, .int (iI n)), (3, .int (iI pr))] := hl
  refine q_iconst S0 dL_times_0 ?_
  refine lv_istore (lv' := [(4, .int (iI 0)), (0, .ref q), (1, .int (iI cc)), (2, .int (iI n)), (3, .int (iI pr))]) S0.1 S0.2.1 dL_times_1 hl (by decide) rfl (fun ls hl => ?_)
  refine q_loop (α := Int × (Nat → Int)) (fun (z_ : Int × (Nat → Int)) => match z_ with | (k, h) => (0 ≤ k ∧ k ≤ n) ∧ h = tms cc pr k.toNat f ∧ ∀ j, 0 ≤ h j ∧ h j < pr) (fun (z_ : Int × (Nat → Int)) => match z_ with | (k, h) => (n - k).toNat) (fun (z_ : Int × (Nat → Int)) => match z_ with | (k, h) => [(q, gI g 40 h)]) (fun (z_ : Int × (Nat → Int)) => match z_ with | (k, h) => [(4, .int (iI k)), (0, .ref q), (1, .int (iI cc)), (2, .int (iI n)), (3, .int (iI pr))]) ?_ (0, f) (by exact ⟨by omega, rfl, hf⟩) hW (lv_sub hl [0, 1, 2, 3, 4] rfl)
  rintro ⟨k, h⟩ hinv IHl H locs ls hW hl
  try dsimp only at hinv
  have hW : gW g A s.heap H _ [(q, gI g 40 h)] := hW
  have hl : lv_has ls 6 [(4, .int (iI k)), (0, .ref q), (1, .int (iI cc)), (2, .int (iI n)), (3, .int (iI pr))] := hl
  obtain ⟨hk, hh, hr9⟩ := hinv
  refine lv_iload S0.1 S0.2.1 dL_times_3 (lv_at hl 0 rfl) ?_
  refine lv_iload_n S0.1 S0.2.1 dL_times_5 rfl (lv_at hl 3 rfl) ?_
  refine q_icmp_ge (tgt := 60) S0 (by omega) dL_times_6 (by decide) (fun c6 => ?_) (fun c6 => ?_)
  · skip
    rw [hh, show k.toNat = n.toNat by omega] at hW
    exact q_vret S0 hr hlocks () (trivial) rfl (hW.sub [0] rfl (rfl)) (Nat.le_of_ble_eq_true rfl) (Nat.le_of_ble_eq_true rfl) dL_times_60
  · skip
    refine q_bipush S0 (by decide) dL_times_9 ?_
    refine lv_istore (lv' := [(5, .int (iI 39)), (4, .int (iI k)), (0, .ref q), (1, .int (iI cc)), (2, .int (iI n)), (3, .int (iI pr))]) S0.1 S0.2.1 dL_times_11 hl (by decide) rfl (fun ls hl => ?_)
    refine q_loop (α := Int) (fun (d : Int) => -1 ≤ d ∧ d ≤ 39) (fun (d : Int) => (d + 1).toNat) (fun (d : Int) => [(q, gI g 40 (mulk cc pr h d))]) (fun (d : Int) => [(5, .int (iI d)), (4, .int (iI k)), (0, .ref q), (1, .int (iI cc)), (2, .int (iI n)), (3, .int (iI pr))]) ?_ 39 (by (try dsimp only); omega) (by rw [mulk_0]; exact hW) (lv_sub hl [0, 1, 2, 3, 4, 5] rfl)
    rintro d hinv IHl13 H locs ls hW hl
    try dsimp only at hinv
    have hW : gW g A s.heap H _ [(q, gI g 40 (mulk cc pr h d))] := hW
    have hl : lv_has ls 6 [(5, .int (iI d)), (4, .int (iI k)), (0, .ref q), (1, .int (iI cc)), (2, .int (iI n)), (3, .int (iI pr))] := hl
    refine lv_iload S0.1 S0.2.1 dL_times_13 (lv_at hl 0 rfl) ?_
    refine q_if_lt (tgt := 54) S0 (by omega) dL_times_15 (by decide) (fun c15 => ?_) (fun c15 => ?_)
    · skip
      refine q_iinc (lv' := [(4, .int (iI (k + 1))), (5, .int (iI d)), (0, .ref q), (1, .int (iI cc)), (2, .int (iI n)), (3, .int (iI pr))]) S0 dL_times_54 hl (k := 1) rfl (by decide) rfl (fun ls hl => ?_)
      refine lv_goto (tgt := 3) S0.1 S0.2.1 dL_times_57 (by decide) ?_
      rw [show d = -1 by omega, mulk_e] at hW
      exact IHl (k + 1, mulx cc pr h) H locs ls (by refine ⟨by omega, ?_, mulx_rng (by omega) hr9⟩; rw [hh, show (k + 1).toNat = k.toNat + 1 by omega, tms_s]) (by (try dsimp only); omega) hW (lv_sub hl [0, 2, 3, 4, 5] rfl)
    · skip
      refine lv_aload_n S0.1 S0.2.1 dL_times_18 rfl (lv_at hl 2 rfl) ?_
      refine lv_iload S0.1 S0.2.1 dL_times_19 (lv_at hl 0 rfl) ?_
      refine lv_aload_n S0.1 S0.2.1 dL_times_21 rfl (lv_at hl 2 rfl) ?_
      refine lv_iload S0.1 S0.2.1 dL_times_22 (lv_at hl 0 rfl) ?_
      refine q_iald S0 hK hW.1 0 rfl (by omega) dL_times_24 ?_
      refine q_topI (b := h d.toNat) (mulk_at (by omega)) ?_
      have hd9 := hr9 d.toNat
      have hm := mul_rng (a := h d.toNat) (b := cc) (n := 200) (k := 200) (by omega) (by omega)
      refine lv_iload_n S0.1 S0.2.1 dL_times_25 rfl (lv_at hl 3 rfl) ?_
      refine q_imul S0 dL_times_26 ?_
      refine q_cut (α := Int) (fun z9 => F0 m 42 ls (.int (iI z9) :: [.int (iI ((h d.toNat) * cc)), .int (iI d), .ref q])) (fun z9 => z9 = if 0 < d then h (d - 1).toNat else 0) (fun z9 hz9 => ?_) (fun hJ27 => ?_)
      · skip
        have hz9r : 0 ≤ z9 ∧ z9 < pr := by rw [hz9]; split; exact hr9 _; omega
        refine q_iadd S0 dL_times_42 ?_
        refine lv_iload_n S0.1 S0.2.1 dL_times_43 rfl (lv_at hl 5 rfl) ?_
        refine q_pS (n := 2) (rest := [.int (iI d), .ref q]) S0 hK (c_L_mod l g (((h d.toNat) * cc) + z9) pr (by omega) (by omega)) (subP hW.1 [] rfl) (trivial) gL_times_L_mod rfl rfl rfl (by decide +kernel) ⟨Nat.le_of_ble_eq_true rfl, Nat.le_of_ble_eq_true rfl⟩ rfl rfl hl.1 (Nat.le_of_ble_eq_true rfl) ⟨Nat.le_of_ble_eq_true rfl, Nat.le_of_ble_eq_true rfl⟩ dL_times_44 ?_
        refine W.eq (g2 := F0 m 47 ls [.int (iI ((((h d.toNat) * cc) + z9) % pr)), .int (iI d), .ref q]) rfl ?_
        refine q_iast S0 hK hW 0 rfl (by omega) dL_times_47 (fun H locs hW => ?_)
        have hW : gW g A s.heap H _ [(q, gI g 40 (up (mulk cc pr h d) ((d).toNat) ((((h d.toNat) * cc) + z9) % pr)))] := hW
        refine q_iinc (lv' := [(5, .int (iI (d + (-1)))), (4, .int (iI k)), (0, .ref q), (1, .int (iI cc)), (2, .int (iI n)), (3, .int (iI pr))]) S0 dL_times_48 hl (k := 0) rfl (by decide) rfl (fun ls hl => ?_)
        refine lv_goto (tgt := 13) S0.1 S0.2.1 dL_times_51 (by decide) ?_
        rw [mulk_s (by omega) hz9] at hW
        exact IHl13 (d + (-1)) H locs ls (by (try dsimp only); omega) (by (try dsimp only); omega) hW (lv_sub hl [0, 1, 2, 3, 4, 5] rfl)
      · skip
        refine lv_iload S0.1 S0.2.1 dL_times_27 (lv_at hl 0 rfl) ?_
        refine q_if_le (tgt := 41) S0 (by omega) dL_times_29 (by decide) (fun c29 => ?_) (fun c29 => ?_)
        · skip
          refine q_iconst S0 dL_times_41 ?_
          exact hJ27 _ (by first | (rw [if_pos (by omega)]; done) | (rw [if_neg (by omega)]; done))
        · skip
          refine lv_aload_n S0.1 S0.2.1 dL_times_32 rfl (lv_at hl 2 rfl) ?_
          refine lv_iload S0.1 S0.2.1 dL_times_33 (lv_at hl 0 rfl) ?_
          refine q_iconst S0 dL_times_35 ?_
          refine q_isub S0 dL_times_36 ?_
          refine q_iald S0 hK hW.1 0 rfl (by omega) dL_times_37 ?_
          refine q_topI (b := h (d - 1).toNat) (mulk_lo (by omega)) ?_
          refine lv_goto (tgt := 42) S0.1 S0.2.1 dL_times_38 (by decide) ?_
          exact hJ27 _ (by first | (rw [if_pos (by omega)]; done) | (rw [if_neg (by omega)]; done))
set_option maxHeartbeats 4000000 in
set_option maxRecDepth 100000 in
theorem c_L_at (l : Launch) (g : GG) (q : Nat) (f : Nat → Int) (x pr : Int) (hpr : 2 ≤ pr ∧ pr ≤ 61) (hx : 0 ≤ x ∧ x < pr) (hf : ∀ j, 0 ≤ f j ∧ f j < pr) : qPure l yL_at wsL_at ({ frames := 1, cells := 0, slots := 0, locals := 22 }) g [.ref q, .int (iI x), .int (iI pr)] [(q, gI g 40 f)] (fun _ => True) (some (.int (iI (hor f x pr 40 0)))) := by
  refine q_ofP (cc := cL_at) (maxL := 5) (ret := (some .int)) (by decide) rfl (Nat.le_of_ble_eq_true rfl) ?_
  intro p e s m args below meth c ls S0 hr hlocks hK hP hX hl
  have hP : va_P g.1 vwCl [(q, gI g 40 f)] s.heap := hP
  have hl : lv_has ls 5 [(0, .ref q), (1, .int (iI x)), (2, .int (iI pr))] := hl
  refine q_iconst S0 dL_at_0 ?_
  refine lv_istore_n (lv' := [(3, .int (iI 0)), (0, .ref q), (1, .int (iI x)), (2, .int (iI pr))]) S0.1 S0.2.1 dL_at_1 rfl hl (by decide) rfl (fun ls hl => ?_)
  refine q_bipush S0 (by decide) dL_at_2 ?_
  refine lv_istore (lv' := [(4, .int (iI 39)), (3, .int (iI 0)), (0, .ref q), (1, .int (iI x)), (2, .int (iI pr))]) S0.1 S0.2.1 dL_at_4 hl (by decide) rfl (fun ls hl => ?_)
  refine q_loopP (α := Int × Int) (fun (z_ : Int × Int) => match z_ with | (v, d) => (-1 ≤ d ∧ d ≤ 39) ∧ (0 ≤ v ∧ v < pr) ∧ hor f x pr (d + 1).toNat v = hor f x pr 40 0) (fun (z_ : Int × Int) => match z_ with | (v, d) => (d + 1).toNat) (fun (z_ : Int × Int) => match z_ with | (v, d) => [(4, .int (iI d)), (3, .int (iI v)), (0, .ref q), (1, .int (iI x)), (2, .int (iI pr))]) ?_ (0, 39) (by exact ⟨by omega, by omega, rfl⟩) (lv_sub hl [0, 1, 2, 3, 4] rfl)
  rintro ⟨v, d⟩ hinv IHl ls hl
  try dsimp only at hinv
  have hl : lv_has ls 5 [(4, .int (iI d)), (3, .int (iI v)), (0, .ref q), (1, .int (iI x)), (2, .int (iI pr))] := hl
  obtain ⟨hd, hv, heq⟩ := hinv
  refine lv_iload S0.1 S0.2.1 dL_at_6 (lv_at hl 0 rfl) ?_
  refine q_if_lt (tgt := 30) S0 (by omega) dL_at_8 (by decide) (fun c8 => ?_) (fun c8 => ?_)
  · skip
    refine lv_iload_n S0.1 S0.2.1 dL_at_30 rfl (lv_at hl 1 rfl) ?_
    exact qp_iret S0 hr hlocks (by rw [← heq, show (d + 1).toNat = 0 by omega]; rfl) dL_at_31
  · skip
    refine lv_iload_n S0.1 S0.2.1 dL_at_11 rfl (lv_at hl 1 rfl) ?_
    refine lv_iload_n S0.1 S0.2.1 dL_at_12 rfl (lv_at hl 3 rfl) ?_
    refine q_imul S0 dL_at_13 ?_
    refine lv_aload_n S0.1 S0.2.1 dL_at_14 rfl (lv_at hl 2 rfl) ?_
    refine lv_iload S0.1 S0.2.1 dL_at_15 (lv_at hl 0 rfl) ?_
    refine q_iald S0 hK hP 0 rfl (by omega) dL_at_17 ?_
    have hd9 := hf d.toNat
    have hm := mul_rng (a := v) (b := x) (n := 200) (k := 200) (by omega) (by omega)
    refine q_iadd S0 dL_at_18 ?_
    refine lv_iload_n S0.1 S0.2.1 dL_at_19 rfl (lv_at hl 4 rfl) ?_
    refine q_pS (n := 2) (rest := []) S0 hK (c_L_mod l g ((v * x) + (f (d).toNat)) pr (by omega) (by omega)) (subP hP [] rfl) (trivial) gL_at_L_mod rfl rfl rfl (by decide +kernel) ⟨Nat.le_of_ble_eq_true rfl, Nat.le_of_ble_eq_true rfl⟩ rfl rfl hl.1 (Nat.le_of_ble_eq_true rfl) ⟨Nat.le_of_ble_eq_true rfl, Nat.le_of_ble_eq_true rfl⟩ dL_at_20 ?_
    refine W.eq (g2 := F0 m 23 ls [.int (iI (((v * x) + (f (d).toNat)) % pr))]) rfl ?_
    refine lv_istore_n (lv' := [(3, .int (iI (((v * x) + (f (d).toNat)) % pr))), (4, .int (iI d)), (0, .ref q), (1, .int (iI x)), (2, .int (iI pr))]) S0.1 S0.2.1 dL_at_23 rfl hl (by decide) rfl (fun ls hl => ?_)
    refine q_iinc (lv' := [(4, .int (iI (d + (-1)))), (3, .int (iI (((v * x) + (f (d).toNat)) % pr))), (0, .ref q), (1, .int (iI x)), (2, .int (iI pr))]) S0 dL_at_24 hl (k := 1) rfl (by decide) rfl (fun ls hl => ?_)
    refine lv_goto (tgt := 6) S0.1 S0.2.1 dL_at_27 (by decide) ?_
    exact IHl (((v * x) + (f (d).toNat)) % pr, d + (-1)) ls (by refine ⟨by omega, emod_rng _ (by omega), ?_⟩; rw [← heq, show (d + 1).toNat = (d + (-1) + 1).toNat + 1 by omega]; show _ = hor f x pr (d + (-1) + 1).toNat ((v * x + f (d + (-1) + 1).toNat) % pr); rw [show (d + (-1) + 1).toNat = d.toNat by omega]) (by (try dsimp only); omega) (lv_sub hl [0, 1, 2, 3, 4] rfl)
set_option maxHeartbeats 4000000 in
set_option maxRecDepth 100000 in
theorem c_L_slopeAt (l : Launch) (g : GG) (q : Nat) (f : Nat → Int) (x pr : Int) (hpr : 2 ≤ pr ∧ pr ≤ 61) (hx : 0 ≤ x ∧ x < pr) (hf : ∀ j, 0 ≤ f j ∧ f j < pr) : qPure l yL_slopeAt wsL_slopeAt ({ frames := 1, cells := 0, slots := 0, locals := 22 }) g [.ref q, .int (iI x), .int (iI pr)] [(q, gI g 40 f)] (fun _ => True) (some (.int (iI (hor (dh f pr) x pr 39 0)))) := by
  refine q_ofP (cc := cL_slopeAt) (maxL := 5) (ret := (some .int)) (by decide) rfl (Nat.le_of_ble_eq_true rfl) ?_
  intro p e s m args below meth c ls S0 hr hlocks hK hP hX hl
  have hP : va_P g.1 vwCl [(q, gI g 40 f)] s.heap := hP
  have hl : lv_has ls 5 [(0, .ref q), (1, .int (iI x)), (2, .int (iI pr))] := hl
  refine q_iconst S0 dL_slopeAt_0 ?_
  refine lv_istore_n (lv' := [(3, .int (iI 0)), (0, .ref q), (1, .int (iI x)), (2, .int (iI pr))]) S0.1 S0.2.1 dL_slopeAt_1 rfl hl (by decide) rfl (fun ls hl => ?_)
  refine q_bipush S0 (by decide) dL_slopeAt_2 ?_
  refine lv_istore (lv' := [(4, .int (iI 39)), (3, .int (iI 0)), (0, .ref q), (1, .int (iI x)), (2, .int (iI pr))]) S0.1 S0.2.1 dL_slopeAt_4 hl (by decide) rfl (fun ls hl => ?_)
  refine q_loopP (α := Int × Int) (fun (z_ : Int × Int) => match z_ with | (v, d) => (0 ≤ d ∧ d ≤ 39) ∧ (0 ≤ v ∧ v < pr) ∧ hor (dh f pr) x pr d.toNat v = hor (dh f pr) x pr 39 0) (fun (z_ : Int × Int) => match z_ with | (v, d) => d.toNat) (fun (z_ : Int × Int) => match z_ with | (v, d) => [(4, .int (iI d)), (3, .int (iI v)), (0, .ref q), (1, .int (iI x)), (2, .int (iI pr))]) ?_ (0, 39) (by exact ⟨by omega, by omega, rfl⟩) (lv_sub hl [0, 1, 2, 3, 4] rfl)
  rintro ⟨v, d⟩ hinv IHl ls hl
  try dsimp only at hinv
  have hl : lv_has ls 5 [(4, .int (iI d)), (3, .int (iI v)), (0, .ref q), (1, .int (iI x)), (2, .int (iI pr))] := hl
  obtain ⟨hd, hv, heq⟩ := hinv
  refine lv_iload S0.1 S0.2.1 dL_slopeAt_6 (lv_at hl 0 rfl) ?_
  refine q_if_le (tgt := 35) S0 (by omega) dL_slopeAt_8 (by decide) (fun c8 => ?_) (fun c8 => ?_)
  · skip
    refine lv_iload_n S0.1 S0.2.1 dL_slopeAt_35 rfl (lv_at hl 1 rfl) ?_
    exact qp_iret S0 hr hlocks (by rw [← heq, show d.toNat = 0 by omega]; rfl) dL_slopeAt_36
  · skip
    refine lv_iload_n S0.1 S0.2.1 dL_slopeAt_11 rfl (lv_at hl 1 rfl) ?_
    refine lv_iload_n S0.1 S0.2.1 dL_slopeAt_12 rfl (lv_at hl 3 rfl) ?_
    refine q_imul S0 dL_slopeAt_13 ?_
    refine lv_aload_n S0.1 S0.2.1 dL_slopeAt_14 rfl (lv_at hl 2 rfl) ?_
    refine lv_iload S0.1 S0.2.1 dL_slopeAt_15 (lv_at hl 0 rfl) ?_
    refine q_iald S0 hK hP 0 rfl (by omega) dL_slopeAt_17 ?_
    refine lv_iload S0.1 S0.2.1 dL_slopeAt_18 (lv_at hl 0 rfl) ?_
    refine lv_iload_n S0.1 S0.2.1 dL_slopeAt_20 rfl (lv_at hl 4 rfl) ?_
    refine q_irem S0 (by omega) (by omega) dL_slopeAt_21 ?_
    refine q_topI (b := d % pr) (Int.tmod_eq_emod_of_nonneg (by omega)) ?_
    have hd9 := hf d.toNat
    have he9 := emod_rng d (p := pr) (by omega)
    have hm := mul_rng (a := v) (b := x) (n := 200) (k := 200) (by omega) (by omega)
    have hm2 := mul_rng (a := f d.toNat) (b := d % pr) (n := 200) (k := 200) (by omega) (by omega)
    refine q_imul S0 dL_slopeAt_22 ?_
    refine q_iadd S0 dL_slopeAt_23 ?_
    refine lv_iload_n S0.1 S0.2.1 dL_slopeAt_24 rfl (lv_at hl 4 rfl) ?_
    refine q_pS (n := 2) (rest := []) S0 hK (c_L_mod l g ((v * x) + ((f (d).toNat) * (d % pr))) pr (by omega) (by omega)) (subP hP [] rfl) (trivial) gL_slopeAt_L_mod rfl rfl rfl (by decide +kernel) ⟨Nat.le_of_ble_eq_true rfl, Nat.le_of_ble_eq_true rfl⟩ rfl rfl hl.1 (Nat.le_of_ble_eq_true rfl) ⟨Nat.le_of_ble_eq_true rfl, Nat.le_of_ble_eq_true rfl⟩ dL_slopeAt_25 ?_
    refine W.eq (g2 := F0 m 28 ls [.int (iI (((v * x) + ((f (d).toNat) * (d % pr))) % pr))]) rfl ?_
    refine lv_istore_n (lv' := [(3, .int (iI (((v * x) + ((f (d).toNat) * (d % pr))) % pr))), (4, .int (iI d)), (0, .ref q), (1, .int (iI x)), (2, .int (iI pr))]) S0.1 S0.2.1 dL_slopeAt_28 rfl hl (by decide) rfl (fun ls hl => ?_)
    refine q_iinc (lv' := [(4, .int (iI (d + (-1)))), (3, .int (iI (((v * x) + ((f (d).toNat) * (d % pr))) % pr))), (0, .ref q), (1, .int (iI x)), (2, .int (iI pr))]) S0 dL_slopeAt_29 hl (k := 1) rfl (by decide) rfl (fun ls hl => ?_)
    refine lv_goto (tgt := 6) S0.1 S0.2.1 dL_slopeAt_32 (by decide) ?_
    exact IHl (((v * x) + ((f (d).toNat) * (d % pr))) % pr, d + (-1)) ls (by refine ⟨by omega, emod_rng _ (by omega), ?_⟩; rw [← heq, show d.toNat = (d + (-1)).toNat + 1 by omega]; show _ = hor (dh f pr) x pr (d + (-1)).toNat ((v * x + f ((d + (-1)).toNat + 1) * (((((d + (-1)).toNat : Nat) : Int) + 1) % pr)) % pr); rw [show ((((d + (-1)).toNat : Nat) : Int) + 1) = d by omega]) (by (try dsimp only); omega) (lv_sub hl [0, 1, 2, 3, 4] rfl)
set_option maxHeartbeats 4000000 in
set_option maxRecDepth 100000 in
theorem c_L_inverse (l : Launch) (g : GG) (v pr : Int) (hpr : 2 ≤ pr ∧ pr ≤ 61) (hv : 0 ≤ v ∧ v < pr) : qPure l yL_inverse wsL_inverse ({ frames := 1, cells := 0, slots := 0, locals := 22 }) g [.int (iI v), .int (iI pr)] [] (fun _ => True) (some (.int (iI (inv' pr v)))) := by
  refine q_ofP (cc := cL_inverse) (maxL := 4) (ret := (some .int)) (by decide) rfl (Nat.le_of_ble_eq_true rfl) ?_
  intro p e s m args below meth c ls S0 hr hlocks hK hP hX hl
  have hP : va_P g.1 vwCl [] s.heap := hP
  have hl : lv_has ls 4 [(0, .int (iI v)), (1, .int (iI pr))] := hl
  refine q_iconst S0 dL_inverse_0 ?_
  refine lv_istore_n (lv' := [(2, .int (iI 1)), (0, .int (iI v)), (1, .int (iI pr))]) S0.1 S0.2.1 dL_inverse_1 rfl hl (by decide) rfl (fun ls hl => ?_)
  refine q_iconst S0 dL_inverse_2 ?_
  refine lv_istore_n (lv' := [(3, .int (iI 0)), (2, .int (iI 1)), (0, .int (iI v)), (1, .int (iI pr))]) S0.1 S0.2.1 dL_inverse_3 rfl hl (by decide) rfl (fun ls hl => ?_)
  refine q_loopP (α := Int × Int) (fun (z_ : Int × Int) => match z_ with | (r, k) => (0 ≤ k ∧ k ≤ pr - 2) ∧ (0 ≤ r ∧ r < pr) ∧ itm v pr (pr - 2 - k).toNat r = itm v pr (pr - 2).toNat 1) (fun (z_ : Int × Int) => match z_ with | (r, k) => (pr - 2 - k).toNat) (fun (z_ : Int × Int) => match z_ with | (r, k) => [(3, .int (iI k)), (2, .int (iI r)), (0, .int (iI v)), (1, .int (iI pr))]) ?_ (1, 0) (by exact ⟨by omega, by omega, by rw [Int.sub_zero]⟩) (lv_sub hl [0, 1, 2, 3] rfl)
  rintro ⟨r, k⟩ hinv IHl ls hl
  try dsimp only at hinv
  have hl : lv_has ls 4 [(3, .int (iI k)), (2, .int (iI r)), (0, .int (iI v)), (1, .int (iI pr))] := hl
  obtain ⟨hk, hr9, heq⟩ := hinv
  refine lv_iload_n S0.1 S0.2.1 dL_inverse_4 rfl (lv_at hl 0 rfl) ?_
  refine lv_iload_n S0.1 S0.2.1 dL_inverse_5 rfl (lv_at hl 3 rfl) ?_
  refine q_iconst S0 dL_inverse_6 ?_
  refine q_isub S0 dL_inverse_7 ?_
  refine q_icmp_ge (tgt := 25) S0 (by omega) dL_inverse_8 (by decide) (fun c8 => ?_) (fun c8 => ?_)
  · skip
    refine lv_iload_n S0.1 S0.2.1 dL_inverse_25 rfl (lv_at hl 1 rfl) ?_
    exact qp_iret S0 hr hlocks (by rw [← itm_inv (by omega), ← heq, show (pr - 2 - k).toNat = 0 by omega]; rfl) dL_inverse_26
  · skip
    refine lv_iload_n S0.1 S0.2.1 dL_inverse_11 rfl (lv_at hl 1 rfl) ?_
    refine lv_iload_n S0.1 S0.2.1 dL_inverse_12 rfl (lv_at hl 2 rfl) ?_
    have hm := mul_rng (a := r) (b := v) (n := 200) (k := 200) (by omega) (by omega)
    refine q_imul S0 dL_inverse_13 ?_
    refine lv_iload_n S0.1 S0.2.1 dL_inverse_14 rfl (lv_at hl 3 rfl) ?_
    refine q_pS (n := 2) (rest := []) S0 hK (c_L_mod l g (r * v) pr (by omega) (by omega)) (subP hP [] rfl) (trivial) gL_inverse_L_mod rfl rfl rfl (by decide +kernel) ⟨Nat.le_of_ble_eq_true rfl, Nat.le_of_ble_eq_true rfl⟩ rfl rfl hl.1 (Nat.le_of_ble_eq_true rfl) ⟨Nat.le_of_ble_eq_true rfl, Nat.le_of_ble_eq_true rfl⟩ dL_inverse_15 ?_
    refine W.eq (g2 := F0 m 18 ls [.int (iI ((r * v) % pr))]) rfl ?_
    refine lv_istore_n (lv' := [(2, .int (iI ((r * v) % pr))), (3, .int (iI k)), (0, .int (iI v)), (1, .int (iI pr))]) S0.1 S0.2.1 dL_inverse_18 rfl hl (by decide) rfl (fun ls hl => ?_)
    refine q_iinc (lv' := [(3, .int (iI (k + 1))), (2, .int (iI ((r * v) % pr))), (0, .int (iI v)), (1, .int (iI pr))]) S0 dL_inverse_19 hl (k := 1) rfl (by decide) rfl (fun ls hl => ?_)
    refine lv_goto (tgt := 4) S0.1 S0.2.1 dL_inverse_22 (by decide) ?_
    exact IHl ((r * v) % pr, k + 1) ls (by refine ⟨by omega, emod_rng _ (by omega), ?_⟩; rw [← heq, show (pr - 2 - k).toNat = (pr - 2 - (k + 1)).toNat + 1 by omega]; rfl) (by (try dsimp only); omega) (lv_sub hl [0, 1, 2, 3] rfl)
set_option maxHeartbeats 4000000 in
set_option maxRecDepth 100000 in
theorem c_L_divided (l : Launch) (g : GG) (n : Int) (hn : 2 ≤ n ∧ n ≤ 61) : qPure l yL_divided wsL_divided ({ frames := 0, cells := 0, slots := 0, locals := 0 }) g [.int (iI n)] [] (fun _ => True) (some (.int (iI (dvd9 n 62 2)))) := by
  refine q_ofP (cc := cL_divided) (maxL := 2) (ret := (some .boolean)) (by decide) rfl (Nat.le_of_ble_eq_true rfl) ?_
  intro p e s m args below meth c ls S0 hr hlocks hK hP hX hl
  have hP : va_P g.1 vwCl [] s.heap := hP
  have hl : lv_has ls 2 [(0, .int (iI n))] := hl
  refine q_iconst S0 dL_divided_0 ?_
  refine lv_istore_n (lv' := [(1, .int (iI 2)), (0, .int (iI n))]) S0.1 S0.2.1 dL_divided_1 rfl hl (by decide) rfl (fun ls hl => ?_)
  refine q_loopP (α := Int) (fun (d : Int) => (2 ≤ d ∧ d ≤ 8) ∧ dvd9 n (64 - d).toNat d = dvd9 n 62 2) (fun (d : Int) => (64 - d).toNat) (fun (d : Int) => [(1, .int (iI d)), (0, .int (iI n))]) ?_ 2 (by exact ⟨by omega, rfl⟩) (lv_sub hl [0, 1] rfl)
  rintro d hinv IHl ls hl
  try dsimp only at hinv
  have hl : lv_has ls 2 [(1, .int (iI d)), (0, .int (iI n))] := hl
  obtain ⟨hd, heq⟩ := hinv
  have hm := mul_rng (a := d) (b := d) (n := 200) (k := 200) (by omega) (by omega)
  refine lv_iload_n S0.1 S0.2.1 dL_divided_2 rfl (lv_at hl 0 rfl) ?_
  refine lv_iload_n S0.1 S0.2.1 dL_divided_3 rfl (lv_at hl 0 rfl) ?_
  refine q_imul S0 dL_divided_4 ?_
  refine lv_iload_n S0.1 S0.2.1 dL_divided_5 rfl (lv_at hl 1 rfl) ?_
  refine q_icmp_gt (tgt := 23) S0 (by omega) dL_divided_6 (by decide) (fun c6 => ?_) (fun c6 => ?_)
  · skip
    refine q_iconst S0 dL_divided_23 ?_
    exact qp_zret S0 hr hlocks (Or.inl rfl) (by refine congrArg (fun z => some (Value.int (iI z))) (?_ : _ = _); rw [← heq, show (64 - d).toNat = (64 - (d + 1)).toNat + 1 by omega]; exact dvd9_end (by omega)) dL_divided_24
  · skip
    refine lv_iload_n S0.1 S0.2.1 dL_divided_9 rfl (lv_at hl 1 rfl) ?_
    refine lv_iload_n S0.1 S0.2.1 dL_divided_10 rfl (lv_at hl 0 rfl) ?_
    refine q_irem S0 (by omega) (by omega) dL_divided_11 ?_
    refine q_if_ne (tgt := 17) S0 (by have := tmod_rng (z := n) (p := d) (by omega); omega) dL_divided_12 (by decide) (fun c12 => ?_) (fun c12 => ?_)
    · skip
      refine q_iinc (lv' := [(1, .int (iI (d + 1))), (0, .int (iI n))]) S0 dL_divided_17 hl (k := 0) rfl (by decide) rfl (fun ls hl => ?_)
      refine lv_goto (tgt := 2) S0.1 S0.2.1 dL_divided_20 (by decide) ?_
      exact IHl (d + 1) ls (by refine ⟨by have := sq_le8 (d := d) (n := n) (by omega) (by omega) (by omega); omega, ?_⟩; rw [← heq, show (64 - d).toNat = (64 - (d + 1)).toNat + 1 by omega]; symm; exact dvd9_step (by omega) (by rw [← Int.tmod_eq_emod_of_nonneg (by omega)]; exact c12)) (by (try dsimp only); omega) (lv_sub hl [0, 1] rfl)
    · skip
      refine q_iconst S0 dL_divided_15 ?_
      exact qp_zret S0 hr hlocks (Or.inr rfl) (by refine congrArg (fun z => some (Value.int (iI z))) (?_ : _ = _); rw [← heq, show (64 - d).toNat = (64 - (d + 1)).toNat + 1 by omega]; exact dvd9_hit (by omega) (by rw [← Int.tmod_eq_emod_of_nonneg (by omega)]; exact c12)) dL_divided_16
set_option maxHeartbeats 4000000 in
set_option maxRecDepth 100000 in
theorem c_L_prime (l : Launch) (g : GG) (v : Int) : qPure l yL_prime wsL_prime ({ frames := 1, cells := 0, slots := 0, locals := 21 }) g [.int (iI v)] [] (fun _ => True) (some (.int (iI (pri9 60 (2 + lo v 60))))) := by
  refine q_ofP (cc := cL_prime) (maxL := 2) (ret := (some .int)) (by decide) rfl (Nat.le_of_ble_eq_true rfl) ?_
  intro p e s m args below meth c ls S0 hr hlocks hK hP hX hl
  have hP : va_P g.1 vwCl [] s.heap := hP
  have hl : lv_has ls 2 [(0, .int (iI v))] := hl
  have hlo := lo_r (v := v) (n := 60) (by omega)
  refine q_iconst S0 dL_prime_0 ?_
  refine lv_iload_n S0.1 S0.2.1 dL_prime_1 rfl (lv_at hl 0 rfl) ?_
  refine q_bipush S0 (by decide) dL_prime_2 ?_
  refine q_pS (n := 2) (rest := [.int (iI 2)]) S0 hK (c_L_low l g v 60 (by omega)) (subP hP [] rfl) (trivial) gL_prime_L_low rfl rfl rfl (by decide +kernel) ⟨Nat.le_of_ble_eq_true rfl, Nat.le_of_ble_eq_true rfl⟩ rfl rfl hl.1 (Nat.le_of_ble_eq_true rfl) ⟨Nat.le_of_ble_eq_true rfl, Nat.le_of_ble_eq_true rfl⟩ dL_prime_4 ?_
  refine W.eq (g2 := F0 m 7 ls [.int (iI (lo v 60)), .int (iI 2)]) rfl ?_
  refine q_iadd S0 dL_prime_7 ?_
  refine lv_istore_n (lv' := [(1, .int (iI (2 + (lo v 60)))), (0, .int (iI v))]) S0.1 S0.2.1 dL_prime_8 rfl hl (by decide) rfl (fun ls hl => ?_)
  refine q_loopP (α := Int) (fun (n : Int) => (2 ≤ n ∧ n ≤ 2 + lo v 60) ∧ pri9 (60 - (2 + lo v 60) + n).toNat n = pri9 60 (2 + lo v 60)) (fun (n : Int) => n.toNat) (fun (n : Int) => [(1, .int (iI n)), (0, .int (iI v))]) ?_ (2 + lo v 60) (by exact ⟨by omega, by rw [show 60 - (2 + lo v 60) + (2 + lo v 60) = 60 by omega]; rfl⟩) (lv_sub hl [0, 1] rfl)
  rintro n hinv IHl ls hl
  try dsimp only at hinv
  have hl : lv_has ls 2 [(1, .int (iI n)), (0, .int (iI v))] := hl
  obtain ⟨hn, heq⟩ := hinv
  have hdv := dvd9_01 (n := n) 62 2
  refine lv_iload_n S0.1 S0.2.1 dL_prime_9 rfl (lv_at hl 0 rfl) ?_
  refine q_pS (n := 1) (rest := []) S0 hK (c_L_divided l g n (by omega)) (subP hP [] rfl) (trivial) gL_prime_L_divided rfl rfl rfl (by decide +kernel) ⟨Nat.le_of_ble_eq_true rfl, Nat.le_of_ble_eq_true rfl⟩ rfl rfl hl.1 (Nat.le_of_ble_eq_true rfl) ⟨Nat.le_of_ble_eq_true rfl, Nat.le_of_ble_eq_true rfl⟩ dL_prime_10 ?_
  refine W.eq (g2 := F0 m 13 ls [.int (iI (dvd9 n 62 2))]) rfl ?_
  refine q_if_eq (tgt := 22) S0 (by omega) dL_prime_13 (by decide) (fun c13 => ?_) (fun c13 => ?_)
  · skip
    refine lv_iload_n S0.1 S0.2.1 dL_prime_22 rfl (lv_at hl 0 rfl) ?_
    exact qp_iret S0 hr hlocks (by refine congrArg (fun z => some (Value.int (iI z))) (?_ : _ = _); rw [← heq, show (60 - (2 + lo v 60) + n).toNat = (60 - (2 + lo v 60) + n - 1).toNat + 1 by omega]; exact pri9_end c13) dL_prime_23
  · skip
    refine q_iinc (lv' := [(1, .int (iI (n + (-1)))), (0, .int (iI v))]) S0 dL_prime_16 hl (k := 0) rfl (by decide) rfl (fun ls hl => ?_)
    refine lv_goto (tgt := 9) S0.1 S0.2.1 dL_prime_19 (by decide) ?_
    exact IHl (n + (-1)) ls (by have h2 := dvd9_ne2 c13; refine ⟨by omega, ?_⟩; rw [← heq, show (60 - (2 + lo v 60) + n).toNat = (60 - (2 + lo v 60) + (n + (-1))).toNat + 1 by omega]; exact (pri9_go c13).symm) (by (try dsimp only); omega) (lv_sub hl [0, 1] rfl)
