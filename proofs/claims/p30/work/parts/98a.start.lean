theorem inX0 : ∀ w ∈ wsX00, w ∈ lw_tbl := fun w h => wsL_law_in w (inlX0 w h)
theorem inX1 : ∀ w ∈ wsX10, w ∈ lw_tbl := fun w h => wsL_law_in w (inlX1 w h)
theorem inX2 : ∀ w ∈ wsX20, w ∈ lw_tbl := fun w h => wsL_law_in w (inlX2 w h)
theorem inX3 : ∀ w ∈ wsX30, w ∈ lw_tbl := fun w h => wsL_law_in w (inlX3 w h)
theorem inX4 : ∀ w ∈ wsX40, w ∈ lw_tbl := fun w h => wsL_law_in w (inlX4 w h)
theorem inX5 : ∀ w ∈ wsX50, w ∈ lw_tbl := fun w h => wsL_law_in w (inlX5 w h)
theorem inX6 : ∀ w ∈ wsX60, w ∈ lw_tbl := fun w h => wsL_law_in w (inlX6 w h)
theorem inX7 : ∀ w ∈ wsX70, w ∈ lw_tbl := fun w h => wsL_law_in w (inlX7 w h)
theorem inX8 : ∀ w ∈ wsX80, w ∈ lw_tbl := fun w h => wsL_law_in w (inlX8 w h)
theorem inX9 : ∀ w ∈ wsX90, w ∈ lw_tbl := fun w h => wsL_law_in w (inlX9 w h)
theorem inX10 : ∀ w ∈ wsX100, w ∈ lw_tbl := fun w h => wsL_law_in w (inlX10 w h)
theorem nest_in : ∀ w ∈ nestW, w ∈ lw_tbl := by decide +kernel
theorem law_cls {s : State} {b : Nat} (hts : ∀ w ∈ lw_tbl, w.before #[Value.ref b] s = true) : ∀ k : Nat, ∃ d : ClassId × (Nat → Nat), ∀ q : vw_C, vwCl[k]? = some q → u_Kn s q.1 q.2.1 q.2.2 d.1 d.2 := by
  intro k
  match k with
  | 0 =>
    obtain ⟨cC, iS, h⟩ := u_known (C := RX0) (T := TX0) (N := 10) (n := 10) hts inX0 (hts _ (wsL_law_in _ (lr_r2 (List.mem_of_getElem? (i := 13) rfl))))
    exact ⟨(cC, iS), fun q hq => by cases hq; exact h⟩
  | 1 =>
    obtain ⟨cC, iS, h⟩ := u_known (C := RX1) (T := TX1) (N := 7) (n := 7) hts inX1 (hts _ (wsL_law_in _ (lr_r5 (List.mem_of_getElem? (i := 15) rfl))))
    exact ⟨(cC, iS), fun q hq => by cases hq; exact h⟩
  | 2 =>
    obtain ⟨cC, iS, h⟩ := u_known (C := RX2) (T := TX2) (N := 2) (n := 2) hts inX2 (hts _ (wsL_law_in _ (lr_r1 (List.mem_of_getElem? (i := 19) rfl))))
    exact ⟨(cC, iS), fun q hq => by cases hq; exact h⟩
  | 3 =>
    obtain ⟨cC, iS, h⟩ := u_known (C := RX3) (T := TX3) (N := 2) (n := 2) hts inX3 (hts _ (wsL_law_in _ (lr_r3 (List.mem_of_getElem? (i := 7) rfl))))
    exact ⟨(cC, iS), fun q hq => by cases hq; exact h⟩
  | 4 =>
    obtain ⟨cC, iS, h⟩ := u_known (C := RX4) (T := TX4) (N := 4) (n := 4) hts inX4 (hts _ (wsL_law_in _ (lr_r1 (List.mem_of_getElem? (i := 15) rfl))))
    exact ⟨(cC, iS), fun q hq => by cases hq; exact h⟩
  | 5 =>
    obtain ⟨cC, iS, h⟩ := u_known (C := RX5) (T := TX5) (N := 7) (n := 7) hts inX5 (hts _ (wsL_law_in _ (lr_r1 (List.mem_of_getElem? (i := 23) rfl))))
    exact ⟨(cC, iS), fun q hq => by cases hq; exact h⟩
  | 6 =>
    obtain ⟨cC, iS, h⟩ := u_known (C := RX6) (T := TX6) (N := 1) (n := 1) hts inX6 (hts _ (wsL_law_in _ (lr_r5 (List.mem_of_getElem? (i := 8) rfl))))
    exact ⟨(cC, iS), fun q hq => by cases hq; exact h⟩
  | 7 =>
    obtain ⟨cC, iS, h⟩ := u_known (C := RX7) (T := TX7) (N := 5) (n := 5) hts inX7 (hts _ (wsL_law_in _ (lr_r5 (List.mem_of_getElem? (i := 6) rfl))))
    exact ⟨(cC, iS), fun q hq => by cases hq; exact h⟩
  | 8 =>
    obtain ⟨cC, iS, h⟩ := u_known (C := RX8) (T := TX8) (N := 2) (n := 2) hts inX8 (hts _ (wsL_law_in _ (lr_r4 (List.mem_of_getElem? (i := 3) rfl))))
    exact ⟨(cC, iS), fun q hq => by cases hq; exact h⟩
  | 9 =>
    obtain ⟨cC, iS, h⟩ := u_known (C := RX9) (T := TX9) (N := 2) (n := 2) hts inX9 (hts _ (wsL_law_in _ (lr_r1 (List.mem_of_getElem? (i := 11) rfl))))
    exact ⟨(cC, iS), fun q hq => by cases hq; exact h⟩
  | 10 =>
    obtain ⟨cC, iS, h⟩ := u_known (C := RX10) (T := TX10) (N := 5) (n := 5) hts inX10 (hts _ (wsL_law_in _ (lr_r1 (List.mem_of_getElem? (i := 1) rfl))))
    exact ⟨(cC, iS), fun q hq => by cases hq; exact h⟩
  | k + 11 => exact ⟨(default, fun _ => 0), fun q hq => by simp [vwCl] at hq⟩
theorem law_arr {s : State} {b : Nat} {ty : FieldType} (h : (Cond.arrayClass ty).before #[Value.ref b] s = true) : ∃ cA : ClassId, ArrOfT s cA ty ∧ s.vm.findClass ("[" ++ ty.toString) = some cA := by
  obtain ⟨cA, k, comp, h1, h2, h3⟩ := Cond.arrayClass_spec h
  exact ⟨cA, fun n z => ⟨fun k h => (by cases h), k, h2, comp, h3⟩, h1⟩
theorem law_gK {s : State} {b : Nat} (hts : ∀ w ∈ lw_tbl, w.before #[Value.ref b] s = true) : ∃ g : GG, gK g s := by
  obtain ⟨D, hD⟩ := Classical.axiomOfChoice (law_cls hts)
  obtain ⟨cI, a1, a2⟩ := law_arr (ty := .int) (hts _ (by decide +kernel))
  obtain ⟨cC, b1, b2⟩ := law_arr (ty := .char) (hts _ (by decide +kernel))
  obtain ⟨cJ, c1, c2⟩ := law_arr (ty := .byte) (hts _ (by decide +kernel))
  have hao : (Cond.arrayOver (.object "HingeNumbers$State")).before #[Value.ref b] s = true := hts _ (by decide +kernel)
  obtain ⟨comp, cS, kS, d1, d2, d3, d4, d5⟩ := Cond.arrayOver_spec hao
  refine ⟨((fun k => (D k).1, fun k => (D k).2), cI, cC, cS, cJ), ⟨fun k q hq => hD k q hq, fun k q hq => ?_⟩, fun k w hk => va_Nw.of (nest_tab w (List.mem_of_getElem? hk)) (hts w (nest_in w (List.mem_of_getElem? hk))), hao⟩
  match k, hq with
  | 0, hq => cases hq; exact ⟨a1, a2⟩
  | 1, hq => cases hq; exact ⟨b1, b2⟩
  | 2, hq => cases hq; exact ⟨fun n z => ⟨fun k h => (by cases h), kS, d3, comp, d4⟩, kS, comp, d3, d4, d1, d5⟩
  | 3, hq => cases hq; exact ⟨c1, c2⟩
  | k + 4, hq => simp [gT] at hq
