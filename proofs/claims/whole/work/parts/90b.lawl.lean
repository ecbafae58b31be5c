/-! own layer: the law's frame: a world with frozen States beside it -/
section QLAW
def gLw (g : GG) (Fam : FT → Prop) (A : Nat → Prop) (H0 H : Heap) (locs : List Loc) (ws : va_W) : Prop := gW g A H0 H locs ws ∧ va_D (fun q => ¬ fzF Fam q) ws ∧ FFx g Fam H
theorem gLw.sub {g : GG} {Fam : FT → Prop} {A : Nat → Prop} {H0 H : Heap} {locs : List Loc} {ws ws' : va_W} (h : gLw g Fam A H0 H locs ws) (is : List Nat) (hn : va_nd is = true) (hs : is.map (fun i => ws[i]?) = ws'.map some) : gLw g Fam A H0 H locs ws' := ⟨h.1.sub is hn hs, h.2.1.sub is hn hs, h.2.2⟩
theorem sub_mem {ws wc : va_W} {is : List Nat} (hs : is.map (fun i => ws[i]?) = wc.map some) {q : Nat × va_E} (hq : q ∈ wc) : q ∈ ws := by
  obtain ⟨k, hk⟩ := List.getElem?_of_mem hq
  obtain ⟨i, -, hi⟩ := sub_place hs hk
  exact List.mem_of_getElem? hi
theorem va_D.mem {A : Nat → Prop} {ws : va_W} (h : va_D A ws) {q : Nat × va_E} (hq : q ∈ ws) : A q.1 := by
  obtain ⟨k, hk⟩ := List.getElem?_of_mem hq
  exact h.2 k q hk
/-- what a call leaves -/
theorem gLw_call {g : GG} {Fam : FT → Prop} {A0 : Nat → Prop} {H0 H H1 : Heap} {locs L : List Loc} {ws wc wr w1 : va_W} (h : gLw g Fam A0 H0 H locs ws) (hA : ∀ q, H0.size ≤ q → A0 q) (isC isR : List Nat) (hC : isC.map (fun i => ws[i]?) = wc.map some) (hR : isR.map (fun i => ws[i]?) = wr.map some) (hn : va_nd isR = true) (hdis : ∀ i ∈ isR, i ∉ isC)
    (k2 : ∀ q : Nat, q < H.size → ¬ va_A wc H.size q → H1[q]? = H[q]?) (k3 : va_S A0 H0 H1 (locs ++ L)) (hP1 : va_P g.1 vwCl w1 H1) (hD1 : va_D (va_A wc H.size) w1) : gLw g Fam A0 H0 H1 (locs ++ L) (wr ++ w1) := by
  obtain ⟨⟨hP, hD, hS⟩, hZ, hF⟩ := h
  have hFr := va_free (wc := wc) hD hS hA isC hC
  obtain ⟨hPn, hDn⟩ := va_join (wr := wr) (w1 := w1) hP hD isC isR hC hR hn hdis k2 hFr hP1 hD1
  have hfr : ∀ q, va_A wc H.size q → ¬ fzF Fam q := by
    intro q hq hz
    rcases hq with ⟨k, e, hk⟩ | hq
    · exact hZ.mem (sub_mem hC (List.mem_of_getElem? hk)) hz
    · obtain ⟨F, h1, h2⟩ := hz
      exact absurd (FX_lt (hF F h1) h2) (by omega)
  refine ⟨⟨hPn, hDn, k3⟩, ⟨hDn.1, fun k q hk => ?_⟩, fun F h1 => FX_kept (hF F h1) (fun q hq => k2 q (FX_lt (hF F h1) hq) (fun z => hfr q z ⟨F, h1, hq⟩))⟩
  rcases List.mem_append.mp (List.mem_of_getElem? hk) with hm | hm
  · exact hZ.mem (sub_mem hR hm)
  · exact hfr q.1 (hD1.mem hm)
variable {p : Program} {l : Launch} {e : Env} {R : Room} {s : State} {m : MethodId} {args : Array Value} {below : List Frame} {meth : Method} {c : Code} {H : Heap} {locs : List Loc} {cells slots : Nat} {Q : State → Prop}
variable {y : MethodName} {bytes cc : ByteArray} {maxL nL mc ms n index pc : Nat} {ret : Option FieldType} {wsY ws' Ts : List Cond} {rm : Room} {own C : String} {b : Addr} {As rest st0 : List Value} {ls : Array Slot} {a : Array Value}
variable {g : GG} {A0 : Nat → Prop} {ws wc wr : va_W} {Z : Nat → Prop} {X : Heap → Prop} {S : Type} {res : S → Option Value} {w : S → va_W} {post : S → Prop} {hh : List (Nat × Nat × Nat × Nat)} {Fam : FT → Prop}
theorem q_lcall (hr : va_Run p l e R s m args below meth c H locs cells slots mc ms (F0 m pc ls st0) rest (qPost g res w post (va_A wc H.size) a) (va_A wc H.size))
    (hL : gLw g Fam A0 s.heap H locs ws) (hA : ∀ q, s.heap.size ≤ q → A0 q) (isC isR : List Nat) (hC : isC.map (fun i => ws[i]?) = wc.map some) (hR : isR.map (fun i => ws[i]?) = wr.map some) (hn : va_nd isR = true) (hdis : ∀ i ∈ isR, i ∉ isC)
    (kk : ∀ (u : S) (H1 : Heap) (locs1 : List Loc), post u → gLw g Fam A0 s.heap H1 locs1 (wr ++ w u) → W p l e R s m args below meth c H1 locs1 (cells + mc) (slots + ms) Q (F0 m (pc + 3) ls ((res u).toList ++ rest))) : W p l e R s m args below meth c H locs cells slots Q (F0 m pc ls st0) := by
  intro T hT X9
  obtain ⟨v, st₀, t, T', L, h0, X', hL1, e1, e2, ⟨⟨u, hp, hv, hP1, hD1⟩, hF⟩, st⟩ := hr T hT X9
  have hFr := va_free (wc := wc) hL.1.2.1 hL.1.2.2 hA isC hC
  obtain ⟨k1, k2, k3⟩ := vx_keep h0 e1 hL.1.2.2 (fun q _ h => hFr q h) (fun q h => hFr q h) hL1 hF
  cases hv
  obtain ⟨t2, a1, b1⟩ := kk u T'.heap (locs ++ L) hp (gLw_call hL hA isC isR hC hR hn hdis k2 k3 (by rw [e1]; exact hP1) hD1) T' rfl X'
  exact ⟨t2, st t2 a1, b1⟩
theorem q_preTS (hK : gK g s) (hP : va_P g.1 vwCl wc H) (hD : va_D Z wc) (hX : X H) (hE : gE A0 s) (hS : va_S A0 s.heap H locs) (hAB : ∀ q, va_A wc H.size q → A0 q) : PreS s H (qPreT g As wc Z X H.size) As := ⟨blind_qPreT, fun U hU hW => ⟨rfl, by rw [hU], by rw [hU]; exact hP, hK.warm hW, hD, by rw [hU]; exact hX, hE.to hW hU hS hAB⟩⟩
/-- a method of the law's is called -/
theorem q_lS (S0 : CallFix p m c cc nL s args Ts own) (hK : gK g s) (hE : gE A0 s) (hA : ∀ q, s.heap.size ≤ q → A0 q) (hL : gLw g Fam A0 s.heap H locs ws) (hM : qMetT l y wsY rm g As wc (fun q => ¬ fzF Fam q) (FFx g Fam) res w post mc ms) (hG : GoodIn Ts (va_wsS own index y wsY)) (hw : wsY = Cond.codeWith y bytes maxL ret hh :: ws') (hrc : rm.cells = mc) (hrs : rm.slots = ms)
    (hd : y.cls ≠ "java/lang/invoke/MethodHandle" ∧ y.cls ≠ "java/lang/invoke/VarHandle" ∧ (parseMethodDescriptor y.desc).map (fun d => d.parameters.length) = some n) (hR : rm.frames + 1 ≤ R.frames ∧ 8 + (maxL + 11) + rm.locals ≤ R.locals)
    (isC isR : List Nat) (hC : isC.map (fun i => ws[i]?) = wc.map some) (hnC : va_nd isC = true) (hR2 : isR.map (fun i => ws[i]?) = wr.map some) (hn : va_nd isR = true) (hdis : ∀ i ∈ isR, i ∉ isC)
    (hst : st0 = As.reverse ++ rest) (hnA : As.length = n) (hsize : ls.size = nL) (hcat : (rest.map fun v => v.category).sum ≤ 8) (hf : cells + mc ≤ R.cells ∧ slots + ms ≤ R.slots) (hdg : decode cc pc = .ok (.invokestatic index, 3))
    (kk : ∀ (u : S) (H1 : Heap) (locs1 : List Loc), post u → gLw g Fam A0 s.heap H1 locs1 (wr ++ w u) → W p l e R s m args below meth c H1 locs1 (cells + mc) (slots + ms) Q (F0 m (pc + 3) ls ((res u).toList ++ rest))) : W p l e R s m args below meth c H locs cells slots Q (F0 m pc ls st0) :=
  q_lcall (vx_runSW S0 (hM H.size) (vx_cwSW n S0.2.2.2.2 hG hw hrc hrs hd hR) (q_preTS hK (subP hL.1.1 isC hC) (hL.2.1.sub isC hnC hC) hL.2.2 hE hL.1.2.2 (va_free hL.1.2.1 hL.1.2.2 hA isC hC)) rfl hnA hsize hst (lv_room hcat) hdg hf) hL hA isC isR hC hR2 hn hdis kk
/-- a method of one of the two objects is called -/
theorem q_lV (S0 : CallFix p m c cc nL s args Ts own) (hK : gK g s) (hA : ∀ q, s.heap.size ≤ q → A0 q) (hL : gLw g Fam A0 s.heap H locs ws) (hM : qMet l y wsY rm g (.ref b :: As) wc Z X res w post mc ms) (hG : GoodIn Ts (wsV own index C y wsY)) (hw : wsY = Cond.code y bytes maxL ret :: ws') (hrc : rm.cells = mc) (hrs : rm.slots = ms)
    (hd : y.cls = C ∧ y.cls ≠ "java/lang/invoke/MethodHandle" ∧ y.cls ≠ "java/lang/invoke/VarHandle" ∧ (parseMethodDescriptor y.desc).map (fun d => d.parameters.length) = some n) (hR : rm.frames + 1 ≤ R.frames ∧ 8 + (maxL + 11) + rm.locals ≤ R.locals)
    (isC isR : List Nat) (hC : isC.map (fun i => ws[i]?) = wc.map some) (hnC : va_nd isC = true) (hR2 : isR.map (fun i => ws[i]?) = wr.map some) (hn : va_nd isR = true) (hdis : ∀ i ∈ isR, i ∉ isC)
    (hrec : ∃ cell : Cell, H[b]? = some cell ∧ cell.vm.isStatics = false ∧ s.vm.findClass C = some cell.cls) (hZ : ∀ q, ¬ fzF Fam q → Z q) (hX : X H) (hst : st0 = As.reverse ++ .ref b :: rest) (hnA : As.length = n) (hsize : ls.size = nL) (hcat : (rest.map fun v => v.category).sum ≤ 8) (hf : cells + mc ≤ R.cells ∧ slots + ms ≤ R.slots) (hdg : decode cc pc = .ok (.invokevirtual index, 3))
    (kk : ∀ (u : S) (H1 : Heap) (locs1 : List Loc), post u → gLw g Fam A0 s.heap H1 locs1 (wr ++ w u) → W p l e R s m args below meth c H1 locs1 (cells + mc) (slots + ms) Q (F0 m (pc + 3) ls ((res u).toList ++ rest))) : W p l e R s m args below meth c H locs cells slots Q (F0 m pc ls st0) :=
  q_lcall (va_runV S0 (hM H.size) (cwV n S0.2.2.2.2 hG hw hrc hrs hd hR) (q_preV hK (subP hL.1.1 isC hC) ((hL.2.1.sub isC hnC hC).weaken (fun _ q _ h => hZ _ h)) hX hrec) rfl hnA hsize hst (lv_room hcat) hdg hf) hL hA isC isR hC hR2 hn hdis kk
/-- a place of the script -/
theorem q_sld (S0 : CallFix p m c cc nL s args Ts own) {b0 L : Nat} {xs : Nat → Int32} (hX : va_X b0 L xs s s.heap) (hbl : b0 < s.heap.size) (hbA : ¬ A0 b0) (hS : va_S A0 s.heap H locs) {z : Int} (hz : 0 ≤ z ∧ z < L ∧ z < 2147483648) (hdg : decode cc pc = .ok (.iaload, 1))
    (kk : W p l e R s m args below meth c H locs cells slots Q (F0 m (pc + 1) ls (.int (iI (xs z.toNat).toInt) :: rest))) : W p l e R s m args below meth c H locs cells slots Q (F0 m pc ls (.int (iI z) :: .ref b0 :: rest)) :=
  va_sld S0.1 S0.2.1 hX hbl hbA hS (iI_in hz.1 hz.2.1 hz.2.2) hdg (by rw [iI_cl hz.1 hz.2.2]; rw [← iI_of] at kk; exact kk)
/-- an int as a char -/
def chv (x : Int32) : Int := ((x.toBitVec.toNat % 65536 : Nat) : Int)
theorem chv_v (x : Int32) : (x.toUInt32 % 65536).toInt32 = iI (chv x) := (pk_char x).trans (iI_nat _)
theorem chv_r (x : Int32) : 0 ≤ chv x ∧ chv x < 65536 := by
  unfold chv
  have := Nat.mod_lt x.toBitVec.toNat (show 0 < 65536 by decide)
  omega
/-- a new State becomes a frozen one -/
theorem gLw_freeze {g : GG} {Fam : FT → Prop} {A : Nat → Prop} {H0 H : Heap} {locs : List Loc} {ws wk wn : va_W} (h : gLw g Fam A H0 H locs ws) (isK isN : List Nat) (hK : isK.map (fun i => ws[i]?) = wk.map some) (hnK : va_nd isK = true) (hN : isN.map (fun i => ws[i]?) = wn.map some) (hdis : ∀ i ∈ isK, i ∉ isN) {F F' : FT} (hF : Fam F) (hX : FX g F' H) (hz : ∀ q, fzA F' q → fzA F q ∨ ∃ e, (q, e) ∈ wn) : gLw g (fun G => Fam G ∨ G = F') A H0 H locs wk := by
  have hsub := h.sub isK hnK hK
  refine ⟨hsub.1, ⟨hsub.2.1.1, fun k q hk => ?_⟩, fun G hG => ?_⟩
  · rintro ⟨G, hG, hq⟩
    have hold : ∀ G, Fam G → fzA G q.1 → False := fun G h1 h2 => hsub.2.1.2 k q hk ⟨G, h1, h2⟩
    rcases hG with hG | rfl
    · exact hold G hG hq
    · rcases hz q.1 hq with y | ⟨e, he⟩
      · exact hold F hF y
      · obtain ⟨i, hi1, hi2⟩ := sub_place hK hk
        obtain ⟨j, hj⟩ := List.getElem?_of_mem he
        obtain ⟨j2, hj1, hj2⟩ := sub_place hN hj
        have := h.1.2.1.1 i j2 q (q.1, e) hi2 hj2 rfl
        exact hdis i (List.mem_of_getElem? hi1) (by rw [this]; exact List.mem_of_getElem? hj1)
  · rcases hG with hG | rfl
    · exact h.2.2 G hG
    · exact hX
theorem fzA_set {F : FT} {sb x : Nat} {u : Int} {k : Nat → Nat} {E : EX} {d un lz : Int} {q : Nat} (h : fzA (setF F sb u x k E d un lz) q) : fzA F q ∨ q = sb ∨ q = x ∨ q = k 1 ∨ q = k 2 ∨ q = k 3 ∨ q = k 4 := by
  rcases h with h | h | ⟨f, hf, h⟩
  · exact Or.inr (Or.inl h)
  · exact Or.inl (Or.inr (Or.inl h))
  · by_cases e : u = (f : Int)
    · simp only [setF, fX, fK, if_pos e] at h
      omega
    · simp only [setF, fX, fK, if_neg e] at h
      exact Or.inl (Or.inr (Or.inr ⟨f, hf, h⟩))
theorem fzA_setP {F : FT} {sb rb : Nat} {p : Int} {q : Nat} (h : fzA (setP F sb rb p) q) : fzA F q ∨ q = sb ∨ q = rb := by
  rcases h with h | h | ⟨f, hf, h⟩
  · exact Or.inr (Or.inl h)
  · exact Or.inr (Or.inr h)
  · exact Or.inl (Or.inr (Or.inr ⟨f, hf, h⟩))
/-- all that holds between two calls -/
def SN (so : Option Nat) (ik : Int) (Kp : Nat → Int) (Fam : FT → Prop) : Prop := (so = none ∧ ik = 0) ∨ ∃ G, so = some (fS G) ∧ ik = 1 ∧ Fam G ∧ GI G ∧ ZR Kp G
def INV (Fam : FT → Prop) (F : FT) (r : RT) (S : PT) (tn : Int) (tf : Nat → Int) (n : Int) (f : Nat → Option Nat) (Fh : Nat → FT) (so : Option Nat) (ik : Int) (N : NT) (Z P Kp : Nat → Int) : Prop :=
  GI F ∧ Fam F ∧ RI F r ∧ WFB (pB S) ∧ (0 ≤ tn ∧ tn ≤ 40) ∧ (∀ j, 0 ≤ tf j ∧ tf j < 65536) ∧ HR n f P Fh Fam ∧ SN so ik Kp Fam ∧ WZ N ∧ ZR Z F
theorem INV_r {Fam : FT → Prop} {F : FT} {r r' : RT} {S : PT} {tn : Int} {tf : Nat → Int} {n : Int} {f : Nat → Option Nat} {Fh : Nat → FT} {so : Option Nat} {ik : Int} {N : NT} {Z P Kp : Nat → Int} (h : INV Fam F r S tn tf n f Fh so ik N Z P Kp) (hr : RI F r') : INV Fam F r' S tn tf n f Fh so ik N Z P Kp := ⟨h.1, h.2.1, hr, h.2.2.2⟩
theorem INV_new {Fam : FT → Prop} {F F' : FT} {r r' : RT} {S S' : PT} {tn : Int} {tf : Nat → Int} {n : Int} {f : Nat → Option Nat} {Fh : Nat → FT} {so : Option Nat} {ik : Int} {N N' : NT} {Z Z' P Kp : Nat → Int} (h : INV Fam F r S tn tf n f Fh so ik N Z P Kp) (hG : GI F') (hr : RI F' r') (hS : WFB (pB S')) (hN : WZ N') (hz : ZR Z' F') : INV (fun G => Fam G ∨ G = F') F' r' S' tn tf (if n < 4 then n + 1 else 4) (rec4 n f (fS F)) (hnx n Fh F) so ik N' Z' (recM n P Z) Kp := by
  obtain ⟨h1, h2, h3, h4, h5, h6, h7, h8, h9, h10⟩ := h
  refine ⟨hG, Or.inr rfl, hr, hS, h5, h6, HR_fam (HR_rec h7 h2 h1 h10) (fun _ h => Or.inl h), ?_, hN, hz⟩
  rcases h8 with h8 | ⟨G, a, b, c, d, e⟩
  · exact Or.inl h8
  · exact Or.inr ⟨G, a, b, Or.inl c, d, e⟩
theorem INV_back {Fam : FT → Prop} {F F' : FT} {r r' : RT} {S : PT} {tn : Int} {tf : Nat → Int} {n : Int} {f : Nat → Option Nat} {Fh : Nat → FT} {so : Option Nat} {ik : Int} {N : NT} {Z Z' P Kp : Nat → Int} (h : INV Fam F r S tn tf n f Fh so ik N Z P Kp) (hF : Fam F') (hG : GI F') (hr : RI F' r') (hz : ZR Z' F') : INV Fam F' r' S tn tf (if n < 4 then n + 1 else 4) (rec4 n f (fS F)) (hnx n Fh F) so ik N Z' (recM n P Z) Kp := by
  obtain ⟨h1, h2, h3, h4, h5, h6, h7, h8, h9, h10⟩ := h
  exact ⟨hG, hF, hr, h4, h5, h6, HR_rec h7 h2 h1 h10, h8, h9, hz⟩
theorem recN_eq {n : Int} (h : 0 ≤ n ∧ n ≤ 4) : recN n = if n < 4 then n + 1 else 4 := by
  unfold recN
  split <;> split <;> omega
theorem WF_cuU : ∀ (k : Nat) (B : BT) (j u : Int), 0 ≤ j → j + k ≤ 40 → WFB B → WFB (cuU k B j u).1
  | 0, _, _, _, _, _, h => h
  | k + 1, B, j, u, h0, hk, h => WF_cuU k (sLike B j) (j + 1) (if flv B j = j then u + 1 else u) (by omega) (by omega) (WF_like h (by omega))
theorem WF_sUn {B : BT} (h : WFB B) : WFB (sUn B) := by
  have h1 := h.1
  exact WF_cuU (bN B).toNat B 0 0 (by omega) (by omega) h
/-- the law's frame -/
def LC (p : Program) (l : Launch) (s : State) (m : MethodId) (b0 L : Nat) (xs : Nat → Int32) (meth : Method) (c : Code) (g : GG) : Prop := CallFix p m c code 7 s #[.ref b0] wsL_law RL ∧ meth.locks = false ∧ va_X b0 L xs s s.heap ∧ b0 < s.heap.size ∧ l.stackTraces = false ∧ gK g s ∧ gE (fun q => s.heap.size ≤ q) s ∧ L ≤ 2048
end QLAW
