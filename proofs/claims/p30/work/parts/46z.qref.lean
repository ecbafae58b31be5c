section QREF
variable {p : Program} {l : Launch} {e : Env} {R : Room} {s : State} {m : MethodId} {args : Array Value} {below : List Frame} {meth : Method} {c : Code} {H : Heap} {locs : List Loc} {cells slots : Nat} {Q : State → Prop}
variable {cc : ByteArray} {nL pc index : Nat} {Ts : List Cond} {own : String} {ls : Array Slot} {rest : List Value} {g : GG} {A : Nat → Prop} {H0 : Heap} {ws wv : va_W} {a : Nat}
/-- a State, that needn't be of the world, into a row of States -/
theorem q_aast (S0 : CallFix p m c cc nL s args Ts own) (hK : gK g s) (hW : gW g A H0 H locs ws) (q0 qk : Nat) {n v : Nat} {vs : List Value} {f : Nat → Option Nat} (he : ws[q0]? = some (a, gR g n f)) (hPv : va_P g.1 vwCl wv H) (hv : wv[qk]? = some (v, .inr (7, vs))) {z : Int} (hz : 0 ≤ z ∧ z < n ∧ z < 2147483648) (hdg : decode cc pc = .ok (.aastore, 1))
    (kk : ∀ (H1 : Heap) (locs1 : List Loc), gW g A H0 H1 locs1 (ws.set q0 (a, gR g n (up f z.toNat (some v)))) → W p l e R s m args below meth c H1 locs1 cells slots Q (F0 m (pc + 1) ls rest)) : W p l e R s m args below meth c H locs cells slots Q (F0 m pc ls (.ref v :: .int (iI z) :: .ref a :: rest)) := by
  have hin := iI_in (n := n) hz.1 hz.2.1 hz.2.2
  have hcl := iI_cl hz.1 hz.2.2
  have hlt : (iI z).toNatClampNeg < n := Nat.not_le.mp fun q => hin (Or.inr q)
  have h0 : ¬ iI z < 0 := fun q => hin (Or.inl q)
  obtain ⟨r', hr', cellV, g1, g2, g3, -⟩ := hPv qk _ hv
  have hcls := (hK.1.1 7 (RX7, TX7, 5) rfl).2
  obtain ⟨kA, comp, k1, k2, k3, -⟩ := (hK.1.2 2 _ rfl).2
  have hcomp : comp = g.1.1 7 := Option.some.inj (k3.symm.trans hcls.1)
  subst hcomp
  obtain ⟨kC, hkC, -⟩ := hcls.2
  refine W.aast S0.1 S0.2.1 (hW.1 q0 _ he) (fun q h => by cases h) (fun h => by cases h) k1 k2 rfl hkC ⟨h0, by show _ < (arrV _ _ _).slots.size; rw [arrV_size]; exact hlt⟩ g1 (fun q h => by rw [g3] at h; cases h) (by rw [g2]; exact hkC) (by rw [g2]; exact va_assign hcls) rfl rfl hdg fun H1 e1 z1 oq => ?_
  refine kk H1 _ ⟨hW.1.set hW.2.1 he ?_ oq, hW.2.1.set he, hW.2.2.put z1 oq (hW.2.1.2 q0 _ he)⟩
  show H1[a]? = some (vp_cell g.2.2.2.1 (n, .inr (.inr (.inr (.inr (up f z.toNat (some v)))))))
  rw [e1]
  show some ((vp_cell g.2.2.2.1 (n, .inr (.inr (.inr (.inr f))))).setSlot (iI z).toNatClampNeg (.ref v)) = _
  rw [vp_cell_q, vp_cell_q, arrV_store, hcl]
  congr 2
  funext q
  by_cases hq : q = z.toNat
  · subst hq
    simp [updV, up, va_rf]
  · simp [updV, up, hq]
variable {v : Option Value}
theorem qp_vret (S0 : CallFix p m c cc nL s args Ts own) (hr : meth.sig.returnType = none) (hlocks : meth.locks = false) (hres : v = none) (hdg : decode cc pc = .ok (.return_, 1)) : W p l e R s m args below meth c s.heap [] 0 0 (MQ below (qPostP v) args s 0 0 (fun _ => False)) (F0 m pc ls []) :=
  W.vret S0.1 S0.2.1 hr (fun t ht _ => ⟨by rw [hres], ht⟩) (fun q h => by cases h) hdg hlocks
end QREF
