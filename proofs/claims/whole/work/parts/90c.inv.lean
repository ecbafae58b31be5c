/-! what the calls make of all that holds -/
def kq (a b c d : Nat) : Nat → Nat
  | 1 => a
  | 2 => b
  | 3 => c
  | _ => d
theorem isp_no {p : Int} (hp : 2 ≤ p ∧ p ≤ 199) (h : prU p 198 2 = 0) : isp p (p - 2).toNat 2 1 = 0 := by
  rcases isp_01 (v := p) (p - 2).toNat 2 1 (Or.inr rfl) with z | z
  · exact z
  · have := (prU_isp hp).mpr z
    omega
theorem up_rng {f : Nat → Int} {i : Nat} {v : Int} (h : ∀ j, 0 ≤ f j ∧ f j < 65536) (hv : 0 ≤ v ∧ v < 65536) : ∀ j, 0 ≤ up f i v j ∧ up f i v j < 65536 := fun j => by
  by_cases e : j = i
  · rw [e, up_s]; exact hv
  · rw [up_n e]; exact h j
/-- the functions that occur are below the function -/
theorem leE_l {E : EX} {f : Nat} (h : WFE E f) (hf : f < 4) : leE E < 1000 := by
  have q : ∀ (k : Nat) (i l : Int), 0 ≤ i → i + k ≤ eN E → 0 ≤ l ∧ l ≤ 4 → lea (fun j => kc (eK E j)) (eU E) k i l ≤ 4 := by
    intro k
    induction k with
    | zero => intro i l _ _ h; exact h.2
    | succ k ih =>
      intro i l h0 hi hl
      have w := h.2.1 i.toNat (by omega)
      have hu : 0 ≤ eU E i.toNat ∧ eU E i.toNat < 4 ∨ ¬ kc (eK E i.toNat) = 8 := by
        rcases w with w | w | w | w | w | w
        · exact Or.inr (by rw [w.1]; decide)
        · exact Or.inr (by rw [w.1]; decide)
        · exact Or.inr (by rw [w.1]; decide)
        · exact Or.inr (by rcases w.1 with e | e | e | e <;> rw [e] <;> decide)
        · exact Or.inr (by rw [w.1]; decide)
        · exact Or.inl (by omega)
      show lea _ _ k (i + 1) (if kc (eK E i.toNat) = 8 ∧ l ≤ eU E i.toNat then eU E i.toNat + 1 else l) ≤ 4
      refine ih (i + 1) _ (by omega) (by omega) ?_
      split <;> omega
  have := q (eN E) 0 0 (by omega) (by omega) (by omega)
  have e : leE E = lea (fun j => kc (eK E j)) (eU E) (eN E) 0 0 := rfl
  omega
theorem INV_S {Fam : FT → Prop} {F : FT} {r : RT} {S S' : PT} {tn : Int} {tf : Nat → Int} {n : Int} {f : Nat → Option Nat} {Fh : Nat → FT} {so : Option Nat} {ik : Int} {N N' : NT} {Z P Kp : Nat → Int} (h : INV Fam F r S tn tf n f Fh so ik N Z P Kp) (hS : WFB (pB S')) (hN : WZ N') : INV Fam F r S' tn tf n f Fh so ik N' Z P Kp := by
  obtain ⟨h1, h2, h3, h4, h5, h6, h7, h8, h9, h10⟩ := h
  exact ⟨h1, h2, h3, hS, h5, h6, h7, h8, hN, h10⟩
theorem INV_t {Fam : FT → Prop} {F : FT} {r : RT} {S : PT} {tn tn' : Int} {tf tf' : Nat → Int} {n : Int} {f : Nat → Option Nat} {Fh : Nat → FT} {so : Option Nat} {ik : Int} {N : NT} {Z P Kp : Nat → Int} (h : INV Fam F r S tn tf n f Fh so ik N Z P Kp) (ht : 0 ≤ tn' ∧ tn' ≤ 40) (htf : ∀ j, 0 ≤ tf' j ∧ tf' j < 65536) : INV Fam F r S tn' tf' n f Fh so ik N Z P Kp := by
  obtain ⟨h1, h2, h3, h4, h5, h6, h7, h8, h9, h10⟩ := h
  exact ⟨h1, h2, h3, h4, ht, htf, h7, h8, h9, h10⟩
theorem INV_undo {Fam : FT → Prop} {F : FT} {r : RT} {S : PT} {tn : Int} {tf : Nat → Int} {n : Int} {f : Nat → Option Nat} {Fh : Nat → FT} {so : Option Nat} {ik : Int} {N : NT} {Z P Kp : Nat → Int} (h : INV Fam F r S tn tf n f Fh so ik N Z P Kp) (hn : 0 < n) : INV Fam (Fh (n - 1).toNat) (mkR (fillf 796 (-2) (rV r)) (fillf 796 (-2) (rH r)) (fillf 796 (-2) (rR r)) (nV r) (nS r) (nW r)) S tn tf (n - 1) f Fh so ik N (cpi P (325 * (n - 1)).toNat Z 325) P Kp := by
  obtain ⟨h1, h2, h3, h4, h5, h6, h7, h8, h9, h10⟩ := h
  have q := h7.2 (n - 1).toNat (by omega)
  have p2 := GF_p q.2.2.1.1
  refine ⟨q.2.2.1, q.2.1, RI_fresh p2.2, h4, h5, h6, HR_pop h7 hn, h8, h9, ZR_congr q.2.2.1.1 q.2.2.2 (fun j hj => ?_)⟩
  unfold cpi
  rw [if_pos hj, show (325 * (n - 1)).toNat + j = 325 * (n - 1).toNat + j by omega]
theorem INV_take {Fam : FT → Prop} {F : FT} {r : RT} {S : PT} {tn : Int} {tf : Nat → Int} {n : Int} {f : Nat → Option Nat} {Fh : Nat → FT} {so : Option Nat} {ik : Int} {N : NT} {Z P Kp : Nat → Int} (h : INV Fam F r S tn tf n f Fh so ik N Z P Kp) : INV Fam F r S tn tf n f Fh (some (fS F)) 1 N Z P (cpi Z 0 Kp 325) := by
  obtain ⟨h1, h2, h3, h4, h5, h6, h7, h8, h9, h10⟩ := h
  refine ⟨h1, h2, h3, h4, h5, h6, h7, Or.inr ⟨F, rfl, rfl, h2, h1, ZR_congr h1.1 h10 (fun j hj => ?_)⟩, h9, h10⟩
  unfold cpi
  rw [if_pos hj, Nat.zero_add]
