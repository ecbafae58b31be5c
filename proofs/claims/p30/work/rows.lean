section
-- ===== PART A: goes FIRST, ahead of the names: the tables' words, and 'selects' of the private methods out of them =====
/-- a private method of a class that the tables say can be made, by its rows of tables_1 -/
def lw_okq (q : MethodName × Nat) : Prop := (q.1.cls ≠ "java/lang/invoke/MethodHandle" ∧ q.1.cls ≠ "java/lang/invoke/VarHandle") ∧ Cond.instantiable q.1.cls q.2 ∈ tables_1 ∧ Cond.privateMethod q.1 ∈ tables_1 ∧ Cond.instanceMethod q.1 ∈ tables_1
theorem lw_p0 : lw_okq (⟨"HingeNumbers$Reckoner", "forget", "()V"⟩, 7) := ⟨⟨by decide +kernel, by decide +kernel⟩, List.mem_of_getElem? (i := 129) (by decide +kernel), List.mem_of_getElem? (i := 220) (by decide +kernel), List.mem_of_getElem? (i := 221) (by decide +kernel)⟩
theorem lw_p1 : lw_okq (⟨"java/lang/Throwable", "fillInStackTrace", "(I)Ljava/lang/Throwable;"⟩, 6) := ⟨⟨by decide +kernel, by decide +kernel⟩, List.mem_of_getElem? (i := 315) (by decide +kernel), List.mem_of_getElem? (i := 313) (by decide +kernel), List.mem_of_getElem? (i := 314) (by decide +kernel)⟩
theorem lw_p2 : lw_okq (⟨"HingeNumbers$Parser", "takes", "(I)Z"⟩, 4) := ⟨⟨by decide +kernel, by decide +kernel⟩, List.mem_of_getElem? (i := 44) (by decide +kernel), List.mem_of_getElem? (i := 381) (by decide +kernel), List.mem_of_getElem? (i := 382) (by decide +kernel)⟩
theorem lw_p3 : lw_okq (⟨"HingeNumbers$Parser", "takesAtom", "(I)Z"⟩, 4) := ⟨⟨by decide +kernel, by decide +kernel⟩, List.mem_of_getElem? (i := 44) (by decide +kernel), List.mem_of_getElem? (i := 385) (by decide +kernel), List.mem_of_getElem? (i := 386) (by decide +kernel)⟩
theorem lw_p4 : lw_okq (⟨"HingeNumbers$Builder", "addNode", "(IIII)V"⟩, 10) := ⟨⟨by decide +kernel, by decide +kernel⟩, List.mem_of_getElem? (i := 50) (by decide +kernel), List.mem_of_getElem? (i := 396) (by decide +kernel), List.mem_of_getElem? (i := 397) (by decide +kernel)⟩
theorem lw_p5 : lw_okq (⟨"HingeNumbers$Builder", "finishAtom", "()V"⟩, 10) := ⟨⟨by decide +kernel, by decide +kernel⟩, List.mem_of_getElem? (i := 50) (by decide +kernel), List.mem_of_getElem? (i := 412) (by decide +kernel), List.mem_of_getElem? (i := 413) (by decide +kernel)⟩
theorem lw_p6 : lw_okq (⟨"HingeNumbers$Parser", "takesOpening", "(I)Z"⟩, 4) := ⟨⟨by decide +kernel, by decide +kernel⟩, List.mem_of_getElem? (i := 44) (by decide +kernel), List.mem_of_getElem? (i := 439) (by decide +kernel), List.mem_of_getElem? (i := 440) (by decide +kernel)⟩
theorem lw_p7 : lw_okq (⟨"HingeNumbers$Parser", "takesExponent", "(I)Z"⟩, 4) := ⟨⟨by decide +kernel, by decide +kernel⟩, List.mem_of_getElem? (i := 44) (by decide +kernel), List.mem_of_getElem? (i := 443) (by decide +kernel), List.mem_of_getElem? (i := 444) (by decide +kernel)⟩
theorem lw_p8 : lw_okq (⟨"HingeNumbers$Parser", "takesBehind", "(I)Z"⟩, 4) := ⟨⟨by decide +kernel, by decide +kernel⟩, List.mem_of_getElem? (i := 44) (by decide +kernel), List.mem_of_getElem? (i := 451) (by decide +kernel), List.mem_of_getElem? (i := 452) (by decide +kernel)⟩
theorem lw_p9 : lw_okq (⟨"HingeNumbers$Parser", "takesFurtherDigit", "(I)Z"⟩, 4) := ⟨⟨by decide +kernel, by decide +kernel⟩, List.mem_of_getElem? (i := 44) (by decide +kernel), List.mem_of_getElem? (i := 455) (by decide +kernel), List.mem_of_getElem? (i := 456) (by decide +kernel)⟩
theorem lw_p10 : lw_okq (⟨"HingeNumbers$Builder", "joinFrom", "(I)V"⟩, 10) := ⟨⟨by decide +kernel, by decide +kernel⟩, List.mem_of_getElem? (i := 50) (by decide +kernel), List.mem_of_getElem? (i := 471) (by decide +kernel), List.mem_of_getElem? (i := 472) (by decide +kernel)⟩
theorem lw_p11 : lw_okq (⟨"HingeNumbers", "requireFunction", "(I)V"⟩, 5) := ⟨⟨by decide +kernel, by decide +kernel⟩, List.mem_of_getElem? (i := 22) (by decide +kernel), List.mem_of_getElem? (i := 491) (by decide +kernel), List.mem_of_getElem? (i := 492) (by decide +kernel)⟩
theorem lw_p12 : lw_okq (⟨"HingeNumbers$Builder", "filled", "([I)[I"⟩, 10) := ⟨⟨by decide +kernel, by decide +kernel⟩, List.mem_of_getElem? (i := 50) (by decide +kernel), List.mem_of_getElem? (i := 577) (by decide +kernel), List.mem_of_getElem? (i := 578) (by decide +kernel)⟩
theorem lw_p13 : lw_okq (⟨"HingeNumbers$Builder", "countUnlike", "()I"⟩, 10) := ⟨⟨by decide +kernel, by decide +kernel⟩, List.mem_of_getElem? (i := 50) (by decide +kernel), List.mem_of_getElem? (i := 595) (by decide +kernel), List.mem_of_getElem? (i := 596) (by decide +kernel)⟩
theorem lw_p14 : lw_okq (⟨"HingeNumbers$Builder", "firstLike", "(I)I"⟩, 10) := ⟨⟨by decide +kernel, by decide +kernel⟩, List.mem_of_getElem? (i := 50) (by decide +kernel), List.mem_of_getElem? (i := 599) (by decide +kernel), List.mem_of_getElem? (i := 600) (by decide +kernel)⟩
theorem lw_p15 : lw_okq (⟨"HingeNumbers$Builder", "areAlike", "(II)Z"⟩, 10) := ⟨⟨by decide +kernel, by decide +kernel⟩, List.mem_of_getElem? (i := 50) (by decide +kernel), List.mem_of_getElem? (i := 603) (by decide +kernel), List.mem_of_getElem? (i := 604) (by decide +kernel)⟩
def lw_privs_1 : List (MethodName × Nat) := [(⟨"HingeNumbers$Reckoner", "forget", "()V"⟩, 7), (⟨"java/lang/Throwable", "fillInStackTrace", "(I)Ljava/lang/Throwable;"⟩, 6), (⟨"HingeNumbers$Parser", "takes", "(I)Z"⟩, 4), (⟨"HingeNumbers$Parser", "takesAtom", "(I)Z"⟩, 4), (⟨"HingeNumbers$Builder", "addNode", "(IIII)V"⟩, 10), (⟨"HingeNumbers$Builder", "finishAtom", "()V"⟩, 10), (⟨"HingeNumbers$Parser", "takesOpening", "(I)Z"⟩, 4), (⟨"HingeNumbers$Parser", "takesExponent", "(I)Z"⟩, 4), (⟨"HingeNumbers$Parser", "takesBehind", "(I)Z"⟩, 4), (⟨"HingeNumbers$Parser", "takesFurtherDigit", "(I)Z"⟩, 4), (⟨"HingeNumbers$Builder", "joinFrom", "(I)V"⟩, 10), (⟨"HingeNumbers", "requireFunction", "(I)V"⟩, 5), (⟨"HingeNumbers$Builder", "filled", "([I)[I"⟩, 10), (⟨"HingeNumbers$Builder", "countUnlike", "()I"⟩, 10), (⟨"HingeNumbers$Builder", "firstLike", "(I)I"⟩, 10), (⟨"HingeNumbers$Builder", "areAlike", "(II)Z"⟩, 10)]
theorem lw_r1 : ∀ q ∈ lw_privs_1, lw_okq q := List.forall_mem_cons.mpr ⟨lw_p0, List.forall_mem_cons.mpr ⟨lw_p1, List.forall_mem_cons.mpr ⟨lw_p2, List.forall_mem_cons.mpr ⟨lw_p3, List.forall_mem_cons.mpr ⟨lw_p4, List.forall_mem_cons.mpr ⟨lw_p5, List.forall_mem_cons.mpr ⟨lw_p6, List.forall_mem_cons.mpr ⟨lw_p7, List.forall_mem_cons.mpr ⟨lw_p8, List.forall_mem_cons.mpr ⟨lw_p9, List.forall_mem_cons.mpr ⟨lw_p10, List.forall_mem_cons.mpr ⟨lw_p11, List.forall_mem_cons.mpr ⟨lw_p12, List.forall_mem_cons.mpr ⟨lw_p13, List.forall_mem_cons.mpr ⟨lw_p14, List.forall_mem_cons.mpr ⟨lw_p15, fun _ h => absurd h List.not_mem_nil⟩⟩⟩⟩⟩⟩⟩⟩⟩⟩⟩⟩⟩⟩⟩⟩
theorem lw_p16 : lw_okq (⟨"HingeNumbers", "act", "(LHingeNumbers$State;)V"⟩, 5) := ⟨⟨by decide +kernel, by decide +kernel⟩, List.mem_of_getElem? (i := 22) (by decide +kernel), List.mem_of_getElem? (i := 612) (by decide +kernel), List.mem_of_getElem? (i := 613) (by decide +kernel)⟩
theorem lw_p17 : lw_okq (⟨"HingeNumbers$History", "forgetOldest", "()V"⟩, 2) := ⟨⟨by decide +kernel, by decide +kernel⟩, List.mem_of_getElem? (i := 114) (by decide +kernel), List.mem_of_getElem? (i := 620) (by decide +kernel), List.mem_of_getElem? (i := 621) (by decide +kernel)⟩
theorem lw_p18 : lw_okq (⟨"HingeNumbers", "prime", "()I"⟩, 5) := ⟨⟨by decide +kernel, by decide +kernel⟩, List.mem_of_getElem? (i := 22) (by decide +kernel), List.mem_of_getElem? (i := 655) (by decide +kernel), List.mem_of_getElem? (i := 656) (by decide +kernel)⟩
theorem lw_p19 : lw_okq (⟨"HingeNumbers", "requireNumber", "(I)V"⟩, 5) := ⟨⟨by decide +kernel, by decide +kernel⟩, List.mem_of_getElem? (i := 22) (by decide +kernel), List.mem_of_getElem? (i := 687) (by decide +kernel), List.mem_of_getElem? (i := 688) (by decide +kernel)⟩
theorem lw_p20 : lw_okq (⟨"HingeNumbers$Reckoner", "value", "(II)I"⟩, 7) := ⟨⟨by decide +kernel, by decide +kernel⟩, List.mem_of_getElem? (i := 129) (by decide +kernel), List.mem_of_getElem? (i := 692) (by decide +kernel), List.mem_of_getElem? (i := 693) (by decide +kernel)⟩
theorem lw_p21 : lw_okq (⟨"HingeNumbers$Reckoner", "reckonValues", "(II)I"⟩, 7) := ⟨⟨by decide +kernel, by decide +kernel⟩, List.mem_of_getElem? (i := 129) (by decide +kernel), List.mem_of_getElem? (i := 701) (by decide +kernel), List.mem_of_getElem? (i := 702) (by decide +kernel)⟩
theorem lw_p22 : lw_okq (⟨"HingeNumbers$Reckoner", "valueOfCall", "(II)I"⟩, 7) := ⟨⟨by decide +kernel, by decide +kernel⟩, List.mem_of_getElem? (i := 129) (by decide +kernel), List.mem_of_getElem? (i := 712) (by decide +kernel), List.mem_of_getElem? (i := 713) (by decide +kernel)⟩
theorem lw_p23 : lw_okq (⟨"HingeNumbers$Reckoner", "valueOfNode", "(III)I"⟩, 7) := ⟨⟨by decide +kernel, by decide +kernel⟩, List.mem_of_getElem? (i := 129) (by decide +kernel), List.mem_of_getElem? (i := 728) (by decide +kernel), List.mem_of_getElem? (i := 729) (by decide +kernel)⟩
theorem lw_p24 : lw_okq (⟨"HingeNumbers$Reckoner", "hingeSlope", "(II)I"⟩, 7) := ⟨⟨by decide +kernel, by decide +kernel⟩, List.mem_of_getElem? (i := 129) (by decide +kernel), List.mem_of_getElem? (i := 772) (by decide +kernel), List.mem_of_getElem? (i := 773) (by decide +kernel)⟩
theorem lw_p25 : lw_okq (⟨"HingeNumbers$Reckoner", "feed", "(III)I"⟩, 7) := ⟨⟨by decide +kernel, by decide +kernel⟩, List.mem_of_getElem? (i := 129) (by decide +kernel), List.mem_of_getElem? (i := 776) (by decide +kernel), List.mem_of_getElem? (i := 777) (by decide +kernel)⟩
theorem lw_p26 : lw_okq (⟨"HingeNumbers$Reckoner", "hingeOfCall", "(II)I"⟩, 7) := ⟨⟨by decide +kernel, by decide +kernel⟩, List.mem_of_getElem? (i := 129) (by decide +kernel), List.mem_of_getElem? (i := 780) (by decide +kernel), List.mem_of_getElem? (i := 781) (by decide +kernel)⟩
theorem lw_p27 : lw_okq (⟨"HingeNumbers$Reckoner", "hingeOfNode", "(IIII)I"⟩, 7) := ⟨⟨by decide +kernel, by decide +kernel⟩, List.mem_of_getElem? (i := 129) (by decide +kernel), List.mem_of_getElem? (i := 785) (by decide +kernel), List.mem_of_getElem? (i := 786) (by decide +kernel)⟩
theorem lw_p28 : lw_okq (⟨"HingeNumbers$Reckoner", "slopeOfNode", "(III)I"⟩, 7) := ⟨⟨by decide +kernel, by decide +kernel⟩, List.mem_of_getElem? (i := 129) (by decide +kernel), List.mem_of_getElem? (i := 789) (by decide +kernel), List.mem_of_getElem? (i := 790) (by decide +kernel)⟩
theorem lw_p29 : lw_okq (⟨"HingeNumbers$Reckoner", "ruleSlope", "(II)I"⟩, 7) := ⟨⟨by decide +kernel, by decide +kernel⟩, List.mem_of_getElem? (i := 129) (by decide +kernel), List.mem_of_getElem? (i := 801) (by decide +kernel), List.mem_of_getElem? (i := 802) (by decide +kernel)⟩
theorem lw_p30 : lw_okq (⟨"HingeNumbers$Reckoner", "sumOfWeights", "(I)I"⟩, 7) := ⟨⟨by decide +kernel, by decide +kernel⟩, List.mem_of_getElem? (i := 129) (by decide +kernel), List.mem_of_getElem? (i := 805) (by decide +kernel), List.mem_of_getElem? (i := 806) (by decide +kernel)⟩
theorem lw_p31 : lw_okq (⟨"HingeNumbers$Reckoner", "passWeightOn", "(II)V"⟩, 7) := ⟨⟨by decide +kernel, by decide +kernel⟩, List.mem_of_getElem? (i := 129) (by decide +kernel), List.mem_of_getElem? (i := 809) (by decide +kernel), List.mem_of_getElem? (i := 810) (by decide +kernel)⟩
def lw_privs_2 : List (MethodName × Nat) := [(⟨"HingeNumbers", "act", "(LHingeNumbers$State;)V"⟩, 5), (⟨"HingeNumbers$History", "forgetOldest", "()V"⟩, 2), (⟨"HingeNumbers", "prime", "()I"⟩, 5), (⟨"HingeNumbers", "requireNumber", "(I)V"⟩, 5), (⟨"HingeNumbers$Reckoner", "value", "(II)I"⟩, 7), (⟨"HingeNumbers$Reckoner", "reckonValues", "(II)I"⟩, 7), (⟨"HingeNumbers$Reckoner", "valueOfCall", "(II)I"⟩, 7), (⟨"HingeNumbers$Reckoner", "valueOfNode", "(III)I"⟩, 7), (⟨"HingeNumbers$Reckoner", "hingeSlope", "(II)I"⟩, 7), (⟨"HingeNumbers$Reckoner", "feed", "(III)I"⟩, 7), (⟨"HingeNumbers$Reckoner", "hingeOfCall", "(II)I"⟩, 7), (⟨"HingeNumbers$Reckoner", "hingeOfNode", "(IIII)I"⟩, 7), (⟨"HingeNumbers$Reckoner", "slopeOfNode", "(III)I"⟩, 7), (⟨"HingeNumbers$Reckoner", "ruleSlope", "(II)I"⟩, 7), (⟨"HingeNumbers$Reckoner", "sumOfWeights", "(I)I"⟩, 7), (⟨"HingeNumbers$Reckoner", "passWeightOn", "(II)V"⟩, 7)]
theorem lw_r2 : ∀ q ∈ lw_privs_2, lw_okq q := List.forall_mem_cons.mpr ⟨lw_p16, List.forall_mem_cons.mpr ⟨lw_p17, List.forall_mem_cons.mpr ⟨lw_p18, List.forall_mem_cons.mpr ⟨lw_p19, List.forall_mem_cons.mpr ⟨lw_p20, List.forall_mem_cons.mpr ⟨lw_p21, List.forall_mem_cons.mpr ⟨lw_p22, List.forall_mem_cons.mpr ⟨lw_p23, List.forall_mem_cons.mpr ⟨lw_p24, List.forall_mem_cons.mpr ⟨lw_p25, List.forall_mem_cons.mpr ⟨lw_p26, List.forall_mem_cons.mpr ⟨lw_p27, List.forall_mem_cons.mpr ⟨lw_p28, List.forall_mem_cons.mpr ⟨lw_p29, List.forall_mem_cons.mpr ⟨lw_p30, List.forall_mem_cons.mpr ⟨lw_p31, fun _ h => absurd h List.not_mem_nil⟩⟩⟩⟩⟩⟩⟩⟩⟩⟩⟩⟩⟩⟩⟩⟩
theorem lw_p32 : lw_okq (⟨"HingeNumbers$Reckoner", "leftShare", "(II)I"⟩, 7) := ⟨⟨by decide +kernel, by decide +kernel⟩, List.mem_of_getElem? (i := 129) (by decide +kernel), List.mem_of_getElem? (i := 813) (by decide +kernel), List.mem_of_getElem? (i := 814) (by decide +kernel)⟩
theorem lw_p33 : lw_okq (⟨"HingeNumbers$Reckoner", "rightShare", "(II)I"⟩, 7) := ⟨⟨by decide +kernel, by decide +kernel⟩, List.mem_of_getElem? (i := 129) (by decide +kernel), List.mem_of_getElem? (i := 818) (by decide +kernel), List.mem_of_getElem? (i := 819) (by decide +kernel)⟩
theorem lw_p34 : lw_okq (⟨"HingeNumbers", "nextOf", "(II)I"⟩, 5) := ⟨⟨by decide +kernel, by decide +kernel⟩, List.mem_of_getElem? (i := 22) (by decide +kernel), List.mem_of_getElem? (i := 826) (by decide +kernel), List.mem_of_getElem? (i := 827) (by decide +kernel)⟩
theorem lw_p35 : lw_okq (⟨"HingeNumbers", "countValues", "(II)I"⟩, 5) := ⟨⟨by decide +kernel, by decide +kernel⟩, List.mem_of_getElem? (i := 22) (by decide +kernel), List.mem_of_getElem? (i := 840) (by decide +kernel), List.mem_of_getElem? (i := 841) (by decide +kernel)⟩
def lw_privs_3 : List (MethodName × Nat) := [(⟨"HingeNumbers$Reckoner", "leftShare", "(II)I"⟩, 7), (⟨"HingeNumbers$Reckoner", "rightShare", "(II)I"⟩, 7), (⟨"HingeNumbers", "nextOf", "(II)I"⟩, 5), (⟨"HingeNumbers", "countValues", "(II)I"⟩, 5)]
theorem lw_r3 : ∀ q ∈ lw_privs_3, lw_okq q := List.forall_mem_cons.mpr ⟨lw_p32, List.forall_mem_cons.mpr ⟨lw_p33, List.forall_mem_cons.mpr ⟨lw_p34, List.forall_mem_cons.mpr ⟨lw_p35, fun _ h => absurd h List.not_mem_nil⟩⟩⟩⟩
def lw_privs : List (MethodName × Nat) := lw_privs_1 ++ (lw_privs_2 ++ (lw_privs_3))
def lw_tbl : List Cond := k2_sels lw_privs ++ tables_1
theorem lw_privs_ok : ∀ q ∈ lw_privs, lw_okq q := by
  show ∀ q ∈ lw_privs_1 ++ (lw_privs_2 ++ (lw_privs_3)), lw_okq q
  exact List.forall_mem_append.mpr ⟨lw_r1, List.forall_mem_append.mpr ⟨lw_r2, lw_r3⟩⟩
end
section
/-! ===== BEGIN words of one list among another's, by their places ===== -/
theorem goodIn_r {big : List Cond} (ws : List Cond) (ps : List Nat) (hp : ws = ps.filterMap (fun i => big[i]?)) (h : ws.all goodWord = true) : GoodIn big ws := by
  intro w hw
  have h1 := List.all_eq_true.mp h w hw
  rw [hp] at hw
  obtain ⟨i, -, hi⟩ := List.mem_filterMap.mp hw
  have hm : w ∈ big := by first | exact List.mem_of_getElem? hi | exact List.getElem?_mem hi
  exact ⟨hm, good_of_word h1⟩
theorem goodIn_app {big a b : List Cond} (ha : GoodIn big a) (hb : GoodIn big b) : GoodIn big (a ++ b) := fun w h => (List.mem_append.mp h).elim (ha w) (hb w)
theorem goodIn_ca {big a b : List Cond} {c : Cond} (ha : GoodIn big (c :: a)) (hb : GoodIn big b) : GoodIn big (c :: (a ++ b)) := fun w h => (List.mem_cons.mp h).elim (fun e => ha w (List.mem_cons.mpr (Or.inl e))) (fun h => (List.mem_append.mp h).elim (fun h => ha w (List.mem_cons.mpr (Or.inr h))) (hb w))
theorem goodIn_sub {big ws : List Cond} (hm : ∀ w ∈ ws, w ∈ big) (h : ws.all goodWord = true) : GoodIn big ws := fun w hw => ⟨hm w hw, good_of_word (List.all_eq_true.mp h w hw)⟩
/-! ===== END ===== -/

/-! ===== BEGIN exceptions that leave a method, and their catching by the caller (launches without stack traces) ===== -/
section VXA
/-! The laws vx_back, vx_callV, vx_callS, vx_callSW, vx_throw0, vx_throwS follow proofs of the library, with one case more: JvmDerived/Free/Laws.lean (Back.of_free), Shelf42/LK1.lean (callV, callS), Shelf/KitTraced.lean (throwNew0V, throwNewS). -/
/-- where a method has thrown q: the class by its name, the cell, what was written, the world -/
def vx_T (XC : String → State → State → Prop) (st : State) (q : Addr) (t : State) (mc ms : Nat) (free : Addr → Prop) : Prop :=
  ∃ (E : String) (ce : Cell) (L : List Loc), XC E st t ∧ t.heap[q]? = some ce ∧ ce.vm = .none ∧ st.vm.findClass E = some ce.cls ∧ st.WarmedH t.vm ∧ st.sameButNew ({ t with vm := st.vm } : State) L mc ms ∧ ∀ z ∈ L, free z.base
def vx_Q (Qc : Array Value → State → Outcome → State → Prop) (XC : String → State → State → Prop) (mc ms : Nat) (free : Addr → Prop) : Array Value → State → Outcome → State → Prop := fun a st o t =>
  (Qc a st o t ∧ ∃ L, FrameEnd st o t L mc ms ∧ ∀ q ∈ L, free q.base) ∨ ∃ q, o = .threw q ∧ vx_T XC st q t mc ms free
/-- a callee that returns or throws -/
def vx_Met (l : Launch) (y : MethodName) (ws : List Cond) (rm : Room) (Pc : Array Value → State → Prop) (Qc : Array Value → State → Outcome → State → Prop) (XC : String → State → State → Prop) (mc ms : Nat) (free : Addr → Prop) : Prop :=
  MetFree l y (headSpec ws rm) Pc (fun _ _ _ _ _ => True) (vx_Q Qc XC mc ms free)
def vx_Post (XC : String → State → State → Prop) (mc ms : Nat) (free : Addr → Prop) : Pt → Array Value → Addr → Pt → Prop := fun A a q B =>
  ∃ (g : JFrame) (mk : MethodId) (t : State) (L : List Loc) (E : String) (ce : Cell), B.U.heap = t.heap ∧ B.U.vm = t.vm ∧ XC E (A.U.calling g mk a) t ∧ t.heap[q]? = some ce ∧ ce.vm = .none ∧ A.U.vm.findClass E = some ce.cls ∧ B.locs = A.locs ++ L ∧ (∀ z ∈ L, free z.base) ∧ B.cells = A.cells + mc ∧ B.slots = A.slots + ms
def vx_Back (l : Launch) (R : Room) (p : Program) (e : Env) (below : List Frame) (s : State) (sargs : Array Value) (y : MethodName) (len W9 : Nat)
    (Pre : Pt → Array Value → Prop) (Post : Pt → Array Value → Option Value → Pt → Prop) (PostX : Pt → Array Value → Addr → Pt → Prop) : Prop :=
  ∀ (m : MethodId) (meth : Method) (c : Code) (A : Pt) (g : JFrame) (ig : Instr) (mk : MethodId) (a : Array Value),
    Stand p l e R s m sargs below meth c A.U A.locs A.cells A.slots → g.method = m → g.locals.size = c.maxLocals → decode c.code g.pc = .ok (ig, len) →
    2 * g.monitorRoom + (g.stack.map fun v => v.category).sum ≤ W9 → A.U.methodNamed? y = some mk → Pre A a →
    (∃ (v : Option Value) (B : Pt), Stand p l e R s m sargs below meth c B.U B.locs B.cells B.slots ∧ Post A a v B ∧
      Steps p.tables e below (doInvoke e (A.U.setTop g) [] mk a).1 (B.U.setTop { g with pc := g.pc + len, stack := v.toList ++ g.stack })) ∨
    (∃ (q : Addr) (B : Pt), Stand p l e R s m sargs below meth c B.U B.locs B.cells B.slots ∧ PostX A a q B ∧
      Steps p.tables e below (doInvoke e (A.U.setTop g) [] mk a).1 ((B.U.setTop g).pushFrame (.throwing q)))
section Payer
variable {l : Launch} {R : Room} {p : Program} {e : Env} {below : List Frame} {s : State} {sargs : Array Value} {y : MethodName} {len W9 : Nat}
theorem vx_back {ws : List Cond} {rm : Room} {Pc : Array Value → State → Prop} {Qc : Array Value → State → Outcome → State → Prop} {XC : String → State → State → Prop} {mc ms : Nat} {free : Addr → Prop} {bytes : ByteArray} {maxL : Nat} {ret : Option FieldType}
    (hM : vx_Met l y ws rm Pc Qc XC mc ms free) (hblind : FrameBlind Pc) (hrc : rm.cells = mc) (hrs : rm.slots = ms)
    (hframes : rm.frames + 1 ≤ R.frames) (hlocals : W9 + (maxL + 11) + rm.locals ≤ R.locals)
    (hws : ∀ w ∈ ws, ∀ a' U, s.WarmedH U.vm → w.before a' U = true) (hcode : Cond.code y bytes maxL ret ∈ ws) (hinit : ∀ a' U, s.WarmedH U.vm → (Cond.initialized y.cls).before a' U = true) :
    vx_Back l R p e below s sargs y len W9 (PreOf R mc ms Pc) (PostOf Qc mc ms free) (vx_Post XC mc ms free) := by
  intro m meth c A g ig mk a X hg hsize hdg hW hn hp
  have h1 : (headSpec ws rm).pre.before a A.U = true := atoms_intro fun w hw => hws w hw _ _ X.warmed
  have h2 : (Cond.code y bytes maxL ret).before a A.U = true := hws _ hcode _ _ X.warmed
  have h3 : (Cond.initialized y.cls).before a A.U = true := hinit _ _ X.warmed
  have h4 : A.cells + (headSpec ws rm).room.cells ≤ R.cells := by rw [show (headSpec ws rm).room.cells = mc from hrc]; exact hp.1
  have h5 : A.slots + (headSpec ws rm).room.slots ≤ R.slots := by rw [show (headSpec ws rm).room.slots = ms from hrs]; exact hp.2.1
  have hPc : Pc a (A.U.calling g mk a) := hblind _ _ _ _ hp.2.2
  obtain ⟨U, Ls, c0, s0⟩ := A
  dsimp only [Pt.U, Pt.locs, Pt.cells, Pt.slots] at h1 h2 h3 h4 h5 X hn hPc ⊢
  obtain ⟨methY, cY, hmY, hcY, -, hlY, -, -, -, -⟩ := Cond.code_spec hn h2
  obtain ⟨kY, hkY, -⟩ := className_of_methodNamed hn
  have hinitY : kY.init = .initialized := Cond.initialized_spec (findClass_of_methodNamed hn) hkY h3
  have h : At U g.method c below := by rw [hg]; exact X.here
  have hlocals9 : W9 + (maxL + 11) + (headSpec ws rm).room.locals ≤ R.locals := hlocals
  have happ : (headSpec ws rm).appliesLoose y e.platform (U.calling g mk a) = true :=
    Spec.appliesLoose_calling (g := g) h hdg hn hkY hinitY
      (X.room_calling (g := g) (R' := (headSpec ws rm).room) hsize hmY hcY hframes (by rw [hlY]; omega) h4 h5) h1
  obtain ⟨mid, hmid⟩ := h.above
  have hfr : (U.setTop g).frames = (.java g :: mid) ++ below := by rw [State.frames_setTop' g h.top, hmid]; rfl
  obtain ⟨o, s₂, hsteps, -, hend, hq⟩ := Steps.callFree hM p X.admits X.cas X.clock (acts := []) hfr happ hPc trivial
  have hq' : vx_Q Qc XC mc ms free a (U.calling g mk a) o s₂ := hq
  rw [State.frames_setTop' g h.top] at hend
  obtain ⟨g₀, hg0⟩ := Option.isSome_iff_exists.mp h.top
  obtain ⟨r, hr⟩ := State.topJava?_eq_some.mp hg0
  have hr' : (({ U with heap := s₂.heap, slotsUsed := s₂.slotsUsed } : State).setVm s₂.vm).frames = .java g₀ :: r := hr
  rcases hq' with ⟨hqc, L, hfe, hL⟩ | ⟨q, rfl, E, ce, L, hx, hce, hcv, hcl, hW₂, hsm, hL⟩
  · obtain ⟨⟨v, rfl⟩, hW₂, e2, q2, q3, q4, q5, q6⟩ := id hfe
    have e3 : s₂ = ({ (U.calling g mk a).setFrames s₂.frames with heap := s₂.heap, slotsUsed := s₂.slotsUsed } : State).setVm s₂.vm := by
      have : s₂ = ({ s₂ with vm := (U.calling g mk a).vm } : State).setVm s₂.vm := rfl
      rw [e2] at this
      exact this
    obtain ⟨c₂, i₂, len₂, hc₂, hd₂, hf₂⟩ := hend
    have hW' : U.WarmedH s₂.vm := hW₂
    have hcc : c₂ = c := by
      have h1 : s₂.code? g.method = U.code? g.method := by
        rw [State.code?_eq, State.code?_eq, hW'.alike.method?]
      exact Option.some.inj (hc₂.symm.trans (h1.trans h.code))
    subst hcc
    have hlen : len₂ = len := by rw [hdg] at hd₂; cases hd₂; rfl
    subst hlen
    have hs₂ : s₂ = (({ U with heap := s₂.heap, slotsUsed := s₂.slotsUsed } : State).setVm s₂.vm).setTop { g with pc := g.pc + len₂, stack := v.toList ++ g.stack } := by
      refine e3.trans ?_
      rw [hf₂, State.calling_eq h.top, State.setFrames_setFrames, State.setTop_of_frames _ hr', hr]
      rfl
    have hsame : U.sameButNew ({ U with heap := s₂.heap, slotsUsed := s₂.slotsUsed } : State) L mc ms := by
      refine ⟨?_, q2, q3, q4, q5, q6⟩
      obtain ⟨t, ht, -⟩ := State.frames_cons hr
      show ({ U with heap := s₂.heap, slotsUsed := s₂.slotsUsed } : State) = { U.setFrames U.frames with heap := s₂.heap, slotsUsed := s₂.slotsUsed }
      rw [State.setFrames_self ht]
    subst hg
    refine Or.inl ⟨v, ⟨(({ U with heap := s₂.heap, slotsUsed := s₂.slotsUsed } : State).setVm s₂.vm), Ls ++ L, c0 + mc, s0 + ms⟩,
      ⟨X.admits, X.cas, X.clock, X.frames, X.room, X.hears, X.method, X.code, (X.here.setHeapUsed s₂.heap s₂.slotsUsed).setVm hW'.alike, X.tail, State.WarmedH.trans X.warmed hW', X.limits, X.bytes, X.same.trans (hsame.setVm s.vm)⟩,
      ⟨g, mk, s₂, L, rfl, rfl, hqc, rfl, hL, rfl, rfl⟩, ?_⟩
    show Steps p.tables e below _ ((({ U with heap := s₂.heap, slotsUsed := s₂.slotsUsed } : State).setVm s₂.vm).setTop { g with pc := g.pc + len₂, stack := v.toList ++ g.stack })
    rw [← hs₂]
    exact hsteps
  · obtain ⟨e2, q2, q3, q4, q5, q6⟩ := id hsm
    have e3 : s₂ = ({ (U.calling g mk a).setFrames s₂.frames with heap := s₂.heap, slotsUsed := s₂.slotsUsed } : State).setVm s₂.vm := by
      have : s₂ = ({ s₂ with vm := (U.calling g mk a).vm } : State).setVm s₂.vm := rfl
      rw [e2] at this
      exact this
    have hf₂ : s₂.frames = .throwing q :: .java g :: U.frames.tail := hend
    have hW' : U.WarmedH s₂.vm := hW₂
    have hs₂ : s₂ = ((({ U with heap := s₂.heap, slotsUsed := s₂.slotsUsed } : State).setVm s₂.vm).setTop g).pushFrame (.throwing q) := by
      refine e3.trans ?_
      rw [hf₂, State.calling_eq h.top, State.setFrames_setFrames, State.pushFrame, State.frames_setTop _ hr', State.setTop_of_frames _ hr', State.setFrames_setFrames, hr]
      rfl
    have hsame : U.sameButNew ({ U with heap := s₂.heap, slotsUsed := s₂.slotsUsed } : State) L mc ms := by
      refine ⟨?_, q2, q3, q4, q5, q6⟩
      obtain ⟨t, ht, -⟩ := State.frames_cons hr
      show ({ U with heap := s₂.heap, slotsUsed := s₂.slotsUsed } : State) = { U.setFrames U.frames with heap := s₂.heap, slotsUsed := s₂.slotsUsed }
      rw [State.setFrames_self ht]
    subst hg
    refine Or.inr ⟨q, ⟨(({ U with heap := s₂.heap, slotsUsed := s₂.slotsUsed } : State).setVm s₂.vm), Ls ++ L, c0 + mc, s0 + ms⟩,
      ⟨X.admits, X.cas, X.clock, X.frames, X.room, X.hears, X.method, X.code, (X.here.setHeapUsed s₂.heap s₂.slotsUsed).setVm hW'.alike, X.tail, State.WarmedH.trans X.warmed hW', X.limits, X.bytes, X.same.trans (hsame.setVm s.vm)⟩,
      ⟨g, mk, s₂, L, E, ce, rfl, rfl, hx, hce, hcv, hcl, rfl, hL, rfl, rfl⟩, ?_⟩
    show Steps p.tables e below _ (((({ U with heap := s₂.heap, slotsUsed := s₂.slotsUsed } : State).setVm s₂.vm).setTop g).pushFrame (.throwing q))
    rw [← hs₂]
    exact hsteps
end Payer
section Calls
variable {p : Program} {l : Launch} {e : Env} {R : Room} {s : State} {m : MethodId} {args : Array Value} {below : List Frame} {meth : Method} {c : Code} {T : State} {locs : List Loc} {cells slots : Nat}
theorem vx_callV (X : Stand p l e R s m args below meth c T locs cells slots) (hexec : p.tables.exec = Jvm.exec) {own C : String} {index : Nat} {y : MethodName} {bytes : ByteArray} {maxL : Nat} {ret : Option FieldType}
    (hown : s.vm.findClass own = some m.cls) (hlink : (Cond.methodLink own index y).before args s = true) (hinst : (Cond.instanceMethod y).before args s = true) (hsel : (Cond.selects C y y).before args s = true)
    (hcode : (Cond.code y bytes maxL ret).before args s = true) (hy : y.cls ≠ "java/lang/invoke/MethodHandle" ∧ y.cls ≠ "java/lang/invoke/VarHandle")
    {W9 : Nat} {Pre : Pt → Array Value → Prop} {Post : Pt → Array Value → Option Value → Pt → Prop} {PostX : Pt → Array Value → Addr → Pt → Prop} (hK : vx_Back l R p e below s args y 3 W9 Pre Post PostX)
    {b : Addr} {cellB : Cell} (hcell : T.heap[b]? = some cellB) (hobj : cellB.vm.isStatics = false) (hcls : s.vm.findClass C = some cellB.cls)
    {g : JFrame} (hg : g.method = m) (hsize : g.locals.size = c.maxLocals) {argsL rest : List Value} (hlen : ∀ sig, parseMethodDescriptor y.desc = some sig → argsL.length = sig.parameters.length)
    (hstack : g.stack = argsL.reverse ++ .ref b :: rest) (hW : 2 * g.monitorRoom + (rest.map fun v => v.category).sum ≤ W9) (hdg : decode c.code g.pc = .ok (.invokevirtual index, 3))
    (hpre : ∀ vm₁, s.WarmedH vm₁ → Pre ⟨T.setVm vm₁, locs, cells, slots⟩ (Value.ref b :: argsL).toArray) :
    (∃ (v : Option Value) (vm₁ : Vm) (B : Pt), s.WarmedH vm₁ ∧ Stand p l e R s m args below meth c B.U B.locs B.cells B.slots ∧ Post ⟨T.setVm vm₁, locs, cells, slots⟩ (Value.ref b :: argsL).toArray v B ∧
      ∀ target, Steps p.tables e below (B.U.setTop { g with pc := g.pc + 3, stack := v.toList ++ rest }) target → Steps p.tables e below (T.setTop g) target) ∨
    (∃ (q : Addr) (vm₁ : Vm) (B : Pt), s.WarmedH vm₁ ∧ Stand p l e R s m args below meth c B.U B.locs B.cells B.slots ∧ PostX ⟨T.setVm vm₁, locs, cells, slots⟩ (Value.ref b :: argsL).toArray q B ∧
      Steps p.tables e below (T.setTop g) ((B.U.setTop { g with stack := rest }).pushFrame (.throwing q))) := by
  obtain ⟨mk, methM, hnamed, hmethM, hstM, habM⟩ := Cond.instanceMethod_spec hinst
  obtain ⟨methM', cM, hmethM', -, -, -, -, -, -, hsigM⟩ := Cond.code_spec hnamed hcode
  cases hmethM.symm.trans hmethM'
  obtain ⟨c2, r2, m2, q1, q2, q3, q4, kP, hkP, hkPi⟩ := Cond.selects_spec hsel
  cases hcls.symm.trans q1
  cases (State.methodFound?_of_named hnamed hy).symm.trans q2
  cases hnamed.symm.trans q3
  have hselP : selectMethod e.platform s.vm cellB.cls mk = .method mk := by rw [Launch.admits_selectMethod X.admits]; exact q4
  obtain ⟨vm₁, X₁, hstep₁⟩ := X.invokevirtual hexec hown hlink hnamed hmethM hstM hkP hkPi hy (a := b) (cell := cellB) hcell
    (fun z h => by rw [h] at hobj; cases hobj) hselP hmethM habM hkP hkPi (g := g) hg (argsL := argsL) (rest := rest) (hlen _ hsigM) hstack hdg
  rcases hK m meth c ⟨T.setVm vm₁, locs, cells, slots⟩ { g with stack := rest } (.invokevirtual index) mk (Value.ref b :: argsL).toArray X₁ hg hsize hdg hW (X₁.named hnamed) (hpre vm₁ X₁.warmed) with ⟨v, B, X', hpost, hsteps⟩ | ⟨q, B, X', hpost, hsteps⟩
  · exact Or.inl ⟨v, vm₁, B, X₁.warmed, X', hpost, fun target h => hstep₁ _ fun acts => by rw [doInvoke_state]; exact hsteps.trans h⟩
  · exact Or.inr ⟨q, vm₁, B, X₁.warmed, X', hpost, hstep₁ _ fun acts => by rw [doInvoke_state]; exact hsteps⟩
theorem vx_callS (X : Stand p l e R s m args below meth c T locs cells slots) (hexec : p.tables.exec = Jvm.exec) {own : String} {index : Nat} {y : MethodName} {bytes : ByteArray} {maxL : Nat} {ret : Option FieldType}
    (hown : s.vm.findClass own = some m.cls) (hlink : (Cond.methodLink own index y).before args s = true) (hstat : (Cond.static y).before args s = true) (hinit : (Cond.initialized y.cls).before args s = true)
    (hcode : (Cond.code y bytes maxL ret).before args s = true) (hy : y.cls ≠ "java/lang/invoke/MethodHandle" ∧ y.cls ≠ "java/lang/invoke/VarHandle")
    {W9 : Nat} {Pre : Pt → Array Value → Prop} {Post : Pt → Array Value → Option Value → Pt → Prop} {PostX : Pt → Array Value → Addr → Pt → Prop} (hK : vx_Back l R p e below s args y 3 W9 Pre Post PostX)
    {g : JFrame} (hg : g.method = m) (hsize : g.locals.size = c.maxLocals) {argsL rest : List Value} (hlen : ∀ sig, parseMethodDescriptor y.desc = some sig → argsL.length = sig.parameters.length)
    (hstack : g.stack = argsL.reverse ++ rest) (hW : 2 * g.monitorRoom + (rest.map fun v => v.category).sum ≤ W9) (hdg : decode c.code g.pc = .ok (.invokestatic index, 3))
    (hpre : ∀ vm₁, s.WarmedH vm₁ → Pre ⟨T.setVm vm₁, locs, cells, slots⟩ argsL.toArray) :
    (∃ (v : Option Value) (vm₁ : Vm) (B : Pt), s.WarmedH vm₁ ∧ Stand p l e R s m args below meth c B.U B.locs B.cells B.slots ∧ Post ⟨T.setVm vm₁, locs, cells, slots⟩ argsL.toArray v B ∧
      ∀ target, Steps p.tables e below (B.U.setTop { g with pc := g.pc + 3, stack := v.toList ++ rest }) target → Steps p.tables e below (T.setTop g) target) ∨
    (∃ (q : Addr) (vm₁ : Vm) (B : Pt), s.WarmedH vm₁ ∧ Stand p l e R s m args below meth c B.U B.locs B.cells B.slots ∧ PostX ⟨T.setVm vm₁, locs, cells, slots⟩ argsL.toArray q B ∧
      Steps p.tables e below (T.setTop g) ((B.U.setTop { g with stack := rest }).pushFrame (.throwing q))) := by
  obtain ⟨mk, hnamed⟩ := Cond.code_named hcode
  obtain ⟨methM, cM, hmethM, -, -, -, -, -, -, hsigM⟩ := Cond.code_spec hnamed hcode
  have hstatic : methM.isStatic = true := Cond.static_spec hnamed hmethM hstat
  obtain ⟨kP, hkP, -⟩ := className_of_methodNamed hnamed
  have hinitP : kP.init = .initialized := Cond.initialized_spec (findClass_of_methodNamed hnamed) hkP hinit
  obtain ⟨vm₁, X₁, hstep₁⟩ := X.invokestatic hexec hown hlink hnamed hmethM hstatic hkP hinitP hy (g := g) hg (argsL := argsL) (rest := rest) (hlen _ hsigM) hstack hdg
  rcases hK m meth c ⟨T.setVm vm₁, locs, cells, slots⟩ { g with stack := rest } (.invokestatic index) mk argsL.toArray X₁ hg hsize hdg hW (X₁.named hnamed) (hpre vm₁ X₁.warmed) with ⟨v, B, X', hpost, hsteps⟩ | ⟨q, B, X', hpost, hsteps⟩
  · exact Or.inl ⟨v, vm₁, B, X₁.warmed, X', hpost, fun target h => hstep₁ _ fun acts => by rw [doInvoke_state]; exact hsteps.trans h⟩
  · exact Or.inr ⟨q, vm₁, B, X₁.warmed, X', hpost, hstep₁ _ fun acts => by rw [doInvoke_state]; exact hsteps⟩
end Calls
theorem vx_cls {s : State} {T : State} {vm₁ : Vm} {E : String} {k : ClassId} (hW : s.WarmedH vm₁) (h : (T.setVm vm₁).vm.findClass E = some k) : s.vm.findClass E = some k := by
  have h1 : vm₁.findClass E = some k := h
  rw [hW.alike.findClass] at h1
  exact h1
/-- the method's frame g, with q thrown over it -/
def vx_W (p : Program) (l : Launch) (e : Env) (R : Room) (s : State) (m : MethodId) (args : Array Value) (below : List Frame) (meth : Method) (c : Code) (H : Heap) (locs : List Loc) (cells slots : Nat) (Q : State → Prop) (g : JFrame) (q : Addr) : Prop :=
  ∀ T : State, T.heap = H → Stand p l e R s m args below meth c T locs cells slots → ∃ t, Steps p.tables e below ((T.setTop g).pushFrame (.throwing q)) t ∧ Q t
def vx_Run (p : Program) (l : Launch) (e : Env) (R : Room) (s : State) (m : MethodId) (args : Array Value) (below : List Frame) (meth : Method) (c : Code) (H : Heap) (locs : List Loc) (cells slots mc ms : Nat) (g : JFrame) (rest : List Value) (Qa : State → Outcome → State → Prop) (XC : String → State → State → Prop) (free : Addr → Prop) : Prop :=
  ∀ T : State, T.heap = H → Stand p l e R s m args below meth c T locs cells slots →
    (∃ (v : Option Value) (st₀ t T' : State) (L : List Loc), st₀.heap = H ∧ Stand p l e R s m args below meth c T' (locs ++ L) (cells + mc) (slots + ms) ∧ (∀ q ∈ L, free q.base) ∧ T'.heap = t.heap ∧ T'.vm = t.vm ∧ Qa st₀ (.returned v) t ∧
      Goes p e below T g T' { g with pc := g.pc + 3, stack := v.toList ++ rest }) ∨
    (∃ (q : Addr) (st₀ t T' : State) (L : List Loc) (E : String) (ce : Cell), st₀.heap = H ∧ Stand p l e R s m args below meth c T' (locs ++ L) (cells + mc) (slots + ms) ∧ (∀ z ∈ L, free z.base) ∧ T'.heap = t.heap ∧ T'.vm = t.vm ∧ XC E st₀ t ∧ t.heap[q]? = some ce ∧ ce.vm = .none ∧ s.vm.findClass E = some ce.cls ∧
      Steps p.tables e below (T.setTop g) ((T'.setTop { g with stack := rest }).pushFrame (.throwing q)))
def vx_X {S : Type} (px : S → Prop) (B : String → S → State → Prop) (A : Nat → Prop) : String → State → State → Prop := fun E st t => ∃ u : S, px u ∧ B E u t ∧ va_F A st t
section Runs
variable {p : Program} {l : Launch} {e : Env} {R : Room} {s : State} {m : MethodId} {args : Array Value} {below : List Frame} {meth : Method} {c : Code} {H : Heap} {locs : List Loc} {cells slots : Nat}
variable {y : MethodName} {bytes cc : ByteArray} {maxL nL mc ms n index : Nat} {ret : Option FieldType} {ws : List Cond} {rm : Room} {Pc : Array Value → State → Prop} {Qc : Array Value → State → Outcome → State → Prop} {XC : String → State → State → Prop} {free : Addr → Prop} {Ts : List Cond} {own C : String} {b : Addr} {As rest : List Value} {g : JFrame}
theorem vx_callBack (cb : CallB R s args own index y bytes maxL ret ws rm mc ms n) (hM : vx_Met l y ws rm Pc Qc XC mc ms free) (hbl : FrameBlind Pc) : vx_Back l R p e below s args y 3 8 (PreOf R mc ms Pc) (PostOf Qc mc ms free) (vx_Post XC mc ms free) := by
  obtain ⟨hrc, hrs, hfr, hlo, hws, hcw, -, hini, -⟩ := cb
  exact vx_back (bytes := bytes) (maxL := maxL) (ret := ret) hM hbl hrc hrs hfr hlo hws hcw (fun a' U hW => word_at hW (Or.inl (by first | rfl | simp [Cond.onTables, Cond.keeps, Cond.steady])) hini)
theorem vx_runV (S : CallFix p m c cc nL s args Ts own) (hM : vx_Met l y ws rm Pc Qc XC mc ms free) (cw : CallW R s args own C index y bytes maxL ret ws rm mc ms n) (hp : PreV s H C b Pc As)
    (hg : g.method = m) (hn : As.length = n) (hsize : g.locals.size = nL) (hstack : g.stack = As.reverse ++ .ref b :: rest) (hW : 2 * g.monitorRoom + (rest.map fun v => v.category).sum ≤ 8) (hdg : decode cc g.pc = .ok (.invokevirtual index, 3)) (hf : cells + mc ≤ R.cells ∧ slots + ms ≤ R.slots) :
    vx_Run p l e R s m args below meth c H locs cells slots mc ms g rest (Qc (Value.ref b :: As).toArray) XC free := by
  have hK : vx_Back l R p e below s args y 3 8 (PreOf R mc ms Pc) (PostOf Qc mc ms free) (vx_Post XC mc ms free) := vx_callBack cw.1 hM hp.1
  obtain ⟨⟨-, -, -, -, -, -, hcode, -, hy, hlen, hl⟩, hin, hse⟩ := cw
  obtain ⟨hx, hb, hml, ho, -⟩ := S
  obtain ⟨-, ⟨cellB, hcB, hoB, hclB⟩, hPc⟩ := hp
  intro T hT X
  rcases vx_callV X hx (C := C) (bytes := bytes) (maxL := maxL) (ret := ret) ho hl hin hse hcode hy hK (by rw [hT]; exact hcB) hoB hclB hg (hsize.trans hml.symm) (argsL := As) (rest := rest) (fun sig h => hn.trans (hlen sig h)) hstack hW (by rw [hb]; exact hdg)
    (fun vm₁ hW₁ => ⟨hf.1, hf.2, hPc (T.setVm vm₁) hT hW₁⟩) with ⟨v, vm₁, ⟨U', l2, c2, s2⟩, hW₁, X', ⟨g', mk, t, L, e1, e2, hq, h1, hL, h2, h3⟩, st⟩ | ⟨q, vm₁, ⟨U', l2, c2, s2⟩, hW₁, X', ⟨g', mk, t, L, E, ce, e1, e2, hq, hce, hcv, hcl, h1, hL, h2, h3⟩, st⟩
  · dsimp only [Pt.U, Pt.locs, Pt.cells, Pt.slots] at X' e1 e2 h1 h2 h3 st
    subst h1; subst h2; subst h3
    exact Or.inl ⟨v, (T.setVm vm₁).calling g' mk (Value.ref b :: As).toArray, t, U', L, hT, X', hL, e1, e2, hq, st⟩
  · dsimp only [Pt.U, Pt.locs, Pt.cells, Pt.slots] at X' e1 e2 h1 h2 h3 st hcl
    subst h1; subst h2; subst h3
    exact Or.inr ⟨q, (T.setVm vm₁).calling g' mk (Value.ref b :: As).toArray, t, U', L, E, ce, hT, X', hL, e1, e2, hq, hce, hcv, vx_cls hW₁ hcl, st⟩
theorem vx_runS (S : CallFix p m c cc nL s args Ts own) (hM : vx_Met l y ws rm Pc Qc XC mc ms free) (cw : CallB R s args own index y bytes maxL ret ws rm mc ms n ∧ (Cond.static y).before args s = true) (hp : PreS s H Pc As)
    (hg : g.method = m) (hn : As.length = n) (hsize : g.locals.size = nL) (hstack : g.stack = As.reverse ++ rest) (hW : 2 * g.monitorRoom + (rest.map fun v => v.category).sum ≤ 8) (hdg : decode cc g.pc = .ok (.invokestatic index, 3)) (hf : cells + mc ≤ R.cells ∧ slots + ms ≤ R.slots) :
    vx_Run p l e R s m args below meth c H locs cells slots mc ms g rest (Qc As.toArray) XC free := by
  have hK : vx_Back l R p e below s args y 3 8 (PreOf R mc ms Pc) (PostOf Qc mc ms free) (vx_Post XC mc ms free) := vx_callBack cw.1 hM hp.1
  obtain ⟨⟨-, -, -, -, -, -, hcode, hini, hy, hlen, hl⟩, hstt⟩ := cw
  obtain ⟨hx, hb, hml, ho, -⟩ := S
  intro T hT X
  rcases vx_callS X hx (bytes := bytes) (maxL := maxL) (ret := ret) ho hl hstt hini hcode hy hK hg (hsize.trans hml.symm) (argsL := As) (rest := rest) (fun sig h => hn.trans (hlen sig h)) hstack hW (by rw [hb]; exact hdg)
    (fun vm₁ hW₁ => ⟨hf.1, hf.2, hp.2 (T.setVm vm₁) hT hW₁⟩) with ⟨v, vm₁, ⟨U', l2, c2, s2⟩, hW₁, X', ⟨g', mk, t, L, e1, e2, hq, h1, hL, h2, h3⟩, st⟩ | ⟨q, vm₁, ⟨U', l2, c2, s2⟩, hW₁, X', ⟨g', mk, t, L, E, ce, e1, e2, hq, hce, hcv, hcl, h1, hL, h2, h3⟩, st⟩
  · dsimp only [Pt.U, Pt.locs, Pt.cells, Pt.slots] at X' e1 e2 h1 h2 h3 st
    subst h1; subst h2; subst h3
    exact Or.inl ⟨v, (T.setVm vm₁).calling g' mk As.toArray, t, U', L, hT, X', hL, e1, e2, hq, st⟩
  · dsimp only [Pt.U, Pt.locs, Pt.cells, Pt.slots] at X' e1 e2 h1 h2 h3 st hcl
    subst h1; subst h2; subst h3
    exact Or.inr ⟨q, (T.setVm vm₁).calling g' mk As.toArray, t, U', L, E, ce, hT, X', hL, e1, e2, hq, hce, hcv, vx_cls hW₁ hcl, st⟩
end Runs
section Rows
variable {p : Program} {l : Launch} {e : Env} {R : Room} {s : State} {m : MethodId} {args : Array Value} {below : List Frame} {meth : Method} {c : Code} {H : Heap} {locs : List Loc} {cells slots : Nat} {Q : State → Prop}
variable {mc ms : Nat} {free : Addr → Prop} {A0 A1 : Nat → Prop} {H0 : Heap} {a : Array Value} {pc : Nat} {ls : Array Slot} {st0 rest : List Value}
theorem vx_keep {st₀ t T' : State} {L : List Loc} (h0 : st₀.heap = H) (e1 : T'.heap = t.heap) (hS : va_S A0 H0 H locs) (hA : ∀ q, q < H.size → A1 q → A0 q) (hf : ∀ q, free q → A0 q) (hL : ∀ q ∈ L, free q.base) (hF : va_F A1 st₀ t) :
    H.size ≤ T'.heap.size ∧ (∀ q : Nat, q < H.size → ¬ A1 q → T'.heap[q]? = H[q]?) ∧ va_S A0 H0 T'.heap (locs ++ L) := by
  obtain ⟨hz, hk⟩ := hF
  rw [h0] at hz hk
  exact ⟨by rw [e1]; exact hz, fun q h1 h2 => by rw [e1]; exact hk q h1 h2,
    ⟨Nat.le_trans hS.1 (by rw [e1]; exact hz), fun q h1 h2 => by rw [e1, hk q (Nat.lt_of_lt_of_le h1 hS.1) (fun z => h2 (hA q (Nat.lt_of_lt_of_le h1 hS.1) z))]; exact hS.2.1 q h1 h2, fun q hq => by
      rcases List.mem_append.mp hq with h | h
      · exact hS.2.2 q h
      · exact hf _ (hL q h)⟩⟩
theorem vx_calli {S SX : Type} {post : Int32 → S → Prop} {px : SX → Prop} {B : S → State → Prop} {BX : String → SX → State → Prop} {AX : Nat → Prop} (hr : vx_Run p l e R s m args below meth c H locs cells slots mc ms (F0 m pc ls st0) rest (va_Qi post B A1 a) (vx_X px BX AX) free) (hS : va_S A0 H0 H locs) (hA : ∀ q, q < H.size → A1 q → A0 q) (hf : ∀ q, free q → A0 q) (hAX : ∀ q, q < H.size → AX q → A0 q)
    (kx : ∀ (E : String) (ce : Cell) (q9 : Addr) (u : SX) (t : State) (H1 : Heap) (locs1 : List Loc), t.heap = H1 → s.vm.Alike t.vm → px u → BX E u t → H.size ≤ H1.size → (∀ q : Nat, q < H.size → ¬ AX q → H1[q]? = H[q]?) → va_S A0 H0 H1 locs1 → H1[q9]? = some ce → ce.vm = .none → s.vm.findClass E = some ce.cls → vx_W p l e R s m args below meth c H1 locs1 (cells + mc) (slots + ms) Q (F0 m pc ls rest) q9)
    (kk : ∀ (r : Int32) (u : S) (t : State) (H1 : Heap) (locs1 : List Loc), t.heap = H1 → s.vm.Alike t.vm → post r u → B u t → H.size ≤ H1.size → (∀ q : Nat, q < H.size → ¬ A1 q → H1[q]? = H[q]?) → va_S A0 H0 H1 locs1 → W p l e R s m args below meth c H1 locs1 (cells + mc) (slots + ms) Q (F0 m (pc + 3) ls (.int r :: rest))) : W p l e R s m args below meth c H locs cells slots Q (F0 m pc ls st0) := by
  intro T hT X
  rcases hr T hT X with ⟨v, st₀, t, T', L, h0, X', hL, e1, e2, ⟨⟨r, u, hv, hp, hb⟩, hF⟩, st⟩ | ⟨q, st₀, t, T', L, E, ce, h0, X', hL, e1, e2, ⟨u, hp, hb, hF⟩, hce, hcv, hcl, st⟩
  · cases hv
    obtain ⟨k1, k2, k3⟩ := vx_keep h0 e1 hS hA hf hL hF
    obtain ⟨t2, a1, b1⟩ := kk r u t T'.heap (locs ++ L) e1.symm (by rw [← e2]; exact X'.warmed.alike) hp hb k1 k2 k3 T' rfl X'
    exact ⟨t2, st t2 a1, b1⟩
  · obtain ⟨k1, k2, k3⟩ := vx_keep h0 e1 hS hAX hf hL hF
    obtain ⟨t2, a1, b1⟩ := kx E ce q u t T'.heap (locs ++ L) e1.symm (by rw [← e2]; exact X'.warmed.alike) hp hb k1 k2 k3 (by rw [e1]; exact hce) hcv hcl T' rfl X'
    exact ⟨t2, st.trans a1, b1⟩
theorem vx_calll {S SX : Type} {post : Int64 → S → Prop} {px : SX → Prop} {B : S → State → Prop} {BX : String → SX → State → Prop} {AX : Nat → Prop} (hr : vx_Run p l e R s m args below meth c H locs cells slots mc ms (F0 m pc ls st0) rest (va_Ql post B A1 a) (vx_X px BX AX) free) (hS : va_S A0 H0 H locs) (hA : ∀ q, q < H.size → A1 q → A0 q) (hf : ∀ q, free q → A0 q) (hAX : ∀ q, q < H.size → AX q → A0 q)
    (kx : ∀ (E : String) (ce : Cell) (q9 : Addr) (u : SX) (t : State) (H1 : Heap) (locs1 : List Loc), t.heap = H1 → s.vm.Alike t.vm → px u → BX E u t → H.size ≤ H1.size → (∀ q : Nat, q < H.size → ¬ AX q → H1[q]? = H[q]?) → va_S A0 H0 H1 locs1 → H1[q9]? = some ce → ce.vm = .none → s.vm.findClass E = some ce.cls → vx_W p l e R s m args below meth c H1 locs1 (cells + mc) (slots + ms) Q (F0 m pc ls rest) q9)
    (kk : ∀ (r : Int64) (u : S) (t : State) (H1 : Heap) (locs1 : List Loc), t.heap = H1 → s.vm.Alike t.vm → post r u → B u t → H.size ≤ H1.size → (∀ q : Nat, q < H.size → ¬ A1 q → H1[q]? = H[q]?) → va_S A0 H0 H1 locs1 → W p l e R s m args below meth c H1 locs1 (cells + mc) (slots + ms) Q (F0 m (pc + 3) ls (.long r :: rest))) : W p l e R s m args below meth c H locs cells slots Q (F0 m pc ls st0) := by
  intro T hT X
  rcases hr T hT X with ⟨v, st₀, t, T', L, h0, X', hL, e1, e2, ⟨⟨r, u, hv, hp, hb⟩, hF⟩, st⟩ | ⟨q, st₀, t, T', L, E, ce, h0, X', hL, e1, e2, ⟨u, hp, hb, hF⟩, hce, hcv, hcl, st⟩
  · cases hv
    obtain ⟨k1, k2, k3⟩ := vx_keep h0 e1 hS hA hf hL hF
    obtain ⟨t2, a1, b1⟩ := kk r u t T'.heap (locs ++ L) e1.symm (by rw [← e2]; exact X'.warmed.alike) hp hb k1 k2 k3 T' rfl X'
    exact ⟨t2, st t2 a1, b1⟩
  · obtain ⟨k1, k2, k3⟩ := vx_keep h0 e1 hS hAX hf hL hF
    obtain ⟨t2, a1, b1⟩ := kx E ce q u t T'.heap (locs ++ L) e1.symm (by rw [← e2]; exact X'.warmed.alike) hp hb k1 k2 k3 (by rw [e1]; exact hce) hcv hcl T' rfl X'
    exact ⟨t2, st.trans a1, b1⟩
theorem vx_callf {S SX : Type} {post : UInt32 → S → Prop} {px : SX → Prop} {B : S → State → Prop} {BX : String → SX → State → Prop} {AX : Nat → Prop} (hr : vx_Run p l e R s m args below meth c H locs cells slots mc ms (F0 m pc ls st0) rest (va_Qf post B A1 a) (vx_X px BX AX) free) (hS : va_S A0 H0 H locs) (hA : ∀ q, q < H.size → A1 q → A0 q) (hf : ∀ q, free q → A0 q) (hAX : ∀ q, q < H.size → AX q → A0 q)
    (kx : ∀ (E : String) (ce : Cell) (q9 : Addr) (u : SX) (t : State) (H1 : Heap) (locs1 : List Loc), t.heap = H1 → s.vm.Alike t.vm → px u → BX E u t → H.size ≤ H1.size → (∀ q : Nat, q < H.size → ¬ AX q → H1[q]? = H[q]?) → va_S A0 H0 H1 locs1 → H1[q9]? = some ce → ce.vm = .none → s.vm.findClass E = some ce.cls → vx_W p l e R s m args below meth c H1 locs1 (cells + mc) (slots + ms) Q (F0 m pc ls rest) q9)
    (kk : ∀ (r : UInt32) (u : S) (t : State) (H1 : Heap) (locs1 : List Loc), t.heap = H1 → s.vm.Alike t.vm → post r u → B u t → H.size ≤ H1.size → (∀ q : Nat, q < H.size → ¬ A1 q → H1[q]? = H[q]?) → va_S A0 H0 H1 locs1 → W p l e R s m args below meth c H1 locs1 (cells + mc) (slots + ms) Q (F0 m (pc + 3) ls (.float r :: rest))) : W p l e R s m args below meth c H locs cells slots Q (F0 m pc ls st0) := by
  intro T hT X
  rcases hr T hT X with ⟨v, st₀, t, T', L, h0, X', hL, e1, e2, ⟨⟨r, u, hv, hp, hb⟩, hF⟩, st⟩ | ⟨q, st₀, t, T', L, E, ce, h0, X', hL, e1, e2, ⟨u, hp, hb, hF⟩, hce, hcv, hcl, st⟩
  · cases hv
    obtain ⟨k1, k2, k3⟩ := vx_keep h0 e1 hS hA hf hL hF
    obtain ⟨t2, a1, b1⟩ := kk r u t T'.heap (locs ++ L) e1.symm (by rw [← e2]; exact X'.warmed.alike) hp hb k1 k2 k3 T' rfl X'
    exact ⟨t2, st t2 a1, b1⟩
  · obtain ⟨k1, k2, k3⟩ := vx_keep h0 e1 hS hAX hf hL hF
    obtain ⟨t2, a1, b1⟩ := kx E ce q u t T'.heap (locs ++ L) e1.symm (by rw [← e2]; exact X'.warmed.alike) hp hb k1 k2 k3 (by rw [e1]; exact hce) hcv hcl T' rfl X'
    exact ⟨t2, st.trans a1, b1⟩
theorem vx_calld {S SX : Type} {post : UInt64 → S → Prop} {px : SX → Prop} {B : S → State → Prop} {BX : String → SX → State → Prop} {AX : Nat → Prop} (hr : vx_Run p l e R s m args below meth c H locs cells slots mc ms (F0 m pc ls st0) rest (va_Qd post B A1 a) (vx_X px BX AX) free) (hS : va_S A0 H0 H locs) (hA : ∀ q, q < H.size → A1 q → A0 q) (hf : ∀ q, free q → A0 q) (hAX : ∀ q, q < H.size → AX q → A0 q)
    (kx : ∀ (E : String) (ce : Cell) (q9 : Addr) (u : SX) (t : State) (H1 : Heap) (locs1 : List Loc), t.heap = H1 → s.vm.Alike t.vm → px u → BX E u t → H.size ≤ H1.size → (∀ q : Nat, q < H.size → ¬ AX q → H1[q]? = H[q]?) → va_S A0 H0 H1 locs1 → H1[q9]? = some ce → ce.vm = .none → s.vm.findClass E = some ce.cls → vx_W p l e R s m args below meth c H1 locs1 (cells + mc) (slots + ms) Q (F0 m pc ls rest) q9)
    (kk : ∀ (r : UInt64) (u : S) (t : State) (H1 : Heap) (locs1 : List Loc), t.heap = H1 → s.vm.Alike t.vm → post r u → B u t → H.size ≤ H1.size → (∀ q : Nat, q < H.size → ¬ A1 q → H1[q]? = H[q]?) → va_S A0 H0 H1 locs1 → W p l e R s m args below meth c H1 locs1 (cells + mc) (slots + ms) Q (F0 m (pc + 3) ls (.double r :: rest))) : W p l e R s m args below meth c H locs cells slots Q (F0 m pc ls st0) := by
  intro T hT X
  rcases hr T hT X with ⟨v, st₀, t, T', L, h0, X', hL, e1, e2, ⟨⟨r, u, hv, hp, hb⟩, hF⟩, st⟩ | ⟨q, st₀, t, T', L, E, ce, h0, X', hL, e1, e2, ⟨u, hp, hb, hF⟩, hce, hcv, hcl, st⟩
  · cases hv
    obtain ⟨k1, k2, k3⟩ := vx_keep h0 e1 hS hA hf hL hF
    obtain ⟨t2, a1, b1⟩ := kk r u t T'.heap (locs ++ L) e1.symm (by rw [← e2]; exact X'.warmed.alike) hp hb k1 k2 k3 T' rfl X'
    exact ⟨t2, st t2 a1, b1⟩
  · obtain ⟨k1, k2, k3⟩ := vx_keep h0 e1 hS hAX hf hL hF
    obtain ⟨t2, a1, b1⟩ := kx E ce q u t T'.heap (locs ++ L) e1.symm (by rw [← e2]; exact X'.warmed.alike) hp hb k1 k2 k3 (by rw [e1]; exact hce) hcv hcl T' rfl X'
    exact ⟨t2, st.trans a1, b1⟩
theorem vx_callv {S SX : Type} {post : S → Prop} {px : SX → Prop} {B : S → State → Prop} {BX : String → SX → State → Prop} {AX : Nat → Prop} (hr : vx_Run p l e R s m args below meth c H locs cells slots mc ms (F0 m pc ls st0) rest (va_Qv post B A1 a) (vx_X px BX AX) free) (hS : va_S A0 H0 H locs) (hA : ∀ q, q < H.size → A1 q → A0 q) (hf : ∀ q, free q → A0 q) (hAX : ∀ q, q < H.size → AX q → A0 q)
    (kx : ∀ (E : String) (ce : Cell) (q9 : Addr) (u : SX) (t : State) (H1 : Heap) (locs1 : List Loc), t.heap = H1 → s.vm.Alike t.vm → px u → BX E u t → H.size ≤ H1.size → (∀ q : Nat, q < H.size → ¬ AX q → H1[q]? = H[q]?) → va_S A0 H0 H1 locs1 → H1[q9]? = some ce → ce.vm = .none → s.vm.findClass E = some ce.cls → vx_W p l e R s m args below meth c H1 locs1 (cells + mc) (slots + ms) Q (F0 m pc ls rest) q9)
    (kk : ∀ (u : S) (t : State) (H1 : Heap) (locs1 : List Loc), t.heap = H1 → s.vm.Alike t.vm → post u → B u t → H.size ≤ H1.size → (∀ q : Nat, q < H.size → ¬ A1 q → H1[q]? = H[q]?) → va_S A0 H0 H1 locs1 → W p l e R s m args below meth c H1 locs1 (cells + mc) (slots + ms) Q (F0 m (pc + 3) ls (rest))) : W p l e R s m args below meth c H locs cells slots Q (F0 m pc ls st0) := by
  intro T hT X
  rcases hr T hT X with ⟨v, st₀, t, T', L, h0, X', hL, e1, e2, ⟨⟨u, hv, hp, hb⟩, hF⟩, st⟩ | ⟨q, st₀, t, T', L, E, ce, h0, X', hL, e1, e2, ⟨u, hp, hb, hF⟩, hce, hcv, hcl, st⟩
  · cases hv
    obtain ⟨k1, k2, k3⟩ := vx_keep h0 e1 hS hA hf hL hF
    obtain ⟨t2, a1, b1⟩ := kk u t T'.heap (locs ++ L) e1.symm (by rw [← e2]; exact X'.warmed.alike) hp hb k1 k2 k3 T' rfl X'
    exact ⟨t2, st t2 a1, b1⟩
  · obtain ⟨k1, k2, k3⟩ := vx_keep h0 e1 hS hAX hf hL hF
    obtain ⟨t2, a1, b1⟩ := kx E ce q u t T'.heap (locs ++ L) e1.symm (by rw [← e2]; exact X'.warmed.alike) hp hb k1 k2 k3 (by rw [e1]; exact hce) hcv hcl T' rfl X'
    exact ⟨t2, st.trans a1, b1⟩
/-- caught by the row x of this method's table; the rows ahead don't take it -/
theorem vx_catch {own name : String} {E : String} {ce : Cell} {q : Addr} (hown : s.vm.findClass own = some m.cls) (pre : List ExceptionTableEntry) (x : ExceptionTableEntry) (suf : List ExceptionTableEntry) (hsplit : c.exceptionTable.toList = pre ++ x :: suf)
    (hpass : ∀ z ∈ pre, covers z pc = false ∨ (z.catchType ≠ 0 ∧ ∃ nm : String, (Cond.classLink own z.catchType nm).before args s = true ∧ va_Nc E nm s)) (hx : covers x pc = true) (h0 : x.catchType ≠ 0)
    (hlink : (Cond.classLink own x.catchType name).before args s = true) (hcast : (Cond.castable E name).before args s = true) (hcell : H[q]? = some ce) (hv : ce.vm = .none) (hcl : s.vm.findClass E = some ce.cls)
    (kk : W p l e R s m args below meth c H locs cells slots Q (F0 m x.handlerPc ls [.ref q])) : vx_W p l e R s m args below meth c H locs cells slots Q (F0 m pc ls rest) q := by
  intro T hT X
  have hpl : e.platform.magicAccessors = ({} : Platform).magicAccessors := by rw [X.admits.platform]
  obtain ⟨c3, c4, hc3, hc4, hasg⟩ := Cond.castable_spec hcast
  cases Option.some.inj (hc3.symm.trans hcl)
  obtain ⟨c5, hc5, hcl5⟩ := Cond.classLink_spec hown hlink e.platform hpl
  cases Option.some.inj (hc4.symm.trans hc5)
  obtain ⟨vm', X', st⟩ := X.thenCaughtThrough q (g := F0 m pc ls rest) rfl (Steps.refl _) (by rw [hT]; exact hcell) (by rw [hv]; rfl) (by obtain ⟨k9, h9, -⟩ := Vm.findClass_spec hcl; exact ⟨k9, h9⟩) pre x suf hsplit
    (fun z hz => by
      rcases hpass z hz with h | ⟨hz0, nm, hl1, hn1⟩
      · exact Or.inl h
      · obtain ⟨c6, hc6, hcl6⟩ := Cond.classLink_spec hown hl1 e.platform hpl
        obtain ⟨a8, b8, h1, h2, h3⟩ := hn1
        cases Option.some.inj (h1.symm.trans hcl)
        cases Option.some.inj (h2.symm.trans hc6)
        exact Or.inr ⟨hz0, _, hcl6, h3⟩) hx (Or.inr ⟨h0, c4, hcl5, hasg⟩)
  obtain ⟨t, a1, b1⟩ := kk (T.setVm vm') hT X'
  exact ⟨t, st.trans a1, b1⟩
end Rows
section Ends
variable {p : Program} {l : Launch} {e : Env} {R : Room} {s : State} {m : MethodId} {args : Array Value} {below : List Frame} {meth : Method} {c : Code} {H : Heap} {locs : List Loc} {cells slots : Nat} {Q : State → Prop}
variable {mc ms : Nat} {free : Addr → Prop} {A0 A1 : Nat → Prop} {H0 : Heap} {a : Array Value} {ls : Array Slot} {st0 rest : List Value}
variable {Qc : Array Value → State → Outcome → State → Prop} {XC : String → State → State → Prop}
/-- what a body that may throw owes at its end -/
def vx_MQ (below : List Frame) (Qc : Array Value → State → Outcome → State → Prop) (XC : String → State → State → Prop) (a : Array Value) (s : State) (mc ms : Nat) (free : Addr → Prop) : State → Prop := fun t =>
  ∃ o, t.status = .running ∧ Ended t below o ∧ vx_Q Qc XC mc ms free a s o t
theorem vx_ret {g : JFrame} {mc ms : Nat} (k : W p l e R s m args below meth c H locs cells slots (MQ below Qc args s mc ms free) g) : W p l e R s m args below meth c H locs cells slots (vx_MQ below Qc XC args s mc ms free) g := by
  intro T hT X
  obtain ⟨t, a1, o, b1, b2, b3, b4⟩ := k T hT X
  exact ⟨t, a1, o, b1, b2, Or.inl ⟨b3, b4⟩⟩
/-- not caught here: it goes on to the caller -/
theorem vx_widen {g : JFrame} {q : Addr} {k n : Nat} (h1 : cells ≤ k) (h2 : slots ≤ n) (kk : vx_W p l e R s m args below meth c H locs k n Q g q) : vx_W p l e R s m args below meth c H locs cells slots Q g q := fun T hT X => kk T hT (stand_widen X h1 h2)
theorem vx_out {pc : Nat} {E : String} {ce : Cell} {q : Addr} {mc ms : Nat} (hout : ∀ x ∈ c.exceptionTable.toList, covers x pc = false) (hlocks : meth.locks = false) (hcell : H[q]? = some ce) (hv : ce.vm = .none) (hcl : s.vm.findClass E = some ce.cls)
    (hx : ∀ t : State, t.heap = H → s.vm.Alike t.vm → XC E s t) (hf : ∀ z ∈ locs, free z.base) (hc : cells ≤ mc) (hs : slots ≤ ms) :
    vx_W p l e R s m args below meth c H locs cells slots (vx_MQ below Qc XC args s mc ms free) (F0 m pc ls rest) q := by
  intro T hT X
  obtain ⟨st1, hrun, hend, hW, hsm⟩ := X.leaveThrown q (g := F0 m pc ls rest) rfl rfl rfl hout hlocks
  have hcell9 : (T.setFrames (.throwing q :: below)).heap[q]? = some ce := by
    show T.heap[q]? = some ce
    rw [hT]; exact hcell
  exact ⟨_, st1, .threw q, hrun, hend, Or.inr ⟨q, rfl, E, ce, locs, hx _ hT hW.alike, hcell9, hv, hcl, hW, hsm.mono hc hs, hf⟩⟩
theorem vx_frame {U : State} {k n : Nat} (h : s.sameButNew ({ U with vm := s.vm } : State) locs k n) : s.heap.size ≤ U.heap.size ∧ ∀ q : Nat, q < s.heap.size → (∀ z ∈ locs, z.base ≠ q) → U.heap[q]? = s.heap[q]? := by
  obtain ⟨-, h2, -, -, -, h6⟩ := h
  refine ⟨h2, fun q hq hz => ?_⟩
  obtain ⟨c9, e1, e2, e3, e4⟩ := h6 q _ (Array.getElem?_eq_getElem hq)
  have hs : c9.slots = (s.heap[q]).slots := Array.ext_getElem? fun i => e4 i fun hm => hz _ hm rfl
  have h9 : c9 = s.heap[q] := by
    rw [hs] at e2
    exact e2
  have e5 : U.heap[q]? = some c9 := e1
  rw [e5, h9, Array.getElem?_eq_getElem hq]
/-- the words of a throw but the four that speak of the heap -/
def vx_no (w : Cond) : Bool := decide (w ≠ .isRef (.static Bundle.tN "UNASSIGNED_STACK" Bundle.steD)) && decide (w ≠ .isRef (.static Bundle.tN "SUPPRESSED_SENTINEL" Bundle.listD)) && decide (w ≠ .laysStatic Bundle.tN "UNASSIGNED_STACK" Bundle.steD) && decide (w ≠ .laysStatic Bundle.tN "SUPPRESSED_SENTINEL" Bundle.listD)
def vx_at0 (own : String) (ic : Nat) (X : String) (names : List String) : List Cond := (Bundle.ownAtoms0 own ic X names).filter vx_no
def vx_atS (own : String) (ic : Nat) (X : String) (names : List String) : List Cond := (Bundle.ownAtoms own ic X names).filter vx_no
/-- a word that the tables alone decide, or a good one -/
def vx_ot (w : Cond) : Bool := w.onTables || goodWord w
theorem vx_ot_at {args a' : Array Value} {s U : State} {w : Cond} (hW : s.WarmedH U.vm) (hvm : s.vm = U.vm) (hg : vx_ot w = true) (h : w.before args s = true) : w.before a' U = true := by
  simp only [vx_ot, Bool.or_eq_true] at hg
  rcases hg with hg | hg
  · exact va_tabs hg hvm h
  · exact word_at hW (good_of_word hg) h
/-- a list's words: the good ones out of the method's own list, the others by premises of their own -/
theorem vx_hat {args : Array Value} {s : State} {L B : List Cond} (h1 : ∀ w ∈ L.filter goodWord, w.before args s = true) (h2 : ∀ w ∈ L.filter (fun w => !goodWord w), w ∈ B) (h3 : ∀ w ∈ B, w.before args s = true) : ∀ w ∈ L, w.before args s = true := by
  intro w hw
  by_cases g : goodWord w = true
  · exact h1 w (List.mem_filter.mpr ⟨hw, g⟩)
  · refine h3 w (h2 w (List.mem_filter.mpr ⟨hw, ?_⟩))
    show (!goodWord w) = true
    cases hgw : goodWord w
    · rfl
    · exact absurd hgw g
theorem vx_c {args : Array Value} {s : State} {w : Cond} {B : List Cond} (h : w.before args s = true) (t : ∀ w ∈ B, w.before args s = true) : ∀ w' ∈ w :: B, w'.before args s = true := fun w' h' => (List.mem_cons.mp h').elim (fun e => by rw [e]; exact h) (t w')
theorem vx_n {args : Array Value} {s : State} : ∀ w ∈ ([] : List Cond), w.before args s = true := fun _ h => nomatch h
theorem vx_own {args : Array Value} {s : State} {L : List Cond} (h1 : ∀ w ∈ L.filter vx_no, w.before args s = true)
    (hU : (Cond.isRef (.static Bundle.tN "UNASSIGNED_STACK" Bundle.steD)).before args s = true) (hN : (Cond.isRef (.static Bundle.tN "SUPPRESSED_SENTINEL" Bundle.listD)).before args s = true)
    (lU : (Cond.laysStatic Bundle.tN "UNASSIGNED_STACK" Bundle.steD).before args s = true) (lN : (Cond.laysStatic Bundle.tN "SUPPRESSED_SENTINEL" Bundle.listD).before args s = true) : ∀ w ∈ L, w.before args s = true := by
  intro w hw
  by_cases e1 : w = .isRef (.static Bundle.tN "UNASSIGNED_STACK" Bundle.steD)
  · rw [e1]; exact hU
  · by_cases e2 : w = .isRef (.static Bundle.tN "SUPPRESSED_SENTINEL" Bundle.listD)
    · rw [e2]; exact hN
    · by_cases e3 : w = .laysStatic Bundle.tN "UNASSIGNED_STACK" Bundle.steD
      · rw [e3]; exact lU
      · by_cases e4 : w = .laysStatic Bundle.tN "SUPPRESSED_SENTINEL" Bundle.listD
        · rw [e4]; exact lN
        · exact h1 w (List.mem_filter.mpr ⟨hw, by unfold vx_no; rw [decide_eq_true e1, decide_eq_true e2, decide_eq_true e3, decide_eq_true e4]; rfl⟩)
/-- where a static field lies, its class's statics cell in H -/
def vx_L (C n d : String) (A : Nat → Prop) (U : State) (H : Heap) : Prop := ∃ (c : ClassId) (k : Class) (i : Nat) (f : Field) (a : Nat) (cell : Cell), U.vm.findClass C = some c ∧ U.fieldFound? C n d = some (c, k, i, f) ∧ f.isStatic = true ∧ k.statics = some a ∧ H[a]? = some cell ∧ cell.vm.isStatics = true ∧ cell.cls = c ∧ f.slot < cell.slots.size ∧ k.staticTypes[f.slot]? = some f.type ∧ ¬ A a
theorem vx_L.moved {C n d : String} {A : Nat → Prop} {u U : State} {H : Heap} (hvm : u.vm.Alike U.vm) (h : vx_L C n d A u H) : vx_L C n d A U H := by
  obtain ⟨c, k, i, f, a, cell, h1, h2, h3, h4, h5, h6, h7, h8, h9, h10⟩ := h
  obtain ⟨k', hi', he⟩ := State.fieldFound?_setVm hvm h2
  exact ⟨c, k', i, f, a, cell, by rw [hvm.findClass]; exact h1, hi', h3, by rw [he]; exact h4, h5, h6, h7, h8, by rw [he]; exact h9, h10⟩
theorem vx_L.kept {C n d : String} {A : Nat → Prop} {U : State} {H H1 : Heap} (h : vx_L C n d A U H) (hq : ∀ a : Nat, a < H.size → ¬ A a → H1[a]? = H[a]?) : vx_L C n d A U H1 := by
  obtain ⟨c, k, i, f, a, cell, h1, h2, h3, h4, h5, h6, h7, h8, h9, h10⟩ := h
  exact ⟨c, k, i, f, a, cell, h1, h2, h3, h4, by rw [hq a (Array.getElem?_eq_some_iff.mp h5).1 h10]; exact h5, h6, h7, h8, h9, h10⟩
theorem vx_L.narrow {C n d : String} {A B : Nat → Prop} {U : State} {H : Heap} (h : vx_L C n d A U H) (hAB : ∀ q, B q → A q) : vx_L C n d B U H := by
  obtain ⟨c, k, i, f, a, cell, h1, h2, h3, h4, h5, h6, h7, h8, h9, h10⟩ := h
  exact ⟨c, k, i, f, a, cell, h1, h2, h3, h4, h5, h6, h7, h8, h9, fun z => h10 (hAB _ z)⟩
theorem vx_L.word {C n d : String} {A : Nat → Prop} {s : State} {args : Array Value} (h : vx_L C n d A s s.heap) : (Cond.laysStatic C n d).before args s = true := by
  obtain ⟨c, k, i, f, a, cell, h1, h2, h3, h4, h5, h6, h7, h8, h9, -⟩ := h
  show (Cond.laysStatic C n d).holds args s none s [] = true
  exact Cond.laysStatic_of h1 h2 h3 h4 h5 h6 h7 h8 h9
/-- .. and what it holds: null or some reference -/
def vx_Zq (C n d : String) (A : Nat → Prop) (U : State) (H : Heap) : Prop := va_Zq C n d A U H ∧ vx_L C n d A U H
theorem vx_Zq.moved {C n d : String} {A : Nat → Prop} {u U : State} {H : Heap} (hvm : u.vm.Alike U.vm) (h : vx_Zq C n d A u H) : vx_Zq C n d A U H := ⟨va_Zq.moved hvm h.1, vx_L.moved hvm h.2⟩
theorem vx_Zq.kept {C n d : String} {A : Nat → Prop} {U : State} {H H1 : Heap} (h : vx_Zq C n d A U H) (hq : ∀ a : Nat, a < H.size → ¬ A a → H1[a]? = H[a]?) : vx_Zq C n d A U H1 := ⟨va_Zq.kept h.1 hq, vx_L.kept h.2 hq⟩
theorem vx_Zq.narrow {C n d : String} {A B : Nat → Prop} {U : State} {H : Heap} (h : vx_Zq C n d A U H) (hAB : ∀ q, B q → A q) : vx_Zq C n d B U H := ⟨va_Zq.narrow h.1 hAB, vx_L.narrow h.2 hAB⟩
theorem vx_Zqof {args : Array Value} {s : State} {C n d : String} {A : Nat → Prop} (hl : (Cond.laysStatic C n d).before args s = true) (hini : (Cond.initialized C).before args s = true) (h : (Cond.isRef (.static C n d)).before args s = true) (hA : ∀ a : Nat, a < s.heap.size → ¬ A a) : vx_Zq C n d A s s.heap := by
  refine ⟨va_Zqof hl hini h hA, ?_⟩
  obtain ⟨c, k, i, f, a, cell, h1, h2, h3, h4, h5, h6, h7, h8, h9⟩ := Cond.laysStatic_spec hl
  exact ⟨c, k, i, f, a, cell, h1, h2, h3, h4, h5, h6, h7, h8, h9, hA a (Array.getElem?_eq_some_iff.mp h5).1⟩
theorem vx_isRef {C n d : String} {v : Value} {A : Nat → Prop} {s : State} {args : Array Value} (h : va_Z C n d v A s s.heap) (hv : v.isRef = true) : (Cond.isRef (.static C n d)).before args s = true := by
  obtain ⟨cf, kf, fi, f, a, cell, h1, h2, h3, h4, h5, h6, h7, -⟩ := h
  have he : (Term.static C n d).eval args s none [] s = some v := by
    simp [Term.eval, State.fieldNamed?, h1, h2, h4, h5, h6, h7]
  simp only [Cond.before, Cond.holds, Cond.value, he]
  cases v <;> simp_all [Value.isRef]
theorem vx_isRefq {C n d : String} {A : Nat → Prop} {s : State} {args : Array Value} (h : va_Zq C n d A s s.heap) : (Cond.isRef (.static C n d)).before args s = true := by
  rcases h with h | ⟨t, h⟩
  · exact vx_isRef h rfl
  · exact vx_isRef h rfl
/-- the same frame, seen from here: as if the method were called anew in this heap -/
theorem vx_rebase {T : State} (X : Stand p l e R s m args below meth c T locs cells slots) {R' : Room} (hf : R'.frames ≤ R.frames) (hl : R'.locals ≤ R.locals) (hc : cells + R'.cells ≤ R.cells) (hs : slots + R'.slots ≤ R.slots) :
    Stand p l e R' ((T.setVm s.vm).setFrames (.invoking m args :: below)) m args below meth c T [] 0 0 := by
  have htop : (T.setVm s.vm).topJava?.isSome := X.here.top
  have hF : ((T.setVm s.vm).setFrames (.invoking m args :: below)).frames = .invoking m args :: below := State.frames_setFrames _ (State.cur_lt_of_top htop)
  obtain ⟨g₀, hg0⟩ := Option.isSome_iff_exists.mp htop
  obtain ⟨r, hr⟩ := State.topJava?_eq_some.mp hg0
  have hl9 : e.platform.stackLimits (T.setVm s.vm).me = e.platform.stackLimits s.me := X.limits
  have hb9 : (T.setVm s.vm).me.stackBytes = s.me.stackBytes := X.bytes
  refine ⟨X.admits, X.cas, X.clock, hF, ?_, X.hears, X.method, X.code, X.here, X.tail, X.warmed, ?_, ?_, ?_⟩
  · have h := X.room
    have hU : ((T.setVm s.vm).setFrames (.invoking m args :: below)).localsInUse = s.localsInUse := by
      rw [State.localsInUse_invoking hF (meth := meth) (c := c) X.method X.code, State.localsInUse_invoking X.frames X.method X.code]
    simp only [State.hasRoom, Bool.and_eq_true, decide_eq_true_eq] at h ⊢
    obtain ⟨⟨⟨⟨h1, h2, h3, h4, h5, h6⟩, h7⟩, h8⟩, h9⟩ := h
    rw [X.frames, List.length_cons] at h2 h3
    have q1 := X.heapSize
    have q2 := X.used
    simp only [hF, hU, List.length_cons, State.stackLimits_setFrames, State.stackBytes_setFrames, hl9, hb9]
    refine ⟨⟨⟨⟨by omega, by omega, by omega, by omega, by omega, h6⟩, ?_⟩, ?_⟩, X.book⟩
    · show T.heap.size + R'.cells ≤ e.platform.maxCells
      omega
    · show T.slotsUsed + R'.slots ≤ e.platform.maxSlots
      omega
  · rw [State.stackLimits_setFrames]; rfl
  · rw [State.stackBytes_setFrames]; rfl
  · refine ⟨?_, Nat.le_refl _, Nat.le_refl _, ?_, ?_, fun a c9 h9 => ⟨c9, h9, rfl, rfl, fun _ _ => rfl⟩⟩
    · obtain ⟨t, ht, -⟩ := State.frames_cons hr
      show T.setVm s.vm = { ((T.setVm s.vm).setFrames (.invoking m args :: below)).setFrames (T.setVm s.vm).frames with heap := T.heap, slotsUsed := T.slotsUsed }
      rw [State.setFrames_setFrames, State.setFrames_self ht]
      rfl
    · show T.slotsUsed = T.slotsUsed + ((T.heap.toList.drop T.heap.size).map (·.slots.size)).sum
      rw [List.drop_eq_nil_of_le (Nat.le_of_eq Array.length_toList)]
      rfl
    · show ((T.heap.toList.drop T.heap.size).map (·.slots.size)).sum ≤ 0
      rw [List.drop_eq_nil_of_le (Nat.le_of_eq Array.length_toList)]
      exact Nat.le_refl _
/-- 'throw new E()': new; dup; invokespecial; athrow -/
theorem vx_throw0 {cc : ByteArray} {pc : Nat} (hexec : p.tables.exec = Jvm.exec) (hb : c.code = cc) (hl : l.stackTraces = false) {own cls : String} {names : List String} {ik ic mc ms : Nat} {A : Nat → Prop}
    (hown : s.vm.findClass own = some m.cls) (hcls : Bundle.fit cls = true) (hnames : ∀ n ∈ names, Bundle.fit n = true)
    (hk : (Cond.classLink own ik cls).before args s = true) (hini : (Cond.initialized cls).before args s = true) (hat : ∀ w ∈ vx_at0 own ic cls names, w.before args s = true)
    (hgood : ∀ w ∈ Cond.classLink own ik cls :: Cond.initialized cls :: vx_at0 own ic cls names, vx_ot w = true)
    (hU : vx_Zq Bundle.tN "UNASSIGNED_STACK" Bundle.steD A s s.heap) (hN : vx_Zq Bundle.tN "SUPPRESSED_SENTINEL" Bundle.listD A s s.heap) (hS : va_S A s.heap H locs) (hsize : ls.size = c.maxLocals)
    (d0 : decode cc pc = .ok (.new ik, 3)) (d3 : decode cc (pc + 3) = .ok (.dup, 1)) (d4 : decode cc (pc + 4) = .ok (.invokespecial ic, 3)) (d7 : decode cc (pc + 7) = .ok (.athrow, 1))
    (hout : ∀ x ∈ c.exceptionTable.toList, covers x (pc + 7) = false)
    (hRframes : names.length + 3 < R.frames) (hRlocals : (rest.map fun v => v.category).sum + (13 * (names.length + 1) + 42) ≤ R.locals) (hRcells : cells + 1 ≤ R.cells) (hRslots : slots + 6 ≤ R.slots) (hlocks : meth.locks = false)
    (hx : ∀ t : State, s.vm.Alike t.vm → H.size ≤ t.heap.size → (∀ q : Nat, q < H.size → t.heap[q]? = H[q]?) → XC cls s t)
    (hf : ∀ z ∈ locs, free z.base) (hc : cells + 1 ≤ mc) (hs : slots + 6 ≤ ms) :
    W p l e R s m args below meth c H locs cells slots (vx_MQ below Qc XC args s mc ms free) (F0 m pc ls rest) := by
  intro T hT X
  have htr : e.platform.stackTraces = false := (show e.platform.stackTraces = l.stackTraces by rw [X.admits.platform]).trans hl
  have Y := vx_rebase X (R' := { frames := R.frames, locals := R.locals, cells := 1, slots := 6 }) (Nat.le_refl _) (Nat.le_refl _) hRcells hRslots
  obtain ⟨s', hA⟩ : ∃ z, z = (T.setVm s.vm).setFrames (.invoking m args :: below) := ⟨_, rfl⟩
  rw [← hA] at Y
  have hvm : s'.vm = s.vm := by rw [hA]; rfl
  have hhp : s'.heap = H := by rw [hA]; exact hT
  have hW0 : s.WarmedH s'.vm := by rw [hvm]; exact State.WarmedH.refl s
  have hat' : ∀ w ∈ vx_at0 own ic cls names, w.before args s' = true := fun w hw => vx_ot_at hW0 hvm.symm (hgood w (List.mem_cons_of_mem _ (List.mem_cons_of_mem _ hw))) (hat w hw)
  have hk' : (Cond.classLink own ik cls).before args s' = true := vx_ot_at hW0 hvm.symm (hgood _ List.mem_cons_self) hk
  have hini' : (Cond.initialized cls).before args s' = true := vx_ot_at hW0 hvm.symm (hgood _ (List.mem_cons_of_mem _ List.mem_cons_self)) hini
  have hU' : vx_Zq Bundle.tN "UNASSIGNED_STACK" Bundle.steD A s' s'.heap := by rw [hhp]; exact vx_Zq.moved hW0.alike (hU.kept hS.2.1)
  have hN' : vx_Zq Bundle.tN "SUPPRESSED_SENTINEL" Bundle.listD A s' s'.heap := by rw [hhp]; exact vx_Zq.moved hW0.alike (hN.kept hS.2.1)
  have h : ∀ w ∈ Bundle.ownAtoms0 own ic cls names, w.before args s' = true := vx_own hat' (vx_isRefq hU'.1) (vx_isRefq hN'.1) hU'.2.word hN'.2.word
  have hown' : s'.vm.findClass own = some m.cls := by rw [hvm]; exact hown
  have hins : (Cond.instantiable cls 6).before args s' = true := h _ (by simp [Bundle.ownAtoms0])
  obtain ⟨vm₁, cX, kX, hfX, hkX, -, -, X₁, st1⟩ := Y.newCold hexec (own := own) (C := cls) (index := ik) (n := 6) hown' hk' hins hini'
    (g := F0 m pc ls rest) rfl (by rw [hb]; exact d0) (Nat.le_refl _) (Nat.le_refl _)
  generalize hT1 : (T.setVm vm₁).pushCell { cls := cX, slots := kX.instanceTypes.map defaultValue, vm := .none } = T1 at X₁ st1
  have hcat : (Value.ref T.heap.size).category = 1 := rfl
  have hcellA : T1.heap[T.heap.size]? = some (freshCell cX kX) := by rw [← hT1]; exact State.heap_pushCell_size _ _
  have d3' : decode c.code (pc + 3) = .ok (.dup, 1) := by rw [hb]; exact d3
  obtain ⟨U, hsteps, hrun, hend, hW, hsame, ce, hce, hO⟩ := X₁.ctorThrow0 hexec htr (own := own) (cls := cls) (names := names) (ic := ic) hown' hcls hnames h (fun x hx => nomatch hx) hfX hkX hcellA (by rw [hhp, hT]; exact Nat.le_refl _)
    (g := { method := m, pc := pc + 4, locals := ls, stack := .ref T.heap.size :: .ref T.heap.size :: rest, locked := none }) rfl hsize rfl rfl (rest := rest) rfl
    (by rw [hb]; exact d4) (by rw [hb]; exact d7) hout hRframes (by simp only [List.map_cons, List.sum_cons, hcat]; omega) hlocks
  obtain ⟨f1, f2⟩ := vx_frame hsame
  rw [hhp] at f1 f2
  have hWs : s.WarmedH U.vm := State.WarmedH.trans hW0 hW
  have hcl : s.vm.findClass cls = some ce.cls := by
    have h9 := hO.cls
    rw [hvm] at h9
    exact h9
  have hall : s.sameButNew ({ U with vm := s.vm } : State) locs mc ms := by
    subst hA
    obtain ⟨e1, e2⟩ := hsame
    rw [State.setFrames_setFrames] at e1
    have h2 : (T.setVm s.vm).sameButNew ({ U with vm := s.vm } : State) [] (0 + 1) (0 + 6) := ⟨e1, e2⟩
    have h3 := X.same.trans h2
    rw [List.append_nil] at h3
    exact h3.mono hc hs
  refine ⟨U, ?_, .threw T.heap.size, hrun, hend, Or.inr ⟨T.heap.size, rfl, cls, ce, locs, hx U hWs.alike f1 (fun q hq => f2 q hq (fun z hz => nomatch hz)), hce, hO.vm, hcl, hWs, hall, hf⟩⟩
  refine st1 _ ?_
  show Steps p.tables e below (T1.setTop { method := m, pc := pc + 3, locals := ls, stack := .ref T.heap.size :: rest, locked := none }) _
  jvm_step X₁.here [X₁.here.top, hexec, d3', Value.category]
  exact hsteps
/-- 'throw new E("text")': new; dup; ldc; invokespecial; athrow -/
theorem vx_throwS {cc : ByteArray} {pc : Nat} (hexec : p.tables.exec = Jvm.exec) (hb : c.code = cc) (hl : l.stackTraces = false) {own cls text : String} {names : List String} {ik is ic mc ms sa : Nat} {A : Nat → Prop}
    (hown : s.vm.findClass own = some m.cls) (hcls : Bundle.fit cls = true) (hnames : ∀ n ∈ names, Bundle.fit n = true)
    (hk : (Cond.classLink own ik cls).before args s = true) (hini : (Cond.initialized cls).before args s = true) (hstr : vk_R own is text sa s) (hat : ∀ w ∈ vx_atS own ic cls names, w.before args s = true)
    (hgood : ∀ w ∈ Cond.classLink own ik cls :: Cond.initialized cls :: vx_atS own ic cls names, vx_ot w = true)
    (hU : vx_Zq Bundle.tN "UNASSIGNED_STACK" Bundle.steD A s s.heap) (hN : vx_Zq Bundle.tN "SUPPRESSED_SENTINEL" Bundle.listD A s s.heap) (hS : va_S A s.heap H locs) (hsize : ls.size = c.maxLocals)
    (d0 : decode cc pc = .ok (.new ik, 3)) (d3 : decode cc (pc + 3) = .ok (.dup, 1)) (d4 : decode cc (pc + 4) = .ok (.ldc is, 2)) (d6 : decode cc (pc + 6) = .ok (.invokespecial ic, 3)) (d9 : decode cc (pc + 9) = .ok (.athrow, 1))
    (hout : ∀ x ∈ c.exceptionTable.toList, covers x (pc + 9) = false)
    (hRframes : names.length + 3 < R.frames) (hRlocals : (rest.map fun v => v.category).sum + (13 * (names.length + 1) + 43) ≤ R.locals) (hRcells : cells + 1 ≤ R.cells) (hRslots : slots + 6 ≤ R.slots) (hlocks : meth.locks = false)
    (hx : ∀ t : State, s.vm.Alike t.vm → H.size ≤ t.heap.size → (∀ q : Nat, q < H.size → t.heap[q]? = H[q]?) → XC cls s t)
    (hf : ∀ z ∈ locs, free z.base) (hc : cells + 1 ≤ mc) (hs : slots + 6 ≤ ms) :
    W p l e R s m args below meth c H locs cells slots (vx_MQ below Qc XC args s mc ms free) (F0 m pc ls rest) := by
  intro T hT X
  have htr : e.platform.stackTraces = false := (show e.platform.stackTraces = l.stackTraces by rw [X.admits.platform]).trans hl
  have Y := vx_rebase X (R' := { frames := R.frames, locals := R.locals, cells := 1, slots := 6 }) (Nat.le_refl _) (Nat.le_refl _) hRcells hRslots
  obtain ⟨s', hA⟩ : ∃ z, z = (T.setVm s.vm).setFrames (.invoking m args :: below) := ⟨_, rfl⟩
  rw [← hA] at Y
  have hvm : s'.vm = s.vm := by rw [hA]; rfl
  have hhp : s'.heap = H := by rw [hA]; exact hT
  have hW0 : s.WarmedH s'.vm := by rw [hvm]; exact State.WarmedH.refl s
  have hat' : ∀ w ∈ vx_atS own ic cls names, w.before args s' = true := fun w hw => vx_ot_at hW0 hvm.symm (hgood w (List.mem_cons_of_mem _ (List.mem_cons_of_mem _ hw))) (hat w hw)
  have hk' : (Cond.classLink own ik cls).before args s' = true := vx_ot_at hW0 hvm.symm (hgood _ List.mem_cons_self) hk
  have hini' : (Cond.initialized cls).before args s' = true := vx_ot_at hW0 hvm.symm (hgood _ (List.mem_cons_of_mem _ List.mem_cons_self)) hini
  have hU' : vx_Zq Bundle.tN "UNASSIGNED_STACK" Bundle.steD A s' s'.heap := by rw [hhp]; exact vx_Zq.moved hW0.alike (hU.kept hS.2.1)
  have hN' : vx_Zq Bundle.tN "SUPPRESSED_SENTINEL" Bundle.listD A s' s'.heap := by rw [hhp]; exact vx_Zq.moved hW0.alike (hN.kept hS.2.1)
  have h : ∀ w ∈ Bundle.ownAtoms own ic cls names, w.before args s' = true := vx_own hat' (vx_isRefq hU'.1) (vx_isRefq hN'.1) hU'.2.word hN'.2.word
  have hown' : s'.vm.findClass own = some m.cls := by rw [hvm]; exact hown
  have hins : (Cond.instantiable cls 6).before args s' = true := h _ (by simp [Bundle.ownAtoms])
  obtain ⟨vm₁, cX, kX, hfX, hkX, -, -, X₁, st1⟩ := Y.newCold hexec (own := own) (C := cls) (index := ik) (n := 6) hown' hk' hins hini'
    (g := F0 m pc ls rest) rfl (by rw [hb]; exact d0) (Nat.le_refl _) (Nat.le_refl _)
  generalize hT1 : (T.setVm vm₁).pushCell { cls := cX, slots := kX.instanceTypes.map defaultValue, vm := .none } = T1 at X₁ st1
  have hcat : (Value.ref T.heap.size).category = 1 := rfl
  have hcellA : T1.heap[T.heap.size]? = some (freshCell cX kX) := by rw [← hT1]; exact State.heap_pushCell_size _ _
  have d3' : decode c.code (pc + 3) = .ok (.dup, 1) := by rw [hb]; exact d3
  have d4' : decode c.code (pc + 4) = .ok (.ldc is, 2) := by rw [hb]; exact d4
  have hstr' : vk_R own is text sa s' := vk_R.warm hW0 hstr
  obtain ⟨U, hsteps, hrun, hend, hW, hsame, ce, hce, hO⟩ := X₁.ctorThrowS hexec htr (own := own) (cls := cls) (names := names) (ic := ic) hown' hcls hnames h (fun x hx => nomatch hx) hfX hkX hcellA (by rw [hhp, hT]; exact Nat.le_refl _) (msg := .ref sa) rfl
    (g := { method := m, pc := pc + 6, locals := ls, stack := .ref sa :: .ref T.heap.size :: .ref T.heap.size :: rest, locked := none }) rfl hsize rfl rfl (rest := rest) rfl
    (by rw [hb]; exact d6) (by rw [hb]; exact d9) hout hRframes (by simp only [List.map_cons, List.sum_cons, hcat]; omega) hlocks
  obtain ⟨f1, f2⟩ := vx_frame hsame
  rw [hhp] at f1 f2
  have hWs : s.WarmedH U.vm := State.WarmedH.trans hW0 hW
  have hcl : s.vm.findClass cls = some ce.cls := by
    have h9 := hO.cls
    rw [hvm] at h9
    exact h9
  have hall : s.sameButNew ({ U with vm := s.vm } : State) locs mc ms := by
    subst hA
    obtain ⟨e1, e2⟩ := hsame
    rw [State.setFrames_setFrames] at e1
    have h2 : (T.setVm s.vm).sameButNew ({ U with vm := s.vm } : State) [] (0 + 1) (0 + 6) := ⟨e1, e2⟩
    have h3 := X.same.trans h2
    rw [List.append_nil] at h3
    exact h3.mono hc hs
  refine ⟨U, ?_, .threw T.heap.size, hrun, hend, Or.inr ⟨T.heap.size, rfl, cls, ce, locs, hx U hWs.alike f1 (fun q hq => f2 q hq (fun z hz => nomatch hz)), hce, hO.vm, hcl, hWs, hall, hf⟩⟩
  refine st1 _ ?_
  show Steps p.tables e below (T1.setTop { method := m, pc := pc + 3, locals := ls, stack := .ref T.heap.size :: rest, locked := none }) _
  jvm_step X₁.here [X₁.here.top, hexec, d3', Value.category]
  exact X₁.ldcString hexec (own := own) (text := text) (index := is) (a := sa) hown' hstr'.1 hstr'.2
    (g := { method := m, pc := pc + 4, locals := ls, stack := .ref T.heap.size :: .ref T.heap.size :: rest, locked := none }) rfl d4' _ hsteps
/-- 'throw new E("text")', the text by a wide index -/
theorem vx_throwSW {cc : ByteArray} {pc : Nat} (hexec : p.tables.exec = Jvm.exec) (hb : c.code = cc) (hl : l.stackTraces = false) {own cls text : String} {names : List String} {ik is ic mc ms sa : Nat} {A : Nat → Prop}
    (hown : s.vm.findClass own = some m.cls) (hcls : Bundle.fit cls = true) (hnames : ∀ n ∈ names, Bundle.fit n = true)
    (hk : (Cond.classLink own ik cls).before args s = true) (hini : (Cond.initialized cls).before args s = true) (hstr : vk_R own is text sa s) (hat : ∀ w ∈ vx_atS own ic cls names, w.before args s = true)
    (hgood : ∀ w ∈ Cond.classLink own ik cls :: Cond.initialized cls :: vx_atS own ic cls names, vx_ot w = true)
    (hU : vx_Zq Bundle.tN "UNASSIGNED_STACK" Bundle.steD A s s.heap) (hN : vx_Zq Bundle.tN "SUPPRESSED_SENTINEL" Bundle.listD A s s.heap) (hS : va_S A s.heap H locs) (hsize : ls.size = c.maxLocals)
    (d0 : decode cc pc = .ok (.new ik, 3)) (d3 : decode cc (pc + 3) = .ok (.dup, 1)) (d4 : decode cc (pc + 4) = .ok (.ldc_w is, 3)) (d7 : decode cc (pc + 7) = .ok (.invokespecial ic, 3)) (d10 : decode cc (pc + 10) = .ok (.athrow, 1))
    (hout : ∀ x ∈ c.exceptionTable.toList, covers x (pc + 10) = false)
    (hRframes : names.length + 3 < R.frames) (hRlocals : (rest.map fun v => v.category).sum + (13 * (names.length + 1) + 43) ≤ R.locals) (hRcells : cells + 1 ≤ R.cells) (hRslots : slots + 6 ≤ R.slots) (hlocks : meth.locks = false)
    (hx : ∀ t : State, s.vm.Alike t.vm → H.size ≤ t.heap.size → (∀ q : Nat, q < H.size → t.heap[q]? = H[q]?) → XC cls s t)
    (hf : ∀ z ∈ locs, free z.base) (hc : cells + 1 ≤ mc) (hs : slots + 6 ≤ ms) :
    W p l e R s m args below meth c H locs cells slots (vx_MQ below Qc XC args s mc ms free) (F0 m pc ls rest) := by
  intro T hT X
  have htr : e.platform.stackTraces = false := (show e.platform.stackTraces = l.stackTraces by rw [X.admits.platform]).trans hl
  have Y := vx_rebase X (R' := { frames := R.frames, locals := R.locals, cells := 1, slots := 6 }) (Nat.le_refl _) (Nat.le_refl _) hRcells hRslots
  obtain ⟨s', hA⟩ : ∃ z, z = (T.setVm s.vm).setFrames (.invoking m args :: below) := ⟨_, rfl⟩
  rw [← hA] at Y
  have hvm : s'.vm = s.vm := by rw [hA]; rfl
  have hhp : s'.heap = H := by rw [hA]; exact hT
  have hW0 : s.WarmedH s'.vm := by rw [hvm]; exact State.WarmedH.refl s
  have hat' : ∀ w ∈ vx_atS own ic cls names, w.before args s' = true := fun w hw => vx_ot_at hW0 hvm.symm (hgood w (List.mem_cons_of_mem _ (List.mem_cons_of_mem _ hw))) (hat w hw)
  have hk' : (Cond.classLink own ik cls).before args s' = true := vx_ot_at hW0 hvm.symm (hgood _ List.mem_cons_self) hk
  have hini' : (Cond.initialized cls).before args s' = true := vx_ot_at hW0 hvm.symm (hgood _ (List.mem_cons_of_mem _ List.mem_cons_self)) hini
  have hU' : vx_Zq Bundle.tN "UNASSIGNED_STACK" Bundle.steD A s' s'.heap := by rw [hhp]; exact vx_Zq.moved hW0.alike (hU.kept hS.2.1)
  have hN' : vx_Zq Bundle.tN "SUPPRESSED_SENTINEL" Bundle.listD A s' s'.heap := by rw [hhp]; exact vx_Zq.moved hW0.alike (hN.kept hS.2.1)
  have h : ∀ w ∈ Bundle.ownAtoms own ic cls names, w.before args s' = true := vx_own hat' (vx_isRefq hU'.1) (vx_isRefq hN'.1) hU'.2.word hN'.2.word
  have hown' : s'.vm.findClass own = some m.cls := by rw [hvm]; exact hown
  have hins : (Cond.instantiable cls 6).before args s' = true := h _ (by simp [Bundle.ownAtoms])
  obtain ⟨vm₁, cX, kX, hfX, hkX, -, -, X₁, st1⟩ := Y.newCold hexec (own := own) (C := cls) (index := ik) (n := 6) hown' hk' hins hini'
    (g := F0 m pc ls rest) rfl (by rw [hb]; exact d0) (Nat.le_refl _) (Nat.le_refl _)
  generalize hT1 : (T.setVm vm₁).pushCell { cls := cX, slots := kX.instanceTypes.map defaultValue, vm := .none } = T1 at X₁ st1
  have hcat : (Value.ref T.heap.size).category = 1 := rfl
  have hcellA : T1.heap[T.heap.size]? = some (freshCell cX kX) := by rw [← hT1]; exact State.heap_pushCell_size _ _
  have d3' : decode c.code (pc + 3) = .ok (.dup, 1) := by rw [hb]; exact d3
  have d4' : decode c.code (pc + 4) = .ok (.ldc_w is, 3) := by rw [hb]; exact d4
  have hstr' : vk_R own is text sa s' := vk_R.warm hW0 hstr
  obtain ⟨U, hsteps, hrun, hend, hW, hsame, ce, hce, hO⟩ := X₁.ctorThrowS hexec htr (own := own) (cls := cls) (names := names) (ic := ic) hown' hcls hnames h (fun x hx => nomatch hx) hfX hkX hcellA (by rw [hhp, hT]; exact Nat.le_refl _) (msg := .ref sa) rfl
    (g := { method := m, pc := pc + 7, locals := ls, stack := .ref sa :: .ref T.heap.size :: .ref T.heap.size :: rest, locked := none }) rfl hsize rfl rfl (rest := rest) rfl
    (by rw [hb]; exact d7) (by rw [hb]; exact d10) hout hRframes (by simp only [List.map_cons, List.sum_cons, hcat]; omega) hlocks
  obtain ⟨f1, f2⟩ := vx_frame hsame
  rw [hhp] at f1 f2
  have hWs : s.WarmedH U.vm := State.WarmedH.trans hW0 hW
  have hcl : s.vm.findClass cls = some ce.cls := by
    have h9 := hO.cls
    rw [hvm] at h9
    exact h9
  have hall : s.sameButNew ({ U with vm := s.vm } : State) locs mc ms := by
    subst hA
    obtain ⟨e1, e2⟩ := hsame
    rw [State.setFrames_setFrames] at e1
    have h2 : (T.setVm s.vm).sameButNew ({ U with vm := s.vm } : State) [] (0 + 1) (0 + 6) := ⟨e1, e2⟩
    have h3 := X.same.trans h2
    rw [List.append_nil] at h3
    exact h3.mono hc hs
  refine ⟨U, ?_, .threw T.heap.size, hrun, hend, Or.inr ⟨T.heap.size, rfl, cls, ce, locs, hx U hWs.alike f1 (fun q hq => f2 q hq (fun z hz => nomatch hz)), hce, hO.vm, hcl, hWs, hall, hf⟩⟩
  refine st1 _ ?_
  show Steps p.tables e below (T1.setTop { method := m, pc := pc + 3, locals := ls, stack := .ref T.heap.size :: rest, locked := none }) _
  jvm_step X₁.here [X₁.here.top, hexec, d3', Value.category]
  exact X₁.ldcStringW hexec (own := own) (text := text) (index := is) (a := sa) hown' hstr'.1 hstr'.2
    (g := { method := m, pc := pc + 4, locals := ls, stack := .ref T.heap.size :: .ref T.heap.size :: rest, locked := none }) rfl d4' _ hsteps
end Ends
section Bodies
variable {l : Launch}
theorem vx_ofW {y : MethodName} {ws ws' : List Cond} {rm : Room} {Pc : Array Value → State → Prop} {Qc : Array Value → State → Outcome → State → Prop} {XC : String → State → State → Prop} {mc ms : Nat} {free : Addr → Prop} {cc : ByteArray} {maxL : Nat} {ret : Option FieldType}
    (hy : plainName y.cls = true) (hw : ws = Cond.code y cc maxL ret :: ws')
    (body : ∀ p e s m args below meth c s₁, BodyLoose p l y (headSpec ws rm) cc maxL ret e s m args below meth c s₁ → c.maxLocals = maxL → (∀ x ∈ c.exceptionTable.toList, False) → Pc args s →
      W p l e (headSpec ws rm).room s m args below meth c s.heap [] 0 0 (vx_MQ below Qc XC args s mc ms free) (entryFrame m args maxL)) : vx_Met l y ws rm Pc Qc XC mc ms free := by
  refine MetFree.of_bodyS (code := cc) (maxLocals := maxL) (ret := ret) hy ?_ ?_
  · intro args s m h hn
    obtain ⟨meth, c, h1, h2, h3, h4, h5, h6, -, -⟩ := Cond.code_spec hn (atoms_spec (ws := ws) h _ (by rw [hw]; exact List.mem_cons_self))
    exact ⟨meth, c, h1, h2, h3, h4, h5, h6⟩
  · intro p e s m args below meth c s₁ B hml hP _
    have hh0 : s₁.heap = s.heap := by rw [B.state]; rfl
    have ht : ∀ x ∈ c.exceptionTable.toList, False := by
      obtain ⟨meth9, c9, h1, h2, -, -, -, -, h7, -⟩ := Cond.code_spec B.named (atoms_spec (ws := ws) B.pre _ (by rw [hw]; exact List.mem_cons_self))
      cases Option.some.inj (h1.symm.trans B.method)
      cases Option.some.inj (h2.symm.trans (Stand.of_body B).code)
      intro x hx
      rw [Array.isEmpty_iff.mp h7] at hx
      cases hx
    obtain ⟨t, a1, o, b1, b2, b3⟩ := body p e s m args below meth c s₁ B hml ht hP s₁ hh0 (Stand.of_body B)
    exact ⟨t, o, a1, b1, b2, b3⟩
/-- the table of a body with handlers -/
theorem vx_table {p : Program} {x y : MethodName} {S : Spec} {cc bytes : ByteArray} {maxL maxL' : Nat} {ret ret' : Option FieldType} {e : Env} {s s₁ : State} {m : MethodId} {args : Array Value} {below : List Frame} {meth : Method} {c : Code} {hh : List (Nat × Nat × Nat × Nat)}
    (B : BodyLoose p l y S cc maxL ret e s m args below meth c s₁) (h : (Cond.codeWith y bytes maxL' ret' hh).before args s = true) : c.exceptionTable.toList = tableOf hh := by
  obtain ⟨m9, meth9, c9, hn9, h1, h2, -, -, h6, -⟩ := Cond.codeWith_spec h
  cases Option.some.inj (hn9.symm.trans B.named)
  cases Option.some.inj (h1.symm.trans B.method)
  cases Option.some.inj (h2.symm.trans (Stand.of_body B).code)
  rw [← h6, table_eq]
end Bodies
end VXA
/-! ===== END ===== -/
/-! ===== BEGIN a static call of a method with an exception table ===== -/
section VXS
variable {p : Program} {l : Launch} {e : Env} {R : Room} {s : State} {m : MethodId} {args : Array Value} {below : List Frame} {meth : Method} {c : Code} {T : State} {H : Heap} {locs : List Loc} {cells slots : Nat}
abbrev vx_CSW (R : Room) (s : State) (args : Array Value) (own : String) (index : Nat) (y : MethodName) (bytes : ByteArray) (maxL : Nat) (ret : Option FieldType) (hh : List (Nat × Nat × Nat × Nat)) (ws : List Cond) (rm : Room) (mc ms n : Nat) : Prop :=
  (rm.cells = mc ∧ rm.slots = ms ∧ rm.frames + 1 ≤ R.frames ∧ 8 + (maxL + 11) + rm.locals ≤ R.locals ∧ (∀ w ∈ ws, ∀ (a' : Array Value) (U : State), s.WarmedH U.vm → w.before a' U = true) ∧ Cond.codeWith y bytes maxL ret hh ∈ ws) ∧
  (Cond.codeWith y bytes maxL ret hh).before args s = true ∧ (Cond.initialized y.cls).before args s = true ∧ (y.cls ≠ "java/lang/invoke/MethodHandle" ∧ y.cls ≠ "java/lang/invoke/VarHandle") ∧
  (∀ sig, parseMethodDescriptor y.desc = some sig → n = sig.parameters.length) ∧ (Cond.methodLink own index y).before args s = true ∧ (Cond.static y).before args s = true
theorem vx_cwSW {own : String} {index maxL mc ms : Nat} {y : MethodName} {bytes : ByteArray} {ret : Option FieldType} {hh : List (Nat × Nat × Nat × Nat)} {Ts ws ws' : List Cond} {rm : Room} (n : Nat) (ht : ∀ w ∈ Ts, w.before args s = true) (hT : GoodIn Ts (va_wsS own index y ws)) (hw : ws = Cond.codeWith y bytes maxL ret hh :: ws') (hrc : rm.cells = mc) (hrs : rm.slots = ms)
    (hd : y.cls ≠ "java/lang/invoke/MethodHandle" ∧ y.cls ≠ "java/lang/invoke/VarHandle" ∧ (parseMethodDescriptor y.desc).map (fun d => d.parameters.length) = some n) (hR : rm.frames + 1 ≤ R.frames ∧ 8 + (maxL + 11) + rm.locals ≤ R.locals) :
    vx_CSW R s args own index y bytes maxL ret hh ws rm mc ms n := by
  have ok : ∀ w ∈ va_wsS own index y ws, w.before args s = true := fun w h => ht w (hT w h).1
  have hG : GoodIn Ts ws := fun w h => hT w (by unfold va_wsS; exact List.mem_append_right _ h)
  have hc : Cond.codeWith y bytes maxL ret hh ∈ ws := by rw [hw]; exact List.mem_cons_self
  refine ⟨⟨hrc, hrs, hR.1, hR.2, pay_in ht hG, hc⟩, ht _ (hG _ hc).1, ok _ (by simp [va_wsS]), ⟨hd.1, hd.2.1⟩, fun sig h => ?_, ok _ (by simp [va_wsS]), ok _ (by simp [va_wsS])⟩
  have h2 := hd.2.2
  rw [h] at h2
  exact (Option.some.inj h2).symm
theorem vx_callSW (X : Stand p l e R s m args below meth c T locs cells slots) (hexec : p.tables.exec = Jvm.exec) {own : String} {index : Nat} {y : MethodName} {bytes : ByteArray} {maxL : Nat} {ret : Option FieldType} {hh : List (Nat × Nat × Nat × Nat)}
    (hown : s.vm.findClass own = some m.cls) (hlink : (Cond.methodLink own index y).before args s = true) (hstat : (Cond.static y).before args s = true) (hinit : (Cond.initialized y.cls).before args s = true)
    (hcode : (Cond.codeWith y bytes maxL ret hh).before args s = true) (hy : y.cls ≠ "java/lang/invoke/MethodHandle" ∧ y.cls ≠ "java/lang/invoke/VarHandle")
    {W9 : Nat} {Pre : Pt → Array Value → Prop} {Post : Pt → Array Value → Option Value → Pt → Prop} (hK : Back l R p e below s args y 3 W9 Pre Post)
    {g : JFrame} (hg : g.method = m) (hsize : g.locals.size = c.maxLocals) {argsL rest : List Value} (hlen : ∀ sig, parseMethodDescriptor y.desc = some sig → argsL.length = sig.parameters.length)
    (hstack : g.stack = argsL.reverse ++ rest) (hW : 2 * g.monitorRoom + (rest.map fun v => v.category).sum ≤ W9) (hdg : decode c.code g.pc = .ok (.invokestatic index, 3))
    (hpre : ∀ vm₁, s.WarmedH vm₁ → Pre ⟨T.setVm vm₁, locs, cells, slots⟩ argsL.toArray) :
    ∃ (v : Option Value) (vm₁ : Vm) (B : Pt), s.WarmedH vm₁ ∧ Stand p l e R s m args below meth c B.U B.locs B.cells B.slots ∧ Post ⟨T.setVm vm₁, locs, cells, slots⟩ argsL.toArray v B ∧
      ∀ target, Steps p.tables e below (B.U.setTop { g with pc := g.pc + 3, stack := v.toList ++ rest }) target → Steps p.tables e below (T.setTop g) target := by
  obtain ⟨mk, methM, cM, hnamed, hmethM, -, -, -, -, -, -, hsigM⟩ := Cond.codeWith_spec hcode
  have hstatic : methM.isStatic = true := Cond.static_spec hnamed hmethM hstat
  obtain ⟨kP, hkP, -⟩ := className_of_methodNamed hnamed
  have hinitP : kP.init = .initialized := Cond.initialized_spec (findClass_of_methodNamed hnamed) hkP hinit
  obtain ⟨vm₁, X₁, hstep₁⟩ := X.invokestatic hexec hown hlink hnamed hmethM hstatic hkP hinitP hy (g := g) hg (argsL := argsL) (rest := rest) (hlen _ hsigM) hstack hdg
  obtain ⟨v, B, X', hpost, hsteps⟩ := hK m meth c ⟨T.setVm vm₁, locs, cells, slots⟩ { g with stack := rest } (.invokestatic index) mk argsL.toArray X₁ hg hsize hdg hW (X₁.named hnamed) (hpre vm₁ X₁.warmed)
  exact ⟨v, vm₁, B, X₁.warmed, X', hpost, fun target h => hstep₁ _ fun acts => by rw [doInvoke_state]; exact hsteps.trans h⟩
theorem vx_runSW {y : MethodName} {bytes cc : ByteArray} {maxL nL mc ms n index : Nat} {ret : Option FieldType} {hh : List (Nat × Nat × Nat × Nat)} {ws : List Cond} {rm : Room} {Pc : Array Value → State → Prop} {Qc : Array Value → State → Outcome → State → Prop} {free : Addr → Prop} {Ts : List Cond} {own : String} {As rest : List Value} {g : JFrame}
    (S : CallFix p m c cc nL s args Ts own) (hM : Met l y ws rm Pc Qc mc ms free) (cw : vx_CSW R s args own index y bytes maxL ret hh ws rm mc ms n) (hp : PreS s H Pc As)
    (hg : g.method = m) (hn : As.length = n) (hsize : g.locals.size = nL) (hstack : g.stack = As.reverse ++ rest) (hW : 2 * g.monitorRoom + (rest.map fun v => v.category).sum ≤ 8) (hdg : decode cc g.pc = .ok (.invokestatic index, 3)) (hf : cells + mc ≤ R.cells ∧ slots + ms ≤ R.slots) :
    va_Run p l e R s m args below meth c H locs cells slots mc ms g rest (Qc As.toArray) (free) := by
  obtain ⟨⟨hrc, hrs, hfr, hlo, hws, hcw⟩, hcode, hini, hy, hlen, hl, hstt⟩ := cw
  have hK : Back l R p e below s args y 3 8 (PreOf R mc ms Pc) (PostOf Qc mc ms free) := va_backW (hh := hh) (bytes := bytes) (maxL := maxL) (ret := ret) hM hp.1 hrc hrs hfr hlo hws hcw (fun a' U hW => word_at hW (Or.inl (by first | rfl | simp [Cond.onTables, Cond.keeps, Cond.steady])) hini)
  obtain ⟨hx, hb, hml, ho, -⟩ := S
  intro T hT X
  obtain ⟨v, vm₁, ⟨U', l2, c2, s2⟩, hW₁, X', ⟨g', mk, t, L, e1, e2, hq, h1, hL, h2, h3⟩, st⟩ := vx_callSW X hx (hh := hh) (bytes := bytes) (maxL := maxL) (ret := ret) ho hl hstt hini hcode hy hK hg (hsize.trans hml.symm) (argsL := As) (rest := rest) (fun sig h => hn.trans (hlen sig h)) hstack hW (by rw [hb]; exact hdg)
    (fun vm₁ hW₁ => ⟨hf.1, hf.2, hp.2 (T.setVm vm₁) hT hW₁⟩)
  dsimp only [Pt.U, Pt.locs, Pt.cells, Pt.slots] at X' e1 e2 h1 h2 h3 st
  subst h1; subst h2; subst h3
  exact ⟨v, (T.setVm vm₁).calling g' mk As.toArray, t, U', L, hT, X', hL, e1, e2, hq, st⟩
/-- not caught here, past rows that name other classes: it goes on to the caller -/
theorem vx_outP {p : Program} {l : Launch} {e : Env} {R : Room} {s : State} {m : MethodId} {args : Array Value} {below : List Frame} {meth : Method} {c : Code} {H : Heap} {locs : List Loc} {cells slots : Nat} {free : Addr → Prop} {ls : Array Slot} {rest : List Value} {Qc : Array Value → State → Outcome → State → Prop} {XC : String → State → State → Prop}
    {pc : Nat} {own E : String} {ce : Cell} {q : Addr} {mc ms : Nat} (hown : s.vm.findClass own = some m.cls) (hlocks : meth.locks = false)
    (hpass : ∀ z ∈ c.exceptionTable.toList, covers z pc = false ∨ (z.catchType ≠ 0 ∧ ∃ nm : String, (Cond.classLink own z.catchType nm).before args s = true ∧ va_Nc E nm s)) (hcell : H[q]? = some ce) (hv : ce.vm = .none) (hcl : s.vm.findClass E = some ce.cls)
    (hx : ∀ t : State, t.heap = H → s.vm.Alike t.vm → XC E s t) (hf : ∀ z ∈ locs, free z.base) (hc : cells ≤ mc) (hs : slots ≤ ms) :
    vx_W p l e R s m args below meth c H locs cells slots (vx_MQ below Qc XC args s mc ms free) (F0 m pc ls rest) q := by
  intro T hT X
  have hpl : e.platform.magicAccessors = ({} : Platform).magicAccessors := by rw [X.admits.platform]
  obtain ⟨vm', hW', X', st⟩ := X.outThrough hlocks q (g := F0 m pc ls rest) rfl rfl rfl (cell := ce) (by rw [hT]; exact hcell) (by rw [hv]; rfl)
    (by obtain ⟨k9, h9, -⟩ := Vm.findClass_spec hcl; exact ⟨k9, h9⟩) (fun z hz => by
      rcases hpass z hz with h | ⟨hz0, nm, hl1, hn1⟩
      · exact Or.inl h
      · obtain ⟨c6, hc6, hcl6⟩ := Cond.classLink_spec hown hl1 e.platform hpl
        obtain ⟨a8, b8, h1, h2, h3⟩ := hn1
        cases Option.some.inj (h1.symm.trans hcl)
        cases Option.some.inj (h2.symm.trans hc6)
        exact Or.inr ⟨hz0, _, hcl6, h3⟩)
  obtain ⟨g₀, hfr⟩ := X'.frames_eq
  have hcell9 : ((T.setVm vm').setFrames (.throwing q :: below)).heap[q]? = some ce := by
    show T.heap[q]? = some ce
    rw [hT]; exact hcell
  have hend : Ended ((T.setVm vm').setFrames (.throwing q :: below)) below (.threw q) := State.frames_setFrames _ (State.cur_lt_of_frames hfr)
  refine ⟨(T.setVm vm').setFrames (.throwing q :: below), ?_, .threw q, X'.here.running, hend, Or.inr ⟨q, rfl, E, ce, locs, hx _ hT (X'.ends _).1.alike, hcell9, hv, hcl, (X'.ends _).1, (X'.ends _).2.mono hc hs, hf⟩⟩
  rw [X.pushThrowing_eq]
  exact st
/-- a thing of a world lies in the heap -/
theorem vx_lt {D : va_G} {cl : List vw_C} {ws : va_W} {H1 : Heap} (h : va_P D cl ws H1) {k : Nat} {q : Nat × va_E} (hk : ws[k]? = some q) : q.1 < H1.size := (h k q hk).lt
end VXS
/-! ===== END ===== -/
/-! ===== BEGIN methods with a table of their own: called by a name, returning or throwing ===== -/
section VXH
/-! vx_backW, vx_callVX, vx_callSX, vx_callVW, vx_runVW, vx_runVX, vx_runSX, vx_ofWH follow the same proofs as their sisters above (Free/Laws.lean, Shelf42/LK1.lean); vx_outP calls Shelf42/NT130.lean (outThrough). -/
section
variable {l : Launch} {R : Room} {p : Program} {e : Env} {below : List Frame} {s : State} {sargs : Array Value} {y : MethodName} {len W9 : Nat}
theorem vx_backW {ws : List Cond} {rm : Room} {Pc : Array Value → State → Prop} {Qc : Array Value → State → Outcome → State → Prop} {XC : String → State → State → Prop} {mc ms : Nat} {free : Addr → Prop} {bytes : ByteArray} {maxL : Nat} {ret : Option FieldType} {hh : List (Nat × Nat × Nat × Nat)}
    (hM : vx_Met l y ws rm Pc Qc XC mc ms free) (hblind : FrameBlind Pc) (hrc : rm.cells = mc) (hrs : rm.slots = ms)
    (hframes : rm.frames + 1 ≤ R.frames) (hlocals : W9 + (maxL + 11) + rm.locals ≤ R.locals)
    (hws : ∀ w ∈ ws, ∀ a' U, s.WarmedH U.vm → w.before a' U = true) (hcode : Cond.codeWith y bytes maxL ret hh ∈ ws) (hinit : ∀ a' U, s.WarmedH U.vm → (Cond.initialized y.cls).before a' U = true) :
    vx_Back l R p e below s sargs y len W9 (PreOf R mc ms Pc) (PostOf Qc mc ms free) (vx_Post XC mc ms free) := by
  intro m meth c A g ig mk a X hg hsize hdg hW hn hp
  have h1 : (headSpec ws rm).pre.before a A.U = true := atoms_intro fun w hw => hws w hw _ _ X.warmed
  have h2 : (Cond.codeWith y bytes maxL ret hh).before a A.U = true := hws _ hcode _ _ X.warmed
  have h3 : (Cond.initialized y.cls).before a A.U = true := hinit _ _ X.warmed
  have h4 : A.cells + (headSpec ws rm).room.cells ≤ R.cells := by rw [show (headSpec ws rm).room.cells = mc from hrc]; exact hp.1
  have h5 : A.slots + (headSpec ws rm).room.slots ≤ R.slots := by rw [show (headSpec ws rm).room.slots = ms from hrs]; exact hp.2.1
  have hPc : Pc a (A.U.calling g mk a) := hblind _ _ _ _ hp.2.2
  obtain ⟨U, Ls, c0, s0⟩ := A
  dsimp only [Pt.U, Pt.locs, Pt.cells, Pt.slots] at h1 h2 h3 h4 h5 X hn hPc ⊢
  obtain ⟨m9, methY, cY, hn9, hmY, hcY, -, hlY, -⟩ := Cond.codeWith_spec h2
  cases Option.some.inj (hn9.symm.trans hn)
  obtain ⟨kY, hkY, -⟩ := className_of_methodNamed hn
  have hinitY : kY.init = .initialized := Cond.initialized_spec (findClass_of_methodNamed hn) hkY h3
  have h : At U g.method c below := by rw [hg]; exact X.here
  have hlocals9 : W9 + (maxL + 11) + (headSpec ws rm).room.locals ≤ R.locals := hlocals
  have happ : (headSpec ws rm).appliesLoose y e.platform (U.calling g mk a) = true :=
    Spec.appliesLoose_calling (g := g) h hdg hn hkY hinitY
      (X.room_calling (g := g) (R' := (headSpec ws rm).room) hsize hmY hcY hframes (by rw [hlY]; omega) h4 h5) h1
  obtain ⟨mid, hmid⟩ := h.above
  have hfr : (U.setTop g).frames = (.java g :: mid) ++ below := by rw [State.frames_setTop' g h.top, hmid]; rfl
  obtain ⟨o, s₂, hsteps, -, hend, hq⟩ := Steps.callFree hM p X.admits X.cas X.clock (acts := []) hfr happ hPc trivial
  have hq' : vx_Q Qc XC mc ms free a (U.calling g mk a) o s₂ := hq
  rw [State.frames_setTop' g h.top] at hend
  obtain ⟨g₀, hg0⟩ := Option.isSome_iff_exists.mp h.top
  obtain ⟨r, hr⟩ := State.topJava?_eq_some.mp hg0
  have hr' : (({ U with heap := s₂.heap, slotsUsed := s₂.slotsUsed } : State).setVm s₂.vm).frames = .java g₀ :: r := hr
  rcases hq' with ⟨hqc, L, hfe, hL⟩ | ⟨q, rfl, E, ce, L, hx, hce, hcv, hcl, hW₂, hsm, hL⟩
  · obtain ⟨⟨v, rfl⟩, hW₂, e2, q2, q3, q4, q5, q6⟩ := id hfe
    have e3 : s₂ = ({ (U.calling g mk a).setFrames s₂.frames with heap := s₂.heap, slotsUsed := s₂.slotsUsed } : State).setVm s₂.vm := by
      have : s₂ = ({ s₂ with vm := (U.calling g mk a).vm } : State).setVm s₂.vm := rfl
      rw [e2] at this
      exact this
    obtain ⟨c₂, i₂, len₂, hc₂, hd₂, hf₂⟩ := hend
    have hW' : U.WarmedH s₂.vm := hW₂
    have hcc : c₂ = c := by
      have h1 : s₂.code? g.method = U.code? g.method := by
        rw [State.code?_eq, State.code?_eq, hW'.alike.method?]
      exact Option.some.inj (hc₂.symm.trans (h1.trans h.code))
    subst hcc
    have hlen : len₂ = len := by rw [hdg] at hd₂; cases hd₂; rfl
    subst hlen
    have hs₂ : s₂ = (({ U with heap := s₂.heap, slotsUsed := s₂.slotsUsed } : State).setVm s₂.vm).setTop { g with pc := g.pc + len₂, stack := v.toList ++ g.stack } := by
      refine e3.trans ?_
      rw [hf₂, State.calling_eq h.top, State.setFrames_setFrames, State.setTop_of_frames _ hr', hr]
      rfl
    have hsame : U.sameButNew ({ U with heap := s₂.heap, slotsUsed := s₂.slotsUsed } : State) L mc ms := by
      refine ⟨?_, q2, q3, q4, q5, q6⟩
      obtain ⟨t, ht, -⟩ := State.frames_cons hr
      show ({ U with heap := s₂.heap, slotsUsed := s₂.slotsUsed } : State) = { U.setFrames U.frames with heap := s₂.heap, slotsUsed := s₂.slotsUsed }
      rw [State.setFrames_self ht]
    subst hg
    refine Or.inl ⟨v, ⟨(({ U with heap := s₂.heap, slotsUsed := s₂.slotsUsed } : State).setVm s₂.vm), Ls ++ L, c0 + mc, s0 + ms⟩,
      ⟨X.admits, X.cas, X.clock, X.frames, X.room, X.hears, X.method, X.code, (X.here.setHeapUsed s₂.heap s₂.slotsUsed).setVm hW'.alike, X.tail, State.WarmedH.trans X.warmed hW', X.limits, X.bytes, X.same.trans (hsame.setVm s.vm)⟩,
      ⟨g, mk, s₂, L, rfl, rfl, hqc, rfl, hL, rfl, rfl⟩, ?_⟩
    show Steps p.tables e below _ ((({ U with heap := s₂.heap, slotsUsed := s₂.slotsUsed } : State).setVm s₂.vm).setTop { g with pc := g.pc + len₂, stack := v.toList ++ g.stack })
    rw [← hs₂]
    exact hsteps
  · obtain ⟨e2, q2, q3, q4, q5, q6⟩ := id hsm
    have e3 : s₂ = ({ (U.calling g mk a).setFrames s₂.frames with heap := s₂.heap, slotsUsed := s₂.slotsUsed } : State).setVm s₂.vm := by
      have : s₂ = ({ s₂ with vm := (U.calling g mk a).vm } : State).setVm s₂.vm := rfl
      rw [e2] at this
      exact this
    have hf₂ : s₂.frames = .throwing q :: .java g :: U.frames.tail := hend
    have hW' : U.WarmedH s₂.vm := hW₂
    have hs₂ : s₂ = ((({ U with heap := s₂.heap, slotsUsed := s₂.slotsUsed } : State).setVm s₂.vm).setTop g).pushFrame (.throwing q) := by
      refine e3.trans ?_
      rw [hf₂, State.calling_eq h.top, State.setFrames_setFrames, State.pushFrame, State.frames_setTop _ hr', State.setTop_of_frames _ hr', State.setFrames_setFrames, hr]
      rfl
    have hsame : U.sameButNew ({ U with heap := s₂.heap, slotsUsed := s₂.slotsUsed } : State) L mc ms := by
      refine ⟨?_, q2, q3, q4, q5, q6⟩
      obtain ⟨t, ht, -⟩ := State.frames_cons hr
      show ({ U with heap := s₂.heap, slotsUsed := s₂.slotsUsed } : State) = { U.setFrames U.frames with heap := s₂.heap, slotsUsed := s₂.slotsUsed }
      rw [State.setFrames_self ht]
    subst hg
    refine Or.inr ⟨q, ⟨(({ U with heap := s₂.heap, slotsUsed := s₂.slotsUsed } : State).setVm s₂.vm), Ls ++ L, c0 + mc, s0 + ms⟩,
      ⟨X.admits, X.cas, X.clock, X.frames, X.room, X.hears, X.method, X.code, (X.here.setHeapUsed s₂.heap s₂.slotsUsed).setVm hW'.alike, X.tail, State.WarmedH.trans X.warmed hW', X.limits, X.bytes, X.same.trans (hsame.setVm s.vm)⟩,
      ⟨g, mk, s₂, L, E, ce, rfl, rfl, hx, hce, hcv, hcl, rfl, hL, rfl, rfl⟩, ?_⟩
    show Steps p.tables e below _ (((({ U with heap := s₂.heap, slotsUsed := s₂.slotsUsed } : State).setVm s₂.vm).setTop g).pushFrame (.throwing q))
    rw [← hs₂]
    exact hsteps
end
variable {p : Program} {l : Launch} {e : Env} {R : Room} {s : State} {m : MethodId} {args : Array Value} {below : List Frame} {meth : Method} {c : Code} {T : State} {H : Heap} {locs : List Loc} {cells slots : Nat}
theorem vx_callVX (X : Stand p l e R s m args below meth c T locs cells slots) (hexec : p.tables.exec = Jvm.exec) {own C : String} {index : Nat} {y : MethodName} {bytes : ByteArray} {maxL : Nat} {ret : Option FieldType} {hh : List (Nat × Nat × Nat × Nat)}
    (hown : s.vm.findClass own = some m.cls) (hlink : (Cond.methodLink own index y).before args s = true) (hinst : (Cond.instanceMethod y).before args s = true) (hsel : (Cond.selects C y y).before args s = true)
    (hcode : (Cond.codeWith y bytes maxL ret hh).before args s = true) (hy : y.cls ≠ "java/lang/invoke/MethodHandle" ∧ y.cls ≠ "java/lang/invoke/VarHandle")
    {W9 : Nat} {Pre : Pt → Array Value → Prop} {Post : Pt → Array Value → Option Value → Pt → Prop} {PostX : Pt → Array Value → Addr → Pt → Prop} (hK : vx_Back l R p e below s args y 3 W9 Pre Post PostX)
    {b : Addr} {cellB : Cell} (hcell : T.heap[b]? = some cellB) (hobj : cellB.vm.isStatics = false) (hcls : s.vm.findClass C = some cellB.cls)
    {g : JFrame} (hg : g.method = m) (hsize : g.locals.size = c.maxLocals) {argsL rest : List Value} (hlen : ∀ sig, parseMethodDescriptor y.desc = some sig → argsL.length = sig.parameters.length)
    (hstack : g.stack = argsL.reverse ++ .ref b :: rest) (hW : 2 * g.monitorRoom + (rest.map fun v => v.category).sum ≤ W9) (hdg : decode c.code g.pc = .ok (.invokevirtual index, 3))
    (hpre : ∀ vm₁, s.WarmedH vm₁ → Pre ⟨T.setVm vm₁, locs, cells, slots⟩ (Value.ref b :: argsL).toArray) :
    (∃ (v : Option Value) (vm₁ : Vm) (B : Pt), s.WarmedH vm₁ ∧ Stand p l e R s m args below meth c B.U B.locs B.cells B.slots ∧ Post ⟨T.setVm vm₁, locs, cells, slots⟩ (Value.ref b :: argsL).toArray v B ∧
      ∀ target, Steps p.tables e below (B.U.setTop { g with pc := g.pc + 3, stack := v.toList ++ rest }) target → Steps p.tables e below (T.setTop g) target) ∨
    (∃ (q : Addr) (vm₁ : Vm) (B : Pt), s.WarmedH vm₁ ∧ Stand p l e R s m args below meth c B.U B.locs B.cells B.slots ∧ PostX ⟨T.setVm vm₁, locs, cells, slots⟩ (Value.ref b :: argsL).toArray q B ∧
      Steps p.tables e below (T.setTop g) ((B.U.setTop { g with stack := rest }).pushFrame (.throwing q))) := by
  obtain ⟨mk, methM, hnamed, hmethM, hstM, habM⟩ := Cond.instanceMethod_spec hinst
  obtain ⟨m8, methM', cM, hn8, hmethM', -, -, -, -, -, -, hsigM⟩ := Cond.codeWith_spec hcode
  cases Option.some.inj (hn8.symm.trans hnamed)
  cases hmethM.symm.trans hmethM'
  obtain ⟨c2, r2, m2, q1, q2, q3, q4, kP, hkP, hkPi⟩ := Cond.selects_spec hsel
  cases hcls.symm.trans q1
  cases (State.methodFound?_of_named hnamed hy).symm.trans q2
  cases hnamed.symm.trans q3
  have hselP : selectMethod e.platform s.vm cellB.cls mk = .method mk := by rw [Launch.admits_selectMethod X.admits]; exact q4
  obtain ⟨vm₁, X₁, hstep₁⟩ := X.invokevirtual hexec hown hlink hnamed hmethM hstM hkP hkPi hy (a := b) (cell := cellB) hcell
    (fun z h => by rw [h] at hobj; cases hobj) hselP hmethM habM hkP hkPi (g := g) hg (argsL := argsL) (rest := rest) (hlen _ hsigM) hstack hdg
  rcases hK m meth c ⟨T.setVm vm₁, locs, cells, slots⟩ { g with stack := rest } (.invokevirtual index) mk (Value.ref b :: argsL).toArray X₁ hg hsize hdg hW (X₁.named hnamed) (hpre vm₁ X₁.warmed) with ⟨v, B, X', hpost, hsteps⟩ | ⟨q, B, X', hpost, hsteps⟩
  · exact Or.inl ⟨v, vm₁, B, X₁.warmed, X', hpost, fun target h => hstep₁ _ fun acts => by rw [doInvoke_state]; exact hsteps.trans h⟩
  · exact Or.inr ⟨q, vm₁, B, X₁.warmed, X', hpost, hstep₁ _ fun acts => by rw [doInvoke_state]; exact hsteps⟩
theorem vx_callSX (X : Stand p l e R s m args below meth c T locs cells slots) (hexec : p.tables.exec = Jvm.exec) {own : String} {index : Nat} {y : MethodName} {bytes : ByteArray} {maxL : Nat} {ret : Option FieldType} {hh : List (Nat × Nat × Nat × Nat)}
    (hown : s.vm.findClass own = some m.cls) (hlink : (Cond.methodLink own index y).before args s = true) (hstat : (Cond.static y).before args s = true) (hinit : (Cond.initialized y.cls).before args s = true)
    (hcode : (Cond.codeWith y bytes maxL ret hh).before args s = true) (hy : y.cls ≠ "java/lang/invoke/MethodHandle" ∧ y.cls ≠ "java/lang/invoke/VarHandle")
    {W9 : Nat} {Pre : Pt → Array Value → Prop} {Post : Pt → Array Value → Option Value → Pt → Prop} {PostX : Pt → Array Value → Addr → Pt → Prop} (hK : vx_Back l R p e below s args y 3 W9 Pre Post PostX)
    {g : JFrame} (hg : g.method = m) (hsize : g.locals.size = c.maxLocals) {argsL rest : List Value} (hlen : ∀ sig, parseMethodDescriptor y.desc = some sig → argsL.length = sig.parameters.length)
    (hstack : g.stack = argsL.reverse ++ rest) (hW : 2 * g.monitorRoom + (rest.map fun v => v.category).sum ≤ W9) (hdg : decode c.code g.pc = .ok (.invokestatic index, 3))
    (hpre : ∀ vm₁, s.WarmedH vm₁ → Pre ⟨T.setVm vm₁, locs, cells, slots⟩ argsL.toArray) :
    (∃ (v : Option Value) (vm₁ : Vm) (B : Pt), s.WarmedH vm₁ ∧ Stand p l e R s m args below meth c B.U B.locs B.cells B.slots ∧ Post ⟨T.setVm vm₁, locs, cells, slots⟩ argsL.toArray v B ∧
      ∀ target, Steps p.tables e below (B.U.setTop { g with pc := g.pc + 3, stack := v.toList ++ rest }) target → Steps p.tables e below (T.setTop g) target) ∨
    (∃ (q : Addr) (vm₁ : Vm) (B : Pt), s.WarmedH vm₁ ∧ Stand p l e R s m args below meth c B.U B.locs B.cells B.slots ∧ PostX ⟨T.setVm vm₁, locs, cells, slots⟩ argsL.toArray q B ∧
      Steps p.tables e below (T.setTop g) ((B.U.setTop { g with stack := rest }).pushFrame (.throwing q))) := by
  obtain ⟨mk, methM, cM, hnamed, hmethM, -, -, -, -, -, -, hsigM⟩ := Cond.codeWith_spec hcode
  have hstatic : methM.isStatic = true := Cond.static_spec hnamed hmethM hstat
  obtain ⟨kP, hkP, -⟩ := className_of_methodNamed hnamed
  have hinitP : kP.init = .initialized := Cond.initialized_spec (findClass_of_methodNamed hnamed) hkP hinit
  obtain ⟨vm₁, X₁, hstep₁⟩ := X.invokestatic hexec hown hlink hnamed hmethM hstatic hkP hinitP hy (g := g) hg (argsL := argsL) (rest := rest) (hlen _ hsigM) hstack hdg
  rcases hK m meth c ⟨T.setVm vm₁, locs, cells, slots⟩ { g with stack := rest } (.invokestatic index) mk argsL.toArray X₁ hg hsize hdg hW (X₁.named hnamed) (hpre vm₁ X₁.warmed) with ⟨v, B, X', hpost, hsteps⟩ | ⟨q, B, X', hpost, hsteps⟩
  · exact Or.inl ⟨v, vm₁, B, X₁.warmed, X', hpost, fun target h => hstep₁ _ fun acts => by rw [doInvoke_state]; exact hsteps.trans h⟩
  · exact Or.inr ⟨q, vm₁, B, X₁.warmed, X', hpost, hstep₁ _ fun acts => by rw [doInvoke_state]; exact hsteps⟩
theorem vx_callVW (X : Stand p l e R s m args below meth c T locs cells slots) (hexec : p.tables.exec = Jvm.exec) {own C : String} {index : Nat} {y : MethodName} {bytes : ByteArray} {maxL : Nat} {ret : Option FieldType} {hh : List (Nat × Nat × Nat × Nat)}
    (hown : s.vm.findClass own = some m.cls) (hlink : (Cond.methodLink own index y).before args s = true) (hinst : (Cond.instanceMethod y).before args s = true) (hsel : (Cond.selects C y y).before args s = true)
    (hcode : (Cond.codeWith y bytes maxL ret hh).before args s = true) (hy : y.cls ≠ "java/lang/invoke/MethodHandle" ∧ y.cls ≠ "java/lang/invoke/VarHandle")
    {W9 : Nat} {Pre : Pt → Array Value → Prop} {Post : Pt → Array Value → Option Value → Pt → Prop} (hK : Back l R p e below s args y 3 W9 Pre Post)
    {b : Addr} {cellB : Cell} (hcell : T.heap[b]? = some cellB) (hobj : cellB.vm.isStatics = false) (hcls : s.vm.findClass C = some cellB.cls)
    {g : JFrame} (hg : g.method = m) (hsize : g.locals.size = c.maxLocals) {argsL rest : List Value} (hlen : ∀ sig, parseMethodDescriptor y.desc = some sig → argsL.length = sig.parameters.length)
    (hstack : g.stack = argsL.reverse ++ .ref b :: rest) (hW : 2 * g.monitorRoom + (rest.map fun v => v.category).sum ≤ W9) (hdg : decode c.code g.pc = .ok (.invokevirtual index, 3))
    (hpre : ∀ vm₁, s.WarmedH vm₁ → Pre ⟨T.setVm vm₁, locs, cells, slots⟩ (Value.ref b :: argsL).toArray) :
    ∃ (v : Option Value) (vm₁ : Vm) (B : Pt), s.WarmedH vm₁ ∧ Stand p l e R s m args below meth c B.U B.locs B.cells B.slots ∧ Post ⟨T.setVm vm₁, locs, cells, slots⟩ (Value.ref b :: argsL).toArray v B ∧
      ∀ target, Steps p.tables e below (B.U.setTop { g with pc := g.pc + 3, stack := v.toList ++ rest }) target → Steps p.tables e below (T.setTop g) target := by
  obtain ⟨mk, methM, hnamed, hmethM, hstM, habM⟩ := Cond.instanceMethod_spec hinst
  obtain ⟨m8, methM', cM, hn8, hmethM', -, -, -, -, -, -, hsigM⟩ := Cond.codeWith_spec hcode
  cases Option.some.inj (hn8.symm.trans hnamed)
  cases hmethM.symm.trans hmethM'
  obtain ⟨c2, r2, m2, q1, q2, q3, q4, kP, hkP, hkPi⟩ := Cond.selects_spec hsel
  cases hcls.symm.trans q1
  cases (State.methodFound?_of_named hnamed hy).symm.trans q2
  cases hnamed.symm.trans q3
  have hselP : selectMethod e.platform s.vm cellB.cls mk = .method mk := by rw [Launch.admits_selectMethod X.admits]; exact q4
  obtain ⟨vm₁, X₁, hstep₁⟩ := X.invokevirtual hexec hown hlink hnamed hmethM hstM hkP hkPi hy (a := b) (cell := cellB) hcell
    (fun z h => by rw [h] at hobj; cases hobj) hselP hmethM habM hkP hkPi (g := g) hg (argsL := argsL) (rest := rest) (hlen _ hsigM) hstack hdg
  obtain ⟨v, B, X', hpost, hsteps⟩ := hK m meth c ⟨T.setVm vm₁, locs, cells, slots⟩ { g with stack := rest } (.invokevirtual index) mk (Value.ref b :: argsL).toArray X₁ hg hsize hdg hW (X₁.named hnamed) (hpre vm₁ X₁.warmed)
  exact ⟨v, vm₁, B, X₁.warmed, X', hpost, fun target h => hstep₁ _ fun acts => by rw [doInvoke_state]; exact hsteps.trans h⟩
abbrev vx_CVW (R : Room) (s : State) (args : Array Value) (own C : String) (index : Nat) (y : MethodName) (bytes : ByteArray) (maxL : Nat) (ret : Option FieldType) (hh : List (Nat × Nat × Nat × Nat)) (ws : List Cond) (rm : Room) (mc ms n : Nat) : Prop :=
  (rm.cells = mc ∧ rm.slots = ms ∧ rm.frames + 1 ≤ R.frames ∧ 8 + (maxL + 11) + rm.locals ≤ R.locals ∧ (∀ w ∈ ws, ∀ (a' : Array Value) (U : State), s.WarmedH U.vm → w.before a' U = true) ∧ Cond.codeWith y bytes maxL ret hh ∈ ws) ∧
  (Cond.codeWith y bytes maxL ret hh).before args s = true ∧ (Cond.initialized y.cls).before args s = true ∧ (y.cls ≠ "java/lang/invoke/MethodHandle" ∧ y.cls ≠ "java/lang/invoke/VarHandle") ∧
  (∀ sig, parseMethodDescriptor y.desc = some sig → n = sig.parameters.length) ∧ (Cond.methodLink own index y).before args s = true ∧ (Cond.instanceMethod y).before args s = true ∧ (Cond.selects C y y).before args s = true
theorem vx_cwVW {own C : String} {index maxL mc ms : Nat} {y : MethodName} {bytes : ByteArray} {ret : Option FieldType} {hh : List (Nat × Nat × Nat × Nat)} {Ts ws ws' : List Cond} {rm : Room} (n : Nat) (ht : ∀ w ∈ Ts, w.before args s = true) (hT : GoodIn Ts (wsV own index C y ws)) (hw : ws = Cond.codeWith y bytes maxL ret hh :: ws') (hrc : rm.cells = mc) (hrs : rm.slots = ms)
    (hd : y.cls = C ∧ y.cls ≠ "java/lang/invoke/MethodHandle" ∧ y.cls ≠ "java/lang/invoke/VarHandle" ∧ (parseMethodDescriptor y.desc).map (fun d => d.parameters.length) = some n) (hR : rm.frames + 1 ≤ R.frames ∧ 8 + (maxL + 11) + rm.locals ≤ R.locals) :
    vx_CVW R s args own C index y bytes maxL ret hh ws rm mc ms n := by
  obtain ⟨hC, hd⟩ := hd
  subst hC
  have ok : ∀ w ∈ wsV own index y.cls y ws, w.before args s = true := fun w h => ht w (hT w h).1
  have hG : GoodIn Ts ws := fun w h => hT w (by unfold wsV; exact List.mem_append_right _ h)
  have hc : Cond.codeWith y bytes maxL ret hh ∈ ws := by rw [hw]; exact List.mem_cons_self
  refine ⟨⟨hrc, hrs, hR.1, hR.2, pay_in ht hG, hc⟩, ht _ (hG _ hc).1, ok _ (by simp [wsV]), ⟨hd.1, hd.2.1⟩, fun sig h => ?_, ok _ (by simp [wsV]), ok _ (by simp [wsV]), ok _ (by simp [wsV])⟩
  have h2 := hd.2.2
  rw [h] at h2
  exact (Option.some.inj h2).symm
theorem vx_runVW {y : MethodName} {bytes cc : ByteArray} {maxL nL mc ms n index : Nat} {ret : Option FieldType} {hh : List (Nat × Nat × Nat × Nat)} {ws : List Cond} {rm : Room} {Pc : Array Value → State → Prop} {Qc : Array Value → State → Outcome → State → Prop} {free : Addr → Prop} {Ts : List Cond} {own C : String} {b : Addr} {As rest : List Value} {g : JFrame}
    (S : CallFix p m c cc nL s args Ts own) (hM : Met l y ws rm Pc Qc mc ms free) (cw : vx_CVW R s args own C index y bytes maxL ret hh ws rm mc ms n) (hp : PreV s H C b Pc As)
    (hg : g.method = m) (hn : As.length = n) (hsize : g.locals.size = nL) (hstack : g.stack = As.reverse ++ .ref b :: rest) (hW : 2 * g.monitorRoom + (rest.map fun v => v.category).sum ≤ 8) (hdg : decode cc g.pc = .ok (.invokevirtual index, 3)) (hf : cells + mc ≤ R.cells ∧ slots + ms ≤ R.slots) :
    va_Run p l e R s m args below meth c H locs cells slots mc ms g rest (Qc (Value.ref b :: As).toArray) free := by
  obtain ⟨⟨hrc, hrs, hfr, hlo, hws, hcw⟩, hcode, hini, hy, hlen, hl, hin, hse⟩ := cw
  have hK : Back l R p e below s args y 3 8 (PreOf R mc ms Pc) (PostOf Qc mc ms free) := va_backW (hh := hh) (bytes := bytes) (maxL := maxL) (ret := ret) hM hp.1 hrc hrs hfr hlo hws hcw (fun a' U hW => word_at hW (Or.inl (by first | rfl | simp [Cond.onTables, Cond.keeps, Cond.steady])) hini)
  obtain ⟨hx, hb, hml, ho, -⟩ := S
  obtain ⟨-, ⟨cellB, hcB, hoB, hclB⟩, hPc⟩ := hp
  intro T hT X
  obtain ⟨v, vm₁, ⟨U', l2, c2, s2⟩, hW₁, X', ⟨g', mk, t, L, e1, e2, hq, h1, hL, h2, h3⟩, st⟩ := vx_callVW X hx (C := C) (hh := hh) (bytes := bytes) (maxL := maxL) (ret := ret) ho hl hin hse hcode hy hK (by rw [hT]; exact hcB) hoB hclB hg (hsize.trans hml.symm) (argsL := As) (rest := rest) (fun sig h => hn.trans (hlen sig h)) hstack hW (by rw [hb]; exact hdg)
    (fun vm₁ hW₁ => ⟨hf.1, hf.2, hPc (T.setVm vm₁) hT hW₁⟩)
  dsimp only [Pt.U, Pt.locs, Pt.cells, Pt.slots] at X' e1 e2 h1 h2 h3 st
  subst h1; subst h2; subst h3
  exact ⟨v, (T.setVm vm₁).calling g' mk (Value.ref b :: As).toArray, t, U', L, hT, X', hL, e1, e2, hq, st⟩
section
variable {y : MethodName} {bytes cc : ByteArray} {maxL nL mc ms n index : Nat} {ret : Option FieldType} {ws : List Cond} {rm : Room} {Pc : Array Value → State → Prop} {Qc : Array Value → State → Outcome → State → Prop} {XC : String → State → State → Prop} {free : Addr → Prop} {Ts : List Cond} {own C : String} {b : Addr} {As rest : List Value} {g : JFrame}
theorem vx_runVX {hh : List (Nat × Nat × Nat × Nat)} (S : CallFix p m c cc nL s args Ts own) (hM : vx_Met l y ws rm Pc Qc XC mc ms free) (cw : vx_CVW R s args own C index y bytes maxL ret hh ws rm mc ms n) (hp : PreV s H C b Pc As)
    (hg : g.method = m) (hn : As.length = n) (hsize : g.locals.size = nL) (hstack : g.stack = As.reverse ++ .ref b :: rest) (hW : 2 * g.monitorRoom + (rest.map fun v => v.category).sum ≤ 8) (hdg : decode cc g.pc = .ok (.invokevirtual index, 3)) (hf : cells + mc ≤ R.cells ∧ slots + ms ≤ R.slots) :
    vx_Run p l e R s m args below meth c H locs cells slots mc ms g rest (Qc (Value.ref b :: As).toArray) XC free := by
  obtain ⟨⟨hrc, hrs, hfr, hlo, hws, hcw⟩, hcode, hini, hy, hlen, hl, hin, hse⟩ := cw
  have hK : vx_Back l R p e below s args y 3 8 (PreOf R mc ms Pc) (PostOf Qc mc ms free) (vx_Post XC mc ms free) := vx_backW (hh := hh) (bytes := bytes) (maxL := maxL) (ret := ret) hM hp.1 hrc hrs hfr hlo hws hcw (fun a' U hW => word_at hW (Or.inl (by first | rfl | simp [Cond.onTables, Cond.keeps, Cond.steady])) hini)
  obtain ⟨hx, hb, hml, ho, -⟩ := S
  obtain ⟨-, ⟨cellB, hcB, hoB, hclB⟩, hPc⟩ := hp
  intro T hT X
  rcases vx_callVX X hx (C := C) (hh := hh) (bytes := bytes) (maxL := maxL) (ret := ret) ho hl hin hse hcode hy hK (by rw [hT]; exact hcB) hoB hclB hg (hsize.trans hml.symm) (argsL := As) (rest := rest) (fun sig h => hn.trans (hlen sig h)) hstack hW (by rw [hb]; exact hdg)
    (fun vm₁ hW₁ => ⟨hf.1, hf.2, hPc (T.setVm vm₁) hT hW₁⟩) with ⟨v, vm₁, ⟨U', l2, c2, s2⟩, hW₁, X', ⟨g', mk, t, L, e1, e2, hq, h1, hL, h2, h3⟩, st⟩ | ⟨q, vm₁, ⟨U', l2, c2, s2⟩, hW₁, X', ⟨g', mk, t, L, E, ce, e1, e2, hq, hce, hcv, hcl, h1, hL, h2, h3⟩, st⟩
  · dsimp only [Pt.U, Pt.locs, Pt.cells, Pt.slots] at X' e1 e2 h1 h2 h3 st
    subst h1; subst h2; subst h3
    exact Or.inl ⟨v, (T.setVm vm₁).calling g' mk (Value.ref b :: As).toArray, t, U', L, hT, X', hL, e1, e2, hq, st⟩
  · dsimp only [Pt.U, Pt.locs, Pt.cells, Pt.slots] at X' e1 e2 h1 h2 h3 st hcl
    subst h1; subst h2; subst h3
    exact Or.inr ⟨q, (T.setVm vm₁).calling g' mk (Value.ref b :: As).toArray, t, U', L, E, ce, hT, X', hL, e1, e2, hq, hce, hcv, vx_cls hW₁ hcl, st⟩
theorem vx_runSX {hh : List (Nat × Nat × Nat × Nat)} (S : CallFix p m c cc nL s args Ts own) (hM : vx_Met l y ws rm Pc Qc XC mc ms free) (cw : vx_CSW R s args own index y bytes maxL ret hh ws rm mc ms n) (hp : PreS s H Pc As)
    (hg : g.method = m) (hn : As.length = n) (hsize : g.locals.size = nL) (hstack : g.stack = As.reverse ++ rest) (hW : 2 * g.monitorRoom + (rest.map fun v => v.category).sum ≤ 8) (hdg : decode cc g.pc = .ok (.invokestatic index, 3)) (hf : cells + mc ≤ R.cells ∧ slots + ms ≤ R.slots) :
    vx_Run p l e R s m args below meth c H locs cells slots mc ms g rest (Qc As.toArray) XC free := by
  obtain ⟨⟨hrc, hrs, hfr, hlo, hws, hcw⟩, hcode, hini, hy, hlen, hl, hstt⟩ := cw
  have hK : vx_Back l R p e below s args y 3 8 (PreOf R mc ms Pc) (PostOf Qc mc ms free) (vx_Post XC mc ms free) := vx_backW (hh := hh) (bytes := bytes) (maxL := maxL) (ret := ret) hM hp.1 hrc hrs hfr hlo hws hcw (fun a' U hW => word_at hW (Or.inl (by first | rfl | simp [Cond.onTables, Cond.keeps, Cond.steady])) hini)
  obtain ⟨hx, hb, hml, ho, -⟩ := S
  intro T hT X
  rcases vx_callSX X hx (hh := hh) (bytes := bytes) (maxL := maxL) (ret := ret) ho hl hstt hini hcode hy hK hg (hsize.trans hml.symm) (argsL := As) (rest := rest) (fun sig h => hn.trans (hlen sig h)) hstack hW (by rw [hb]; exact hdg)
    (fun vm₁ hW₁ => ⟨hf.1, hf.2, hp.2 (T.setVm vm₁) hT hW₁⟩) with ⟨v, vm₁, ⟨U', l2, c2, s2⟩, hW₁, X', ⟨g', mk, t, L, e1, e2, hq, h1, hL, h2, h3⟩, st⟩ | ⟨q, vm₁, ⟨U', l2, c2, s2⟩, hW₁, X', ⟨g', mk, t, L, E, ce, e1, e2, hq, hce, hcv, hcl, h1, hL, h2, h3⟩, st⟩
  · dsimp only [Pt.U, Pt.locs, Pt.cells, Pt.slots] at X' e1 e2 h1 h2 h3 st
    subst h1; subst h2; subst h3
    exact Or.inl ⟨v, (T.setVm vm₁).calling g' mk As.toArray, t, U', L, hT, X', hL, e1, e2, hq, st⟩
  · dsimp only [Pt.U, Pt.locs, Pt.cells, Pt.slots] at X' e1 e2 h1 h2 h3 st hcl
    subst h1; subst h2; subst h3
    exact Or.inr ⟨q, (T.setVm vm₁).calling g' mk As.toArray, t, U', L, E, ce, hT, X', hL, e1, e2, hq, hce, hcv, vx_cls hW₁ hcl, st⟩
end
end VXH
theorem vx_ofWH {l : Launch} {y : MethodName} {ws ws' : List Cond} {rm : Room} {Pc : Array Value → State → Prop} {Qc : Array Value → State → Outcome → State → Prop} {XC : String → State → State → Prop} {mc ms : Nat} {free : Addr → Prop} {cc : ByteArray} {maxL : Nat} {ret : Option FieldType} {hh : List (Nat × Nat × Nat × Nat)}
    (hy : plainName y.cls = true) (hw : ws = Cond.codeWith y cc maxL ret hh :: ws')
    (body : ∀ p e s m args below meth c s₁, BodyLoose p l y (headSpec ws rm) cc maxL ret e s m args below meth c s₁ → c.maxLocals = maxL → Pc args s →
      W p l e (headSpec ws rm).room s m args below meth c s.heap [] 0 0 (vx_MQ below Qc XC args s mc ms free) (entryFrame m args maxL)) : vx_Met l y ws rm Pc Qc XC mc ms free := by
  refine MetFree.of_bodyS (code := cc) (maxLocals := maxL) (ret := ret) hy ?_ ?_
  · intro args s m h hn
    obtain ⟨m9, meth, c, hn9, h1, h2, h3, h4, -, h5, h6, -⟩ := Cond.codeWith_spec (atoms_spec (ws := ws) h _ (by rw [hw]; exact List.mem_cons_self))
    cases hn.symm.trans hn9
    exact ⟨meth, c, h1, h2, h3, h4, h5, h6⟩
  · intro p e s m args below meth c s₁ B hml hP _
    have hh0 : s₁.heap = s.heap := by rw [B.state]; rfl
    obtain ⟨t, a1, o, b1, b2, b3⟩ := body p e s m args below meth c s₁ B hml hP s₁ hh0 (Stand.of_body B)
    exact ⟨t, o, a1, b1, b2, b3⟩
/-! ===== END ===== -/
end
section
/-! ===== BEGIN printed: names, fields, word lists, decode rows ===== -/
def RX0 : String := "HingeNumbers$Builder"
def TX0 : u_T := fun k => match k with
  | 0 => ("HingeNumbers$Builder", "kinds", "[I", true)
  | 1 => ("HingeNumbers$Builder", "numbers", "[I", true)
  | 2 => ("HingeNumbers$Builder", "lefts", "[I", true)
  | 3 => ("HingeNumbers$Builder", "rights", "[I", true)
  | 4 => ("HingeNumbers$Builder", "depths", "[I", true)
  | 5 => ("HingeNumbers$Builder", "likes", "[I", true)
  | 6 => ("HingeNumbers$Builder", "size", "I", false)
  | 7 => ("HingeNumbers$Builder", "leastDefinable", "I", false)
  | 8 => ("HingeNumbers$Builder", "loose", "LHingeNumbers$NumberStack;", true)
  | _ => ("HingeNumbers$Builder", "waiting", "LHingeNumbers$NumberStack;", true)
def tyX0 : Nat → FieldType := fun k => match k with
  | 0 => .array .int
  | 1 => .array .int
  | 2 => .array .int
  | 3 => .array .int
  | 4 => .array .int
  | 5 => .array .int
  | 6 => .int
  | 7 => .int
  | 8 => .object "HingeNumbers$NumberStack"
  | _ => .object "HingeNumbers$NumberStack"
abbrev wsX00 : List Cond := u_ws RX0 TX0 10
theorem nmX0 : ∀ a, a < 10 → ∀ b, b < 10 → a ≠ b → (TX0 a).2.1 ≠ (TX0 b).2.1 := by decide +kernel
theorem tyX0_ok : ∀ k, k < 10 → parseFieldDescriptor (TX0 k).2.2.1 = some (tyX0 k) := by decide +kernel
abbrev cX0_init : ByteArray := prog_2_method_1_code
def yX0_init : MethodName := ⟨RX0, "<init>", "()V"⟩
abbrev cX0_clear : ByteArray := prog_2_method_2_code
def yX0_clear : MethodName := ⟨RX0, "clear", "()V"⟩
abbrev cX0_leastDefinable : ByteArray := prog_2_method_3_code
def yX0_leastDefinable : MethodName := ⟨RX0, "leastDefinable", "()I"⟩
abbrev cX0_await : ByteArray := prog_2_method_4_code
def yX0_await : MethodName := ⟨RX0, "await", "(I)V"⟩
abbrev cX0_addX : ByteArray := prog_2_method_5_code
def yX0_addX : MethodName := ⟨RX0, "addX", "()V"⟩
abbrev cX0_addNumber : ByteArray := prog_2_method_6_code
def yX0_addNumber : MethodName := ⟨RX0, "addNumber", "(I)I"⟩
abbrev cX0_numberOf : ByteArray := prog_2_method_7_code
def yX0_numberOf : MethodName := ⟨RX0, "numberOf", "(I)I"⟩
abbrev cX0_addDigit : ByteArray := prog_2_method_8_code
def yX0_addDigit : MethodName := ⟨RX0, "addDigit", "(II)V"⟩
abbrev cX0_addPower : ByteArray := prog_2_method_9_code
def yX0_addPower : MethodName := ⟨RX0, "addPower", "(I)V"⟩
abbrev cX0_addSign : ByteArray := prog_2_method_10_code
def yX0_addSign : MethodName := ⟨RX0, "addSign", "(I)V"⟩
abbrev cX0_close : ByteArray := prog_2_method_11_code
def yX0_close : MethodName := ⟨RX0, "close", "()V"⟩
abbrev cX0_finish : ByteArray := prog_2_method_12_code
def yX0_finish : MethodName := ⟨RX0, "finish", "()V"⟩
abbrev cX0_toExpression : ByteArray := prog_2_method_13_code
def yX0_toExpression : MethodName := ⟨RX0, "toExpression", "()LHingeNumbers$Expression;"⟩
abbrev cX0_filled : ByteArray := prog_2_method_14_code
def yX0_filled : MethodName := ⟨RX0, "filled", "([I)[I"⟩
abbrev cX0_finishAtom : ByteArray := prog_2_method_15_code
def yX0_finishAtom : MethodName := ⟨RX0, "finishAtom", "()V"⟩
abbrev cX0_joinFrom : ByteArray := prog_2_method_16_code
def yX0_joinFrom : MethodName := ⟨RX0, "joinFrom", "(I)V"⟩
abbrev cX0_levelOf : ByteArray := prog_2_method_17_code
def yX0_levelOf : MethodName := ⟨RX0, "levelOf", "(I)I"⟩
abbrev cX0_addNode : ByteArray := prog_2_method_18_code
def yX0_addNode : MethodName := ⟨RX0, "addNode", "(IIII)V"⟩
abbrev cX0_countUnlike : ByteArray := prog_2_method_19_code
def yX0_countUnlike : MethodName := ⟨RX0, "countUnlike", "()I"⟩
abbrev cX0_firstLike : ByteArray := prog_2_method_20_code
def yX0_firstLike : MethodName := ⟨RX0, "firstLike", "(I)I"⟩
abbrev cX0_areAlike : ByteArray := prog_2_method_21_code
def yX0_areAlike : MethodName := ⟨RX0, "areAlike", "(II)Z"⟩
def RX1 : String := "HingeNumbers$Expression"
def TX1 : u_T := fun k => match k with
  | 0 => ("HingeNumbers$Expression", "kinds", "[I", true)
  | 1 => ("HingeNumbers$Expression", "numbers", "[I", true)
  | 2 => ("HingeNumbers$Expression", "lefts", "[I", true)
  | 3 => ("HingeNumbers$Expression", "rights", "[I", true)
  | 4 => ("HingeNumbers$Expression", "depth", "I", true)
  | 5 => ("HingeNumbers$Expression", "unlike", "I", true)
  | _ => ("HingeNumbers$Expression", "leastDefinable", "I", true)
def tyX1 : Nat → FieldType := fun k => match k with
  | 0 => .array .int
  | 1 => .array .int
  | 2 => .array .int
  | 3 => .array .int
  | 4 => .int
  | 5 => .int
  | _ => .int
abbrev wsX10 : List Cond := u_ws RX1 TX1 7
theorem nmX1 : ∀ a, a < 7 → ∀ b, b < 7 → a ≠ b → (TX1 a).2.1 ≠ (TX1 b).2.1 := by decide +kernel
theorem tyX1_ok : ∀ k, k < 7 → parseFieldDescriptor (TX1 k).2.2.1 = some (tyX1 k) := by decide +kernel
abbrev cX1_init : ByteArray := prog_3_method_1_code
def yX1_init : MethodName := ⟨RX1, "<init>", "([I[I[I[IIII)V"⟩
abbrev cX1_ofX : ByteArray := prog_3_method_2_code
def yX1_ofX : MethodName := ⟨RX1, "ofX", "()LHingeNumbers$Expression;"⟩
abbrev cX1_size : ByteArray := prog_3_method_3_code
def yX1_size : MethodName := ⟨RX1, "size", "()I"⟩
abbrev cX1_unlike : ByteArray := prog_3_method_5_code
def yX1_unlike : MethodName := ⟨RX1, "unlike", "()I"⟩
abbrev cX1_kind : ByteArray := prog_3_method_7_code
def yX1_kind : MethodName := ⟨RX1, "kind", "(I)I"⟩
abbrev cX1_number : ByteArray := prog_3_method_8_code
def yX1_number : MethodName := ⟨RX1, "number", "(I)I"⟩
abbrev cX1_left : ByteArray := prog_3_method_9_code
def yX1_left : MethodName := ⟨RX1, "left", "(I)I"⟩
abbrev cX1_right : ByteArray := prog_3_method_10_code
def yX1_right : MethodName := ⟨RX1, "right", "(I)I"⟩
def RX2 : String := "HingeNumbers$History"
def TX2 : u_T := fun k => match k with
  | 0 => ("HingeNumbers$History", "states", "[LHingeNumbers$State;", true)
  | _ => ("HingeNumbers$History", "count", "I", false)
def tyX2 : Nat → FieldType := fun k => match k with
  | 0 => .array (.object "HingeNumbers$State")
  | _ => .int
abbrev wsX20 : List Cond := u_ws RX2 TX2 2
theorem nmX2 : ∀ a, a < 2 → ∀ b, b < 2 → a ≠ b → (TX2 a).2.1 ≠ (TX2 b).2.1 := by decide +kernel
theorem tyX2_ok : ∀ k, k < 2 → parseFieldDescriptor (TX2 k).2.2.1 = some (tyX2 k) := by decide +kernel
abbrev cX2_init : ByteArray := prog_4_method_1_code
def yX2_init : MethodName := ⟨RX2, "<init>", "()V"⟩
abbrev cX2_record : ByteArray := prog_4_method_3_code
def yX2_record : MethodName := ⟨RX2, "record", "(LHingeNumbers$State;)V"⟩
abbrev cX2_forgetOldest : ByteArray := prog_4_method_5_code
def yX2_forgetOldest : MethodName := ⟨RX2, "forgetOldest", "()V"⟩
def RX3 : String := "HingeNumbers$NumberStack"
def TX3 : u_T := fun k => match k with
  | 0 => ("HingeNumbers$NumberStack", "items", "[I", true)
  | _ => ("HingeNumbers$NumberStack", "count", "I", false)
def tyX3 : Nat → FieldType := fun k => match k with
  | 0 => .array .int
  | _ => .int
abbrev wsX30 : List Cond := u_ws RX3 TX3 2
theorem nmX3 : ∀ a, a < 2 → ∀ b, b < 2 → a ≠ b → (TX3 a).2.1 ≠ (TX3 b).2.1 := by decide +kernel
theorem tyX3_ok : ∀ k, k < 2 → parseFieldDescriptor (TX3 k).2.2.1 = some (tyX3 k) := by decide +kernel
abbrev cX3_init : ByteArray := prog_5_method_1_code
def yX3_init : MethodName := ⟨RX3, "<init>", "()V"⟩
abbrev cX3_count : ByteArray := prog_5_method_2_code
def yX3_count : MethodName := ⟨RX3, "count", "()I"⟩
abbrev cX3_clear : ByteArray := prog_5_method_3_code
def yX3_clear : MethodName := ⟨RX3, "clear", "()V"⟩
abbrev cX3_push : ByteArray := prog_5_method_4_code
def yX3_push : MethodName := ⟨RX3, "push", "(I)V"⟩
abbrev cX3_top : ByteArray := prog_5_method_5_code
def yX3_top : MethodName := ⟨RX3, "top", "()I"⟩
abbrev cX3_pop : ByteArray := prog_5_method_6_code
def yX3_pop : MethodName := ⟨RX3, "pop", "()I"⟩
def RX4 : String := "HingeNumbers$Parser"
def TX4 : u_T := fun k => match k with
  | 0 => ("HingeNumbers$Parser", "builder", "LHingeNumbers$Builder;", true)
  | 1 => ("HingeNumbers$Parser", "awaited", "I", false)
  | 2 => ("HingeNumbers$Parser", "open", "I", false)
  | _ => ("HingeNumbers$Parser", "numberNode", "I", false)
def tyX4 : Nat → FieldType := fun k => match k with
  | 0 => .object "HingeNumbers$Builder"
  | 1 => .int
  | 2 => .int
  | _ => .int
abbrev wsX40 : List Cond := u_ws RX4 TX4 4
theorem nmX4 : ∀ a, a < 4 → ∀ b, b < 4 → a ≠ b → (TX4 a).2.1 ≠ (TX4 b).2.1 := by decide +kernel
theorem tyX4_ok : ∀ k, k < 4 → parseFieldDescriptor (TX4 k).2.2.1 = some (tyX4 k) := by decide +kernel
abbrev cX4_init : ByteArray := prog_6_method_1_code
def yX4_init : MethodName := ⟨RX4, "<init>", "()V"⟩
abbrev cX4_firstError : ByteArray := prog_6_method_2_code
def yX4_firstError : MethodName := ⟨RX4, "firstError", "(LHingeNumbers$Text;)I"⟩
abbrev cX4_leastDefinable : ByteArray := prog_6_method_3_code
def yX4_leastDefinable : MethodName := ⟨RX4, "leastDefinable", "()I"⟩
abbrev cX4_toExpression : ByteArray := prog_6_method_4_code
def yX4_toExpression : MethodName := ⟨RX4, "toExpression", "()LHingeNumbers$Expression;"⟩
abbrev cX4_takes : ByteArray := prog_6_method_5_code
def yX4_takes : MethodName := ⟨RX4, "takes", "(I)Z"⟩
abbrev cX4_takesAtom : ByteArray := prog_6_method_6_code
def yX4_takesAtom : MethodName := ⟨RX4, "takesAtom", "(I)Z"⟩
abbrev cX4_takesOpening : ByteArray := prog_6_method_7_code
def yX4_takesOpening : MethodName := ⟨RX4, "takesOpening", "(I)Z"⟩
abbrev cX4_takesExponent : ByteArray := prog_6_method_8_code
def yX4_takesExponent : MethodName := ⟨RX4, "takesExponent", "(I)Z"⟩
abbrev cX4_takesBehind : ByteArray := prog_6_method_9_code
def yX4_takesBehind : MethodName := ⟨RX4, "takesBehind", "(I)Z"⟩
abbrev cX4_takesFurtherDigit : ByteArray := prog_6_method_10_code
def yX4_takesFurtherDigit : MethodName := ⟨RX4, "takesFurtherDigit", "(I)Z"⟩
abbrev cX4_isDigit : ByteArray := prog_6_method_11_code
def yX4_isDigit : MethodName := ⟨RX4, "isDigit", "(I)Z"⟩
def RX5 : String := "HingeNumbers$Reckoner"
def TX5 : u_T := fun k => match k with
  | 0 => ("HingeNumbers$Reckoner", "values", "LHingeNumbers$Table;", true)
  | 1 => ("HingeNumbers$Reckoner", "hingeSlopes", "LHingeNumbers$Table;", true)
  | 2 => ("HingeNumbers$Reckoner", "ruleSlopes", "LHingeNumbers$Table;", true)
  | 3 => ("HingeNumbers$Reckoner", "nodeValues", "LHingeNumbers$Table;", true)
  | 4 => ("HingeNumbers$Reckoner", "nodeSlopes", "LHingeNumbers$Table;", true)
  | 5 => ("HingeNumbers$Reckoner", "nodeWeights", "LHingeNumbers$Table;", true)
  | _ => ("HingeNumbers$Reckoner", "state", "LHingeNumbers$State;", false)
def tyX5 : Nat → FieldType := fun k => match k with
  | 0 => .object "HingeNumbers$Table"
  | 1 => .object "HingeNumbers$Table"
  | 2 => .object "HingeNumbers$Table"
  | 3 => .object "HingeNumbers$Table"
  | 4 => .object "HingeNumbers$Table"
  | 5 => .object "HingeNumbers$Table"
  | _ => .object "HingeNumbers$State"
abbrev wsX50 : List Cond := u_ws RX5 TX5 7
theorem nmX5 : ∀ a, a < 7 → ∀ b, b < 7 → a ≠ b → (TX5 a).2.1 ≠ (TX5 b).2.1 := by decide +kernel
theorem tyX5_ok : ∀ k, k < 7 → parseFieldDescriptor (TX5 k).2.2.1 = some (tyX5 k) := by decide +kernel
abbrev cX5_init : ByteArray := prog_7_method_1_code
def yX5_init : MethodName := ⟨RX5, "<init>", "()V"⟩
abbrev cX5_state : ByteArray := prog_7_method_2_code
def yX5_state : MethodName := ⟨RX5, "state", "()LHingeNumbers$State;"⟩
abbrev cX5_moveTo : ByteArray := prog_7_method_3_code
def yX5_moveTo : MethodName := ⟨RX5, "moveTo", "(LHingeNumbers$State;)V"⟩
abbrev cX5_forget : ByteArray := prog_7_method_4_code
def yX5_forget : MethodName := ⟨RX5, "forget", "()V"⟩
abbrev cX5_mayUse : ByteArray := prog_7_method_5_code
def yX5_mayUse : MethodName := ⟨RX5, "mayUse", "(II)Z"⟩
abbrev cX5_value : ByteArray := prog_7_method_6_code
def yX5_value : MethodName := ⟨RX5, "value", "(II)I"⟩
abbrev cX5_reckonValues : ByteArray := prog_7_method_7_code
def yX5_reckonValues : MethodName := ⟨RX5, "reckonValues", "(II)I"⟩
abbrev cX5_valueOfCall : ByteArray := prog_7_method_8_code
def yX5_valueOfCall : MethodName := ⟨RX5, "valueOfCall", "(II)I"⟩
abbrev cX5_valueOfNode : ByteArray := prog_7_method_9_code
def yX5_valueOfNode : MethodName := ⟨RX5, "valueOfNode", "(III)I"⟩
abbrev cX5_hingeSlope : ByteArray := prog_7_method_10_code
def yX5_hingeSlope : MethodName := ⟨RX5, "hingeSlope", "(II)I"⟩
abbrev cX5_feed : ByteArray := prog_7_method_11_code
def yX5_feed : MethodName := ⟨RX5, "feed", "(III)I"⟩
abbrev cX5_hingeOfCall : ByteArray := prog_7_method_12_code
def yX5_hingeOfCall : MethodName := ⟨RX5, "hingeOfCall", "(II)I"⟩
abbrev cX5_hingeOfNode : ByteArray := prog_7_method_13_code
def yX5_hingeOfNode : MethodName := ⟨RX5, "hingeOfNode", "(IIII)I"⟩
abbrev cX5_slopeOfNode : ByteArray := prog_7_method_14_code
def yX5_slopeOfNode : MethodName := ⟨RX5, "slopeOfNode", "(III)I"⟩
abbrev cX5_ruleSlope : ByteArray := prog_7_method_15_code
def yX5_ruleSlope : MethodName := ⟨RX5, "ruleSlope", "(II)I"⟩
abbrev cX5_sumOfWeights : ByteArray := prog_7_method_16_code
def yX5_sumOfWeights : MethodName := ⟨RX5, "sumOfWeights", "(I)I"⟩
abbrev cX5_passWeightOn : ByteArray := prog_7_method_17_code
def yX5_passWeightOn : MethodName := ⟨RX5, "passWeightOn", "(II)V"⟩
abbrev cX5_leftShare : ByteArray := prog_7_method_18_code
def yX5_leftShare : MethodName := ⟨RX5, "leftShare", "(II)I"⟩
abbrev cX5_rightShare : ByteArray := prog_7_method_19_code
def yX5_rightShare : MethodName := ⟨RX5, "rightShare", "(II)I"⟩
def RX6 : String := "HingeNumbers$Remainders"
def TX6 : u_T := fun k => match k with
  | _ => ("HingeNumbers$Remainders", "prime", "I", true)
def tyX6 : Nat → FieldType := fun k => match k with
  | _ => .int
abbrev wsX60 : List Cond := u_ws RX6 TX6 1
theorem nmX6 : ∀ a, a < 1 → ∀ b, b < 1 → a ≠ b → (TX6 a).2.1 ≠ (TX6 b).2.1 := by decide +kernel
theorem tyX6_ok : ∀ k, k < 1 → parseFieldDescriptor (TX6 k).2.2.1 = some (tyX6 k) := by decide +kernel
abbrev cX6_init : ByteArray := prog_8_method_1_code
def yX6_init : MethodName := ⟨RX6, "<init>", "(I)V"⟩
abbrev cX6_prime : ByteArray := prog_8_method_2_code
def yX6_prime : MethodName := ⟨RX6, "prime", "()I"⟩
abbrev cX6_of : ByteArray := prog_8_method_3_code
def yX6_of : MethodName := ⟨RX6, "of", "(I)I"⟩
abbrev cX6_add : ByteArray := prog_8_method_4_code
def yX6_add : MethodName := ⟨RX6, "add", "(II)I"⟩
abbrev cX6_subtract : ByteArray := prog_8_method_5_code
def yX6_subtract : MethodName := ⟨RX6, "subtract", "(II)I"⟩
abbrev cX6_multiply : ByteArray := prog_8_method_6_code
def yX6_multiply : MethodName := ⟨RX6, "multiply", "(II)I"⟩
abbrev cX6_divide : ByteArray := prog_8_method_7_code
def yX6_divide : MethodName := ⟨RX6, "divide", "(II)I"⟩
abbrev cX6_power : ByteArray := prog_8_method_8_code
def yX6_power : MethodName := ⟨RX6, "power", "(II)I"⟩
abbrev cX6_powerSlope : ByteArray := prog_8_method_9_code
def yX6_powerSlope : MethodName := ⟨RX6, "powerSlope", "(II)I"⟩
def RX7 : String := "HingeNumbers$State"
def TX7 : u_T := fun k => match k with
  | 0 => ("HingeNumbers$State", "numbers", "LHingeNumbers$Remainders;", true)
  | 1 => ("HingeNumbers$State", "f", "LHingeNumbers$Expression;", true)
  | 2 => ("HingeNumbers$State", "g", "LHingeNumbers$Expression;", true)
  | 3 => ("HingeNumbers$State", "h", "LHingeNumbers$Expression;", true)
  | _ => ("HingeNumbers$State", "k", "LHingeNumbers$Expression;", true)
def tyX7 : Nat → FieldType := fun k => match k with
  | 0 => .object "HingeNumbers$Remainders"
  | 1 => .object "HingeNumbers$Expression"
  | 2 => .object "HingeNumbers$Expression"
  | 3 => .object "HingeNumbers$Expression"
  | _ => .object "HingeNumbers$Expression"
abbrev wsX70 : List Cond := u_ws RX7 TX7 5
theorem nmX7 : ∀ a, a < 5 → ∀ b, b < 5 → a ≠ b → (TX7 a).2.1 ≠ (TX7 b).2.1 := by decide +kernel
theorem tyX7_ok : ∀ k, k < 5 → parseFieldDescriptor (TX7 k).2.2.1 = some (tyX7 k) := by decide +kernel
abbrev cX7_init : ByteArray := prog_9_method_1_code
def yX7_init : MethodName := ⟨RX7, "<init>", "(LHingeNumbers$Remainders;LHingeNumbers$Expression;LHingeNumbers$Expression;LHingeNumbers$Expression;LHingeNumbers$Expression;)V"⟩
abbrev cX7_first : ByteArray := prog_9_method_2_code
def yX7_first : MethodName := ⟨RX7, "first", "()LHingeNumbers$State;"⟩
abbrev cX7_numbers : ByteArray := prog_9_method_3_code
def yX7_numbers : MethodName := ⟨RX7, "numbers", "()LHingeNumbers$Remainders;"⟩
abbrev cX7_expressionOf : ByteArray := prog_9_method_4_code
def yX7_expressionOf : MethodName := ⟨RX7, "expressionOf", "(I)LHingeNumbers$Expression;"⟩
abbrev cX7_withExpression : ByteArray := prog_9_method_5_code
def yX7_withExpression : MethodName := ⟨RX7, "withExpression", "(ILHingeNumbers$Expression;)LHingeNumbers$State;"⟩
abbrev cX7_withPrime : ByteArray := prog_9_method_6_code
def yX7_withPrime : MethodName := ⟨RX7, "withPrime", "(I)LHingeNumbers$State;"⟩
def RX8 : String := "HingeNumbers$Table"
def TX8 : u_T := fun k => match k with
  | 0 => ("HingeNumbers$Table", "width", "I", true)
  | _ => ("HingeNumbers$Table", "cells", "[I", true)
def tyX8 : Nat → FieldType := fun k => match k with
  | 0 => .int
  | _ => .array .int
abbrev wsX80 : List Cond := u_ws RX8 TX8 2
theorem nmX8 : ∀ a, a < 2 → ∀ b, b < 2 → a ≠ b → (TX8 a).2.1 ≠ (TX8 b).2.1 := by decide +kernel
theorem tyX8_ok : ∀ k, k < 2 → parseFieldDescriptor (TX8 k).2.2.1 = some (tyX8 k) := by decide +kernel
abbrev cX8_init : ByteArray := prog_10_method_1_code
def yX8_init : MethodName := ⟨RX8, "<init>", "(I)V"⟩
abbrev cX8_fill : ByteArray := prog_10_method_2_code
def yX8_fill : MethodName := ⟨RX8, "fill", "(I)V"⟩
abbrev cX8_get : ByteArray := prog_10_method_3_code
def yX8_get : MethodName := ⟨RX8, "get", "(II)I"⟩
abbrev cX8_set : ByteArray := prog_10_method_4_code
def yX8_set : MethodName := ⟨RX8, "set", "(III)V"⟩
def RX9 : String := "HingeNumbers$Text"
def TX9 : u_T := fun k => match k with
  | 0 => ("HingeNumbers$Text", "characters", "[C", true)
  | _ => ("HingeNumbers$Text", "length", "I", false)
def tyX9 : Nat → FieldType := fun k => match k with
  | 0 => .array .char
  | _ => .int
abbrev wsX90 : List Cond := u_ws RX9 TX9 2
theorem nmX9 : ∀ a, a < 2 → ∀ b, b < 2 → a ≠ b → (TX9 a).2.1 ≠ (TX9 b).2.1 := by decide +kernel
theorem tyX9_ok : ∀ k, k < 2 → parseFieldDescriptor (TX9 k).2.2.1 = some (tyX9 k) := by decide +kernel
abbrev cX9_init : ByteArray := prog_11_method_1_code
def yX9_init : MethodName := ⟨RX9, "<init>", "()V"⟩
abbrev cX9_length : ByteArray := prog_11_method_2_code
def yX9_length : MethodName := ⟨RX9, "length", "()I"⟩
abbrev cX9_characterAt : ByteArray := prog_11_method_3_code
def yX9_characterAt : MethodName := ⟨RX9, "characterAt", "(I)C"⟩
abbrev cX9_isFull : ByteArray := prog_11_method_4_code
def yX9_isFull : MethodName := ⟨RX9, "isFull", "()Z"⟩
abbrev cX9_append : ByteArray := prog_11_method_5_code
def yX9_append : MethodName := ⟨RX9, "append", "(C)I"⟩
abbrev cX9_empty : ByteArray := prog_11_method_6_code
def yX9_empty : MethodName := ⟨RX9, "empty", "()I"⟩
def RX10 : String := "HingeNumbers"
def TX10 : u_T := fun k => match k with
  | 0 => ("HingeNumbers", "text", "LHingeNumbers$Text;", true)
  | 1 => ("HingeNumbers", "parser", "LHingeNumbers$Parser;", true)
  | 2 => ("HingeNumbers", "history", "LHingeNumbers$History;", true)
  | 3 => ("HingeNumbers", "reckoner", "LHingeNumbers$Reckoner;", true)
  | _ => ("HingeNumbers", "snapshot", "LHingeNumbers$State;", false)
def tyX10 : Nat → FieldType := fun k => match k with
  | 0 => .object "HingeNumbers$Text"
  | 1 => .object "HingeNumbers$Parser"
  | 2 => .object "HingeNumbers$History"
  | 3 => .object "HingeNumbers$Reckoner"
  | _ => .object "HingeNumbers$State"
abbrev wsX100 : List Cond := u_ws RX10 TX10 5
theorem nmX10 : ∀ a, a < 5 → ∀ b, b < 5 → a ≠ b → (TX10 a).2.1 ≠ (TX10 b).2.1 := by decide +kernel
theorem tyX10_ok : ∀ k, k < 5 → parseFieldDescriptor (TX10 k).2.2.1 = some (tyX10 k) := by decide +kernel
abbrev cX10_init : ByteArray := prog_1_method_1_code
def yX10_init : MethodName := ⟨RX10, "<init>", "()V"⟩
abbrev cX10_define : ByteArray := prog_1_method_2_code
def yX10_define : MethodName := ⟨RX10, "define", "(I)I"⟩
abbrev cX10_setModulus : ByteArray := prog_1_method_4_code
def yX10_setModulus : MethodName := ⟨RX10, "setModulus", "(I)I"⟩
abbrev cX10_type : ByteArray := prog_1_method_5_code
def yX10_type : MethodName := ⟨RX10, "type", "(C)I"⟩
abbrev cX10_clearText : ByteArray := prog_1_method_6_code
def yX10_clearText : MethodName := ⟨RX10, "clearText", "()I"⟩
abbrev cX10_textError : ByteArray := prog_1_method_7_code
def yX10_textError : MethodName := ⟨RX10, "textError", "()I"⟩
abbrev cX10_nodesOf : ByteArray := prog_1_method_12_code
def yX10_nodesOf : MethodName := ⟨RX10, "nodesOf", "(I)I"⟩
abbrev cX10_unlikeNodesOf : ByteArray := prog_1_method_13_code
def yX10_unlikeNodesOf : MethodName := ⟨RX10, "unlikeNodesOf", "(I)I"⟩
abbrev cX10_valueAt : ByteArray := prog_1_method_16_code
def yX10_valueAt : MethodName := ⟨RX10, "valueAt", "(II)I"⟩
abbrev cX10_slopeByHinges : ByteArray := prog_1_method_17_code
def yX10_slopeByHinges : MethodName := ⟨RX10, "slopeByHinges", "(II)I"⟩
abbrev cX10_slopeByRules : ByteArray := prog_1_method_18_code
def yX10_slopeByRules : MethodName := ⟨RX10, "slopeByRules", "(II)I"⟩
abbrev cX10_bansOf : ByteArray := prog_1_method_21_code
def yX10_bansOf : MethodName := ⟨RX10, "bansOf", "(I)I"⟩
abbrev cX10_flatsOf : ByteArray := prog_1_method_22_code
def yX10_flatsOf : MethodName := ⟨RX10, "flatsOf", "(I)I"⟩
abbrev cX10_firstFlat : ByteArray := prog_1_method_23_code
def yX10_firstFlat : MethodName := ⟨RX10, "firstFlat", "(I)I"⟩
abbrev cX10_rootsOf : ByteArray := prog_1_method_24_code
def yX10_rootsOf : MethodName := ⟨RX10, "rootsOf", "(I)I"⟩
abbrev cX10_step : ByteArray := prog_1_method_26_code
def yX10_step : MethodName := ⟨RX10, "step", "(II)I"⟩
abbrev cX10_stepsToRoot : ByteArray := prog_1_method_27_code
def yX10_stepsToRoot : MethodName := ⟨RX10, "stepsToRoot", "(II)I"⟩
abbrev cX10_prime : ByteArray := prog_1_method_29_code
def yX10_prime : MethodName := ⟨RX10, "prime", "()I"⟩
abbrev cX10_act : ByteArray := prog_1_method_30_code
def yX10_act : MethodName := ⟨RX10, "act", "(LHingeNumbers$State;)V"⟩
abbrev cX10_countValues : ByteArray := prog_1_method_31_code
def yX10_countValues : MethodName := ⟨RX10, "countValues", "(II)I"⟩
abbrev cX10_nextOf : ByteArray := prog_1_method_32_code
def yX10_nextOf : MethodName := ⟨RX10, "nextOf", "(II)I"⟩
abbrev cX10_requireFunction : ByteArray := prog_1_method_33_code
def yX10_requireFunction : MethodName := ⟨RX10, "requireFunction", "(I)V"⟩
abbrev cX10_requireNumber : ByteArray := prog_1_method_34_code
def yX10_requireNumber : MethodName := ⟨RX10, "requireNumber", "(I)V"⟩
abbrev cX10_isPrime : ByteArray := prog_1_method_35_code
def yX10_isPrime : MethodName := ⟨RX10, "isPrime", "(I)Z"⟩
abbrev cX10_functionOf : ByteArray := prog_1_method_36_code
def yX10_functionOf : MethodName := ⟨RX10, "functionOf", "(I)I"⟩
abbrev cX10_at : ByteArray := prog_1_method_37_code
def yX10_at : MethodName := ⟨RX10, "at", "([II)I"⟩
abbrev cX10_put : ByteArray := prog_1_method_38_code
def yX10_put : MethodName := ⟨RX10, "put", "([III)V"⟩
def RX11 : String := "HingeNumbersModel"
def TX11 : u_T := fun k => match k with
  | _ => ("", "", "", false)
def tyX11 : Nat → FieldType := fun k => match k with
  | _ => .int
abbrev wsX110 : List Cond := u_ws RX11 TX11 0
theorem nmX11 : ∀ a, a < 0 → ∀ b, b < 0 → a ≠ b → (TX11 a).2.1 ≠ (TX11 b).2.1 := by decide +kernel
theorem tyX11_ok : ∀ k, k < 0 → parseFieldDescriptor (TX11 k).2.2.1 = some (tyX11 k) := by decide +kernel
def RJx145de : String := "java/io/Serializable"
def TJx145de : u_T := fun k => match k with
  | _ => ("", "", "", false)
def tyJx145de : Nat → FieldType := fun k => match k with
  | _ => .int
abbrev wsJx145de0 : List Cond := u_ws RJx145de TJx145de 0
theorem nmJx145de : ∀ a, a < 0 → ∀ b, b < 0 → a ≠ b → (TJx145de a).2.1 ≠ (TJx145de b).2.1 := by decide +kernel
theorem tyJx145de_ok : ∀ k, k < 0 → parseFieldDescriptor (TJx145de k).2.2.1 = some (tyJx145de k) := by decide +kernel
def RJx8e188 : String := "java/lang/Cloneable"
def TJx8e188 : u_T := fun k => match k with
  | _ => ("", "", "", false)
def tyJx8e188 : Nat → FieldType := fun k => match k with
  | _ => .int
abbrev wsJx8e1880 : List Cond := u_ws RJx8e188 TJx8e188 0
theorem nmJx8e188 : ∀ a, a < 0 → ∀ b, b < 0 → a ≠ b → (TJx8e188 a).2.1 ≠ (TJx8e188 b).2.1 := by decide +kernel
theorem tyJx8e188_ok : ∀ k, k < 0 → parseFieldDescriptor (TJx8e188 k).2.2.1 = some (tyJx8e188 k) := by decide +kernel
def RJ9 : String := "java/lang/Math"
def TJ9 : u_T := fun k => match k with
  | _ => ("", "", "", false)
def tyJ9 : Nat → FieldType := fun k => match k with
  | _ => .int
abbrev wsJ90 : List Cond := u_ws RJ9 TJ9 0
theorem nmJ9 : ∀ a, a < 0 → ∀ b, b < 0 → a ≠ b → (TJ9 a).2.1 ≠ (TJ9 b).2.1 := by decide +kernel
theorem tyJ9_ok : ∀ k, k < 0 → parseFieldDescriptor (TJ9 k).2.2.1 = some (tyJ9 k) := by decide +kernel
abbrev cJ9_max_7cf53 : ByteArray := prog_19_method_65_code
def yJ9_max_7cf53 : MethodName := ⟨RJ9, "max", "(II)I"⟩
abbrev cJ9_min_7cf53 : ByteArray := prog_19_method_69_code
def yJ9_min_7cf53 : MethodName := ⟨RJ9, "min", "(II)I"⟩
def RJ0 : String := "java/lang/String"
def TJ0 : u_T := fun k => match k with
  | _ => ("", "", "", false)
def tyJ0 : Nat → FieldType := fun k => match k with
  | _ => .int
abbrev wsJ00 : List Cond := u_ws RJ0 TJ0 0
theorem nmJ0 : ∀ a, a < 0 → ∀ b, b < 0 → a ≠ b → (TJ0 a).2.1 ≠ (TJ0 b).2.1 := by decide +kernel
theorem tyJ0_ok : ∀ k, k < 0 → parseFieldDescriptor (TJ0 k).2.2.1 = some (tyJ0 k) := by decide +kernel
def RJ10 : String := "java/lang/System"
def TJ10 : u_T := fun k => match k with
  | _ => ("", "", "", false)
def tyJ10 : Nat → FieldType := fun k => match k with
  | _ => .int
abbrev wsJ100 : List Cond := u_ws RJ10 TJ10 0
theorem nmJ10 : ∀ a, a < 0 → ∀ b, b < 0 → a ≠ b → (TJ10 a).2.1 ≠ (TJ10 b).2.1 := by decide +kernel
theorem tyJ10_ok : ∀ k, k < 0 → parseFieldDescriptor (TJ10 k).2.2.1 = some (tyJ10 k) := by decide +kernel
def RJ7 : String := "java/util/Arrays"
def TJ7 : u_T := fun k => match k with
  | _ => ("", "", "", false)
def tyJ7 : Nat → FieldType := fun k => match k with
  | _ => .int
abbrev wsJ70 : List Cond := u_ws RJ7 TJ7 0
theorem nmJ7 : ∀ a, a < 0 → ∀ b, b < 0 → a ≠ b → (TJ7 a).2.1 ≠ (TJ7 b).2.1 := by decide +kernel
theorem tyJ7_ok : ∀ k, k < 0 → parseFieldDescriptor (TJ7 k).2.2.1 = some (tyJ7 k) := by decide +kernel
abbrev cJ7_fill_53178 : ByteArray := prog_24_method_103_code
def yJ7_fill_53178 : MethodName := ⟨RJ7, "fill", "([II)V"⟩
abbrev cJ7_copyOf_59c91 : ByteArray := prog_24_method_123_code
def yJ7_copyOf_59c91 : MethodName := ⟨RJ7, "copyOf", "([II)[I"⟩
def RL : String := "HingeNumbersLaw"
abbrev cL_cell : ByteArray := method_2_code
def yL_cell : MethodName := ⟨RL, "cell", "([II)I"⟩
abbrev cL_low : ByteArray := method_3_code
def yL_low : MethodName := ⟨RL, "low", "(II)I"⟩
abbrev cL_mod : ByteArray := method_4_code
def yL_mod : MethodName := ⟨RL, "mod", "(II)I"⟩
abbrev cL_times : ByteArray := method_5_code
def yL_times : MethodName := ⟨RL, "times", "([IIII)V"⟩
abbrev cL_at : ByteArray := method_6_code
def yL_at : MethodName := ⟨RL, "at", "([III)I"⟩
abbrev cL_slopeAt : ByteArray := method_7_code
def yL_slopeAt : MethodName := ⟨RL, "slopeAt", "([III)I"⟩
abbrev cL_inverse : ByteArray := method_8_code
def yL_inverse : MethodName := ⟨RL, "inverse", "(II)I"⟩
abbrev cL_term : ByteArray := method_9_code
def yL_term : MethodName := ⟨RL, "term", "(LHingeNumbers;IZ[II)I"⟩
abbrev cL_define : ByteArray := method_10_code
def yL_define : MethodName := ⟨RL, "define", "(LHingeNumbers;I)I"⟩
abbrev cL_modulus : ByteArray := method_11_code
def yL_modulus : MethodName := ⟨RL, "modulus", "(LHingeNumbers;I)I"⟩
abbrev cL_same : ByteArray := method_12_code
def yL_same : MethodName := ⟨RL, "same", "(LHingeNumbers;I[I[II)Z"⟩
abbrev cL_prime : ByteArray := method_13_code
def yL_prime : MethodName := ⟨RL, "prime", "(I)I"⟩
abbrev cL_divided : ByteArray := method_14_code
def yL_divided : MethodName := ⟨RL, "divided", "(I)Z"⟩
abbrev cL_law : ByteArray := code
def yL_law : MethodName := ⟨RL, "law", "([I)Z"⟩
def wsX3_init : List Cond := .code yX3_init cX3_init 1 none :: ([.methodLink RX3 3 objectInit, .instanceMethod objectInit, .code objectInit ⟨#[0xb1]⟩ 1 none, .arrayClass .int, .fieldLink RX3 9 "HingeNumbers$NumberStack" "items" "[I", .fieldLink RX3 15 "HingeNumbers$NumberStack" "count" "I"] ++ wsX30)
def wsX0_init : List Cond := .code yX0_init cX0_init 1 none :: ([.methodLink RX0 3 objectInit, .instanceMethod objectInit, .code objectInit ⟨#[0xb1]⟩ 1 none, .arrayClass .int, .fieldLink RX0 9 "HingeNumbers$Builder" "kinds" "[I", .fieldLink RX0 15 "HingeNumbers$Builder" "numbers" "[I", .fieldLink RX0 18 "HingeNumbers$Builder" "lefts" "[I", .fieldLink RX0 21 "HingeNumbers$Builder" "rights" "[I", .fieldLink RX0 24 "HingeNumbers$Builder" "depths" "[I", .fieldLink RX0 27 "HingeNumbers$Builder" "likes" "[I", .fieldLink RX0 30 "HingeNumbers$Builder" "size" "I", .fieldLink RX0 34 "HingeNumbers$Builder" "leastDefinable" "I", .classLink RX0 37 RX3, .instantiable RX3 2, .initialized RX3, .fieldLink RX0 40 "HingeNumbers$Builder" "loose" "LHingeNumbers$NumberStack;", .fieldLink RX0 44 "HingeNumbers$Builder" "waiting" "LHingeNumbers$NumberStack;", .instanceMethod yX3_init, .code yX3_init cX3_init 1 none, .methodLink RX3 3 objectInit, .fieldLink RX3 9 "HingeNumbers$NumberStack" "items" "[I", .fieldLink RX3 15 "HingeNumbers$NumberStack" "count" "I"] ++ wsX00 ++ wsX30)
def wsX3_clear : List Cond := .code yX3_clear cX3_clear 1 none :: ([.fieldLink RX3 15 "HingeNumbers$NumberStack" "count" "I"] ++ wsX30)
def wsX0_clear : List Cond := .code yX0_clear cX0_clear 1 none :: ([.fieldLink RX0 30 "HingeNumbers$Builder" "size" "I", .fieldLink RX0 34 "HingeNumbers$Builder" "leastDefinable" "I", .fieldLink RX0 40 "HingeNumbers$Builder" "loose" "LHingeNumbers$NumberStack;", .fieldLink RX0 44 "HingeNumbers$Builder" "waiting" "LHingeNumbers$NumberStack;", .methodLink RX0 47 yX3_clear, .instanceMethod yX3_clear, .selects RX3 yX3_clear yX3_clear, .initialized RX3, .code yX3_clear cX3_clear 1 none, .fieldLink RX3 15 "HingeNumbers$NumberStack" "count" "I"] ++ wsX00 ++ wsX30)
def wsX0_leastDefinable : List Cond := .code yX0_leastDefinable cX0_leastDefinable 1 (some .int) :: ([.fieldLink RX0 34 "HingeNumbers$Builder" "leastDefinable" "I"] ++ wsX00)
def wsX3_push : List Cond := .code yX3_push cX3_push 2 none :: ([.fieldLink RX3 15 "HingeNumbers$NumberStack" "count" "I", .fieldLink RX3 9 "HingeNumbers$NumberStack" "items" "[I"] ++ wsX30)
def wsX0_await : List Cond := .code yX0_await cX0_await 2 none :: ([.fieldLink RX0 44 "HingeNumbers$Builder" "waiting" "LHingeNumbers$NumberStack;", .methodLink RX0 50 yX3_push, .instanceMethod yX3_push, .selects RX3 yX3_push yX3_push, .initialized RX3, .code yX3_push cX3_push 2 none, .fieldLink RX3 15 "HingeNumbers$NumberStack" "count" "I", .fieldLink RX3 9 "HingeNumbers$NumberStack" "items" "[I"] ++ wsX00 ++ wsX30)
def wsX10_put : List Cond := .code yX10_put cX10_put 3 none :: ([])
def wsX10_at : List Cond := .code yX10_at cX10_at 2 (some .int) :: ([])
def wsX0_addNode_r1 : List Cond := [Cond.fieldLink RX0 9 "HingeNumbers$Builder" "kinds" "[I", Cond.fieldLink RX0 30 "HingeNumbers$Builder" "size" "I", Cond.fieldLink RX0 15 "HingeNumbers$Builder" "numbers" "[I", Cond.fieldLink RX0 18 "HingeNumbers$Builder" "lefts" "[I", Cond.fieldLink RX0 21 "HingeNumbers$Builder" "rights" "[I", Cond.fieldLink RX0 24 "HingeNumbers$Builder" "depths" "[I", Cond.methodLink RX0 83 Lib.Math.max.name, Cond.static Lib.Math.max.name, Cond.initialized "java/lang/Math", Cond.code Lib.Math.max.name Lib.Math.max.code 2 (some .int), Cond.fieldLink RX0 40 "HingeNumbers$Builder" "loose" "LHingeNumbers$NumberStack;", Cond.methodLink RX0 113 Lib.Math.min.name, Cond.static Lib.Math.min.name, Cond.code Lib.Math.min.name Lib.Math.min.code 2 (some .int), Cond.static yX10_put, Cond.initialized RX10, Cond.code yX10_put cX10_put 3 none, Cond.static yX10_at, Cond.code yX10_at cX10_at 2 (some .int), Cond.methodLink RX0 50 yX3_push, Cond.instanceMethod yX3_push, Cond.selects RX3 yX3_push yX3_push, Cond.initialized RX3, Cond.code yX3_push cX3_push 2 none]
def wsX0_addNode_r2 : List Cond := [Cond.fieldLink RX3 15 "HingeNumbers$NumberStack" "count" "I", Cond.fieldLink RX3 9 "HingeNumbers$NumberStack" "items" "[I"]
def wsX0_addNode : List Cond := .code yX0_addNode cX0_addNode 5 none :: ((wsX0_addNode_r1 ++ wsX0_addNode_r2) ++ wsX00 ++ wsX30)
def wsX3_count : List Cond := .code yX3_count cX3_count 1 (some .int) :: ([.fieldLink RX3 15 "HingeNumbers$NumberStack" "count" "I"] ++ wsX30)
def wsX3_top : List Cond := .code yX3_top cX3_top 1 (some .int) :: ([.fieldLink RX3 15 "HingeNumbers$NumberStack" "count" "I", .fieldLink RX3 9 "HingeNumbers$NumberStack" "items" "[I"] ++ wsX30)
def wsX3_pop : List Cond := .code yX3_pop cX3_pop 1 (some .int) :: ([.fieldLink RX3 15 "HingeNumbers$NumberStack" "count" "I", .fieldLink RX3 9 "HingeNumbers$NumberStack" "items" "[I"] ++ wsX30)
def wsX0_finishAtom_r1 : List Cond := [Cond.fieldLink RX0 44 "HingeNumbers$Builder" "waiting" "LHingeNumbers$NumberStack;", Cond.fieldLink RX0 40 "HingeNumbers$Builder" "loose" "LHingeNumbers$NumberStack;", Cond.methodLink RX0 107 yX3_count, Cond.instanceMethod yX3_count, Cond.selects RX3 yX3_count yX3_count, Cond.initialized RX3, Cond.code yX3_count cX3_count 1 (some .int), Cond.fieldLink RX3 15 "HingeNumbers$NumberStack" "count" "I", Cond.methodLink RX0 110 yX3_top, Cond.instanceMethod yX3_top, Cond.selects RX3 yX3_top yX3_top, Cond.code yX3_top cX3_top 1 (some .int), Cond.fieldLink RX3 9 "HingeNumbers$NumberStack" "items" "[I", Cond.methodLink RX0 69 yX3_pop, Cond.instanceMethod yX3_pop, Cond.selects RX3 yX3_pop yX3_pop, Cond.code yX3_pop cX3_pop 1 (some .int), Cond.methodLink RX0 54 yX0_addNode, Cond.instanceMethod yX0_addNode, Cond.selects RX0 yX0_addNode yX0_addNode, Cond.initialized RX0, Cond.code yX0_addNode cX0_addNode 5 none, Cond.fieldLink RX0 9 "HingeNumbers$Builder" "kinds" "[I", Cond.fieldLink RX0 30 "HingeNumbers$Builder" "size" "I"]
def wsX0_finishAtom_r2 : List Cond := [Cond.fieldLink RX0 15 "HingeNumbers$Builder" "numbers" "[I", Cond.fieldLink RX0 18 "HingeNumbers$Builder" "lefts" "[I", Cond.fieldLink RX0 21 "HingeNumbers$Builder" "rights" "[I", Cond.fieldLink RX0 24 "HingeNumbers$Builder" "depths" "[I", Cond.methodLink RX0 83 Lib.Math.max.name, Cond.static Lib.Math.max.name, Cond.initialized "java/lang/Math", Cond.code Lib.Math.max.name Lib.Math.max.code 2 (some .int), Cond.methodLink RX0 113 Lib.Math.min.name, Cond.static Lib.Math.min.name, Cond.code Lib.Math.min.name Lib.Math.min.code 2 (some .int), Cond.static yX10_put, Cond.initialized RX10, Cond.code yX10_put cX10_put 3 none, Cond.static yX10_at, Cond.code yX10_at cX10_at 2 (some .int), Cond.methodLink RX0 50 yX3_push, Cond.instanceMethod yX3_push, Cond.selects RX3 yX3_push yX3_push, Cond.code yX3_push cX3_push 2 none]
def wsX0_finishAtom : List Cond := .code yX0_finishAtom cX0_finishAtom 2 none :: ((wsX0_finishAtom_r1 ++ wsX0_finishAtom_r2) ++ wsX00 ++ wsX30)
def wsX0_addX_r1 : List Cond := [Cond.methodLink RX0 54 yX0_addNode, Cond.instanceMethod yX0_addNode, Cond.selects RX0 yX0_addNode yX0_addNode, Cond.initialized RX0, Cond.code yX0_addNode cX0_addNode 5 none, Cond.fieldLink RX0 9 "HingeNumbers$Builder" "kinds" "[I", Cond.fieldLink RX0 30 "HingeNumbers$Builder" "size" "I", Cond.fieldLink RX0 15 "HingeNumbers$Builder" "numbers" "[I", Cond.fieldLink RX0 18 "HingeNumbers$Builder" "lefts" "[I", Cond.fieldLink RX0 21 "HingeNumbers$Builder" "rights" "[I", Cond.fieldLink RX0 24 "HingeNumbers$Builder" "depths" "[I", Cond.methodLink RX0 83 Lib.Math.max.name, Cond.static Lib.Math.max.name, Cond.initialized "java/lang/Math", Cond.code Lib.Math.max.name Lib.Math.max.code 2 (some .int), Cond.fieldLink RX0 40 "HingeNumbers$Builder" "loose" "LHingeNumbers$NumberStack;", Cond.methodLink RX0 113 Lib.Math.min.name, Cond.static Lib.Math.min.name, Cond.code Lib.Math.min.name Lib.Math.min.code 2 (some .int), Cond.static yX10_put, Cond.initialized RX10, Cond.code yX10_put cX10_put 3 none, Cond.static yX10_at, Cond.code yX10_at cX10_at 2 (some .int)]
def wsX0_addX_r2 : List Cond := [Cond.methodLink RX0 50 yX3_push, Cond.instanceMethod yX3_push, Cond.selects RX3 yX3_push yX3_push, Cond.initialized RX3, Cond.code yX3_push cX3_push 2 none, Cond.fieldLink RX3 15 "HingeNumbers$NumberStack" "count" "I", Cond.fieldLink RX3 9 "HingeNumbers$NumberStack" "items" "[I", Cond.methodLink RX0 58 yX0_finishAtom, Cond.instanceMethod yX0_finishAtom, Cond.selects RX0 yX0_finishAtom yX0_finishAtom, Cond.code yX0_finishAtom cX0_finishAtom 2 none, Cond.fieldLink RX0 44 "HingeNumbers$Builder" "waiting" "LHingeNumbers$NumberStack;", Cond.methodLink RX0 107 yX3_count, Cond.instanceMethod yX3_count, Cond.selects RX3 yX3_count yX3_count, Cond.code yX3_count cX3_count 1 (some .int), Cond.methodLink RX0 110 yX3_top, Cond.instanceMethod yX3_top, Cond.selects RX3 yX3_top yX3_top, Cond.code yX3_top cX3_top 1 (some .int), Cond.methodLink RX0 69 yX3_pop, Cond.instanceMethod yX3_pop, Cond.selects RX3 yX3_pop yX3_pop, Cond.code yX3_pop cX3_pop 1 (some .int)]
def wsX0_addX : List Cond := .code yX0_addX cX0_addX 1 none :: ((wsX0_addX_r1 ++ wsX0_addX_r2) ++ wsX00 ++ wsX30)
def wsX0_addNumber_r1 : List Cond := [Cond.fieldLink RX0 30 "HingeNumbers$Builder" "size" "I", Cond.methodLink RX0 54 yX0_addNode, Cond.instanceMethod yX0_addNode, Cond.selects RX0 yX0_addNode yX0_addNode, Cond.initialized RX0, Cond.code yX0_addNode cX0_addNode 5 none, Cond.fieldLink RX0 9 "HingeNumbers$Builder" "kinds" "[I", Cond.fieldLink RX0 15 "HingeNumbers$Builder" "numbers" "[I", Cond.fieldLink RX0 18 "HingeNumbers$Builder" "lefts" "[I", Cond.fieldLink RX0 21 "HingeNumbers$Builder" "rights" "[I", Cond.fieldLink RX0 24 "HingeNumbers$Builder" "depths" "[I", Cond.methodLink RX0 83 Lib.Math.max.name, Cond.static Lib.Math.max.name, Cond.initialized "java/lang/Math", Cond.code Lib.Math.max.name Lib.Math.max.code 2 (some .int), Cond.fieldLink RX0 40 "HingeNumbers$Builder" "loose" "LHingeNumbers$NumberStack;", Cond.methodLink RX0 113 Lib.Math.min.name, Cond.static Lib.Math.min.name, Cond.code Lib.Math.min.name Lib.Math.min.code 2 (some .int), Cond.static yX10_put, Cond.initialized RX10, Cond.code yX10_put cX10_put 3 none, Cond.static yX10_at, Cond.code yX10_at cX10_at 2 (some .int)]
def wsX0_addNumber_r2 : List Cond := [Cond.methodLink RX0 50 yX3_push, Cond.instanceMethod yX3_push, Cond.selects RX3 yX3_push yX3_push, Cond.initialized RX3, Cond.code yX3_push cX3_push 2 none, Cond.fieldLink RX3 15 "HingeNumbers$NumberStack" "count" "I", Cond.fieldLink RX3 9 "HingeNumbers$NumberStack" "items" "[I", Cond.methodLink RX0 58 yX0_finishAtom, Cond.instanceMethod yX0_finishAtom, Cond.selects RX0 yX0_finishAtom yX0_finishAtom, Cond.code yX0_finishAtom cX0_finishAtom 2 none, Cond.fieldLink RX0 44 "HingeNumbers$Builder" "waiting" "LHingeNumbers$NumberStack;", Cond.methodLink RX0 107 yX3_count, Cond.instanceMethod yX3_count, Cond.selects RX3 yX3_count yX3_count, Cond.code yX3_count cX3_count 1 (some .int), Cond.methodLink RX0 110 yX3_top, Cond.instanceMethod yX3_top, Cond.selects RX3 yX3_top yX3_top, Cond.code yX3_top cX3_top 1 (some .int), Cond.methodLink RX0 69 yX3_pop, Cond.instanceMethod yX3_pop, Cond.selects RX3 yX3_pop yX3_pop, Cond.code yX3_pop cX3_pop 1 (some .int)]
def wsX0_addNumber : List Cond := .code yX0_addNumber cX0_addNumber 3 (some .int) :: ((wsX0_addNumber_r1 ++ wsX0_addNumber_r2) ++ wsX00 ++ wsX30)
def wsX0_numberOf : List Cond := .code yX0_numberOf cX0_numberOf 2 (some .int) :: ([.fieldLink RX0 15 "HingeNumbers$Builder" "numbers" "[I", .static yX10_at, .initialized RX10, .code yX10_at cX10_at 2 (some .int)] ++ wsX00)
def wsX0_addDigit : List Cond := .code yX0_addDigit cX0_addDigit 3 none :: ([.fieldLink RX0 15 "HingeNumbers$Builder" "numbers" "[I", .static yX10_at, .initialized RX10, .code yX10_at cX10_at 2 (some .int), .static yX10_put, .code yX10_put cX10_put 3 none] ++ wsX00)
def wsX0_addPower_r1 : List Cond := [Cond.fieldLink RX0 40 "HingeNumbers$Builder" "loose" "LHingeNumbers$NumberStack;", Cond.methodLink RX0 69 yX3_pop, Cond.instanceMethod yX3_pop, Cond.selects RX3 yX3_pop yX3_pop, Cond.initialized RX3, Cond.code yX3_pop cX3_pop 1 (some .int), Cond.fieldLink RX3 15 "HingeNumbers$NumberStack" "count" "I", Cond.fieldLink RX3 9 "HingeNumbers$NumberStack" "items" "[I", Cond.methodLink RX0 54 yX0_addNode, Cond.instanceMethod yX0_addNode, Cond.selects RX0 yX0_addNode yX0_addNode, Cond.initialized RX0, Cond.code yX0_addNode cX0_addNode 5 none, Cond.fieldLink RX0 9 "HingeNumbers$Builder" "kinds" "[I", Cond.fieldLink RX0 30 "HingeNumbers$Builder" "size" "I", Cond.fieldLink RX0 15 "HingeNumbers$Builder" "numbers" "[I", Cond.fieldLink RX0 18 "HingeNumbers$Builder" "lefts" "[I", Cond.fieldLink RX0 21 "HingeNumbers$Builder" "rights" "[I", Cond.fieldLink RX0 24 "HingeNumbers$Builder" "depths" "[I", Cond.methodLink RX0 83 Lib.Math.max.name, Cond.static Lib.Math.max.name, Cond.initialized "java/lang/Math", Cond.code Lib.Math.max.name Lib.Math.max.code 2 (some .int), Cond.methodLink RX0 113 Lib.Math.min.name]
def wsX0_addPower_r2 : List Cond := [Cond.static Lib.Math.min.name, Cond.code Lib.Math.min.name Lib.Math.min.code 2 (some .int), Cond.static yX10_put, Cond.initialized RX10, Cond.code yX10_put cX10_put 3 none, Cond.static yX10_at, Cond.code yX10_at cX10_at 2 (some .int), Cond.methodLink RX0 50 yX3_push, Cond.instanceMethod yX3_push, Cond.selects RX3 yX3_push yX3_push, Cond.code yX3_push cX3_push 2 none]
def wsX0_addPower : List Cond := .code yX0_addPower cX0_addPower 2 none :: ((wsX0_addPower_r1 ++ wsX0_addPower_r2) ++ wsX00 ++ wsX30)
def wsX0_levelOf : List Cond := .code yX0_levelOf cX0_levelOf 1 (some .int) :: ([])
def wsX0_joinFrom_r1 : List Cond := [Cond.fieldLink RX0 44 "HingeNumbers$Builder" "waiting" "LHingeNumbers$NumberStack;", Cond.fieldLink RX0 40 "HingeNumbers$Builder" "loose" "LHingeNumbers$NumberStack;", Cond.methodLink RX0 107 yX3_count, Cond.instanceMethod yX3_count, Cond.selects RX3 yX3_count yX3_count, Cond.initialized RX3, Cond.code yX3_count cX3_count 1 (some .int), Cond.fieldLink RX3 15 "HingeNumbers$NumberStack" "count" "I", Cond.methodLink RX0 110 yX3_top, Cond.instanceMethod yX3_top, Cond.selects RX3 yX3_top yX3_top, Cond.code yX3_top cX3_top 1 (some .int), Cond.fieldLink RX3 9 "HingeNumbers$NumberStack" "items" "[I", Cond.methodLink RX0 73 yX0_levelOf, Cond.static yX0_levelOf, Cond.initialized RX0, Cond.code yX0_levelOf cX0_levelOf 1 (some .int), Cond.methodLink RX0 69 yX3_pop, Cond.instanceMethod yX3_pop, Cond.selects RX3 yX3_pop yX3_pop, Cond.code yX3_pop cX3_pop 1 (some .int), Cond.methodLink RX0 54 yX0_addNode, Cond.instanceMethod yX0_addNode, Cond.selects RX0 yX0_addNode yX0_addNode]
def wsX0_joinFrom_r2 : List Cond := [Cond.code yX0_addNode cX0_addNode 5 none, Cond.fieldLink RX0 9 "HingeNumbers$Builder" "kinds" "[I", Cond.fieldLink RX0 30 "HingeNumbers$Builder" "size" "I", Cond.fieldLink RX0 15 "HingeNumbers$Builder" "numbers" "[I", Cond.fieldLink RX0 18 "HingeNumbers$Builder" "lefts" "[I", Cond.fieldLink RX0 21 "HingeNumbers$Builder" "rights" "[I", Cond.fieldLink RX0 24 "HingeNumbers$Builder" "depths" "[I", Cond.methodLink RX0 83 Lib.Math.max.name, Cond.static Lib.Math.max.name, Cond.initialized "java/lang/Math", Cond.code Lib.Math.max.name Lib.Math.max.code 2 (some .int), Cond.methodLink RX0 113 Lib.Math.min.name, Cond.static Lib.Math.min.name, Cond.code Lib.Math.min.name Lib.Math.min.code 2 (some .int), Cond.static yX10_put, Cond.initialized RX10, Cond.code yX10_put cX10_put 3 none, Cond.static yX10_at, Cond.code yX10_at cX10_at 2 (some .int), Cond.methodLink RX0 50 yX3_push, Cond.instanceMethod yX3_push, Cond.selects RX3 yX3_push yX3_push, Cond.code yX3_push cX3_push 2 none]
def wsX0_joinFrom : List Cond := .code yX0_joinFrom cX0_joinFrom 4 none :: ((wsX0_joinFrom_r1 ++ wsX0_joinFrom_r2) ++ wsX00 ++ wsX30)
def wsX0_addSign_r1 : List Cond := [Cond.fieldLink RX0 44 "HingeNumbers$Builder" "waiting" "LHingeNumbers$NumberStack;", Cond.methodLink RX0 73 yX0_levelOf, Cond.static yX0_levelOf, Cond.initialized RX0, Cond.code yX0_levelOf cX0_levelOf 1 (some .int), Cond.methodLink RX0 77 yX0_joinFrom, Cond.instanceMethod yX0_joinFrom, Cond.selects RX0 yX0_joinFrom yX0_joinFrom, Cond.code yX0_joinFrom cX0_joinFrom 4 none, Cond.fieldLink RX0 40 "HingeNumbers$Builder" "loose" "LHingeNumbers$NumberStack;", Cond.methodLink RX0 107 yX3_count, Cond.instanceMethod yX3_count, Cond.selects RX3 yX3_count yX3_count, Cond.initialized RX3, Cond.code yX3_count cX3_count 1 (some .int), Cond.fieldLink RX3 15 "HingeNumbers$NumberStack" "count" "I", Cond.methodLink RX0 110 yX3_top, Cond.instanceMethod yX3_top, Cond.selects RX3 yX3_top yX3_top, Cond.code yX3_top cX3_top 1 (some .int), Cond.fieldLink RX3 9 "HingeNumbers$NumberStack" "items" "[I", Cond.methodLink RX0 69 yX3_pop, Cond.instanceMethod yX3_pop, Cond.selects RX3 yX3_pop yX3_pop]
def wsX0_addSign_r2 : List Cond := [Cond.code yX3_pop cX3_pop 1 (some .int), Cond.methodLink RX0 54 yX0_addNode, Cond.instanceMethod yX0_addNode, Cond.selects RX0 yX0_addNode yX0_addNode, Cond.code yX0_addNode cX0_addNode 5 none, Cond.fieldLink RX0 9 "HingeNumbers$Builder" "kinds" "[I", Cond.fieldLink RX0 30 "HingeNumbers$Builder" "size" "I", Cond.fieldLink RX0 15 "HingeNumbers$Builder" "numbers" "[I", Cond.fieldLink RX0 18 "HingeNumbers$Builder" "lefts" "[I", Cond.fieldLink RX0 21 "HingeNumbers$Builder" "rights" "[I", Cond.fieldLink RX0 24 "HingeNumbers$Builder" "depths" "[I", Cond.methodLink RX0 83 Lib.Math.max.name, Cond.static Lib.Math.max.name, Cond.initialized "java/lang/Math", Cond.code Lib.Math.max.name Lib.Math.max.code 2 (some .int), Cond.methodLink RX0 113 Lib.Math.min.name, Cond.static Lib.Math.min.name, Cond.code Lib.Math.min.name Lib.Math.min.code 2 (some .int), Cond.static yX10_put, Cond.initialized RX10, Cond.code yX10_put cX10_put 3 none, Cond.static yX10_at, Cond.code yX10_at cX10_at 2 (some .int), Cond.methodLink RX0 50 yX3_push]
def wsX0_addSign_r3 : List Cond := [Cond.instanceMethod yX3_push, Cond.selects RX3 yX3_push yX3_push, Cond.code yX3_push cX3_push 2 none]
def wsX0_addSign : List Cond := .code yX0_addSign cX0_addSign 2 none :: ((wsX0_addSign_r1 ++ (wsX0_addSign_r2 ++ wsX0_addSign_r3)) ++ wsX00 ++ wsX30)
def wsX10_functionOf : List Cond := .code yX10_functionOf cX10_functionOf 1 (some .int) :: ([])
def wsX0_close_r1 : List Cond := [Cond.fieldLink RX0 44 "HingeNumbers$Builder" "waiting" "LHingeNumbers$NumberStack;", Cond.fieldLink RX0 40 "HingeNumbers$Builder" "loose" "LHingeNumbers$NumberStack;", Cond.fieldLink RX0 34 "HingeNumbers$Builder" "leastDefinable" "I", Cond.methodLink RX0 83 Lib.Math.max.name, Cond.static Lib.Math.max.name, Cond.initialized "java/lang/Math", Cond.code Lib.Math.max.name Lib.Math.max.code 2 (some .int), Cond.methodLink RX0 77 yX0_joinFrom, Cond.instanceMethod yX0_joinFrom, Cond.selects RX0 yX0_joinFrom yX0_joinFrom, Cond.initialized RX0, Cond.code yX0_joinFrom cX0_joinFrom 4 none, Cond.methodLink RX0 107 yX3_count, Cond.instanceMethod yX3_count, Cond.selects RX3 yX3_count yX3_count, Cond.initialized RX3, Cond.code yX3_count cX3_count 1 (some .int), Cond.fieldLink RX3 15 "HingeNumbers$NumberStack" "count" "I", Cond.methodLink RX0 110 yX3_top, Cond.instanceMethod yX3_top, Cond.selects RX3 yX3_top yX3_top, Cond.code yX3_top cX3_top 1 (some .int), Cond.fieldLink RX3 9 "HingeNumbers$NumberStack" "items" "[I", Cond.methodLink RX0 73 yX0_levelOf]
def wsX0_close_r2 : List Cond := [Cond.static yX0_levelOf, Cond.code yX0_levelOf cX0_levelOf 1 (some .int), Cond.methodLink RX0 69 yX3_pop, Cond.instanceMethod yX3_pop, Cond.selects RX3 yX3_pop yX3_pop, Cond.code yX3_pop cX3_pop 1 (some .int), Cond.methodLink RX0 54 yX0_addNode, Cond.instanceMethod yX0_addNode, Cond.selects RX0 yX0_addNode yX0_addNode, Cond.code yX0_addNode cX0_addNode 5 none, Cond.fieldLink RX0 9 "HingeNumbers$Builder" "kinds" "[I", Cond.fieldLink RX0 30 "HingeNumbers$Builder" "size" "I", Cond.fieldLink RX0 15 "HingeNumbers$Builder" "numbers" "[I", Cond.fieldLink RX0 18 "HingeNumbers$Builder" "lefts" "[I", Cond.fieldLink RX0 21 "HingeNumbers$Builder" "rights" "[I", Cond.fieldLink RX0 24 "HingeNumbers$Builder" "depths" "[I", Cond.methodLink RX0 113 Lib.Math.min.name, Cond.static Lib.Math.min.name, Cond.code Lib.Math.min.name Lib.Math.min.code 2 (some .int), Cond.static yX10_put, Cond.initialized RX10, Cond.code yX10_put cX10_put 3 none, Cond.static yX10_at, Cond.code yX10_at cX10_at 2 (some .int)]
def wsX0_close_r3 : List Cond := [Cond.methodLink RX0 50 yX3_push, Cond.instanceMethod yX3_push, Cond.selects RX3 yX3_push yX3_push, Cond.code yX3_push cX3_push 2 none, Cond.static yX10_functionOf, Cond.code yX10_functionOf cX10_functionOf 1 (some .int), Cond.methodLink RX0 58 yX0_finishAtom, Cond.instanceMethod yX0_finishAtom, Cond.selects RX0 yX0_finishAtom yX0_finishAtom, Cond.code yX0_finishAtom cX0_finishAtom 2 none]
def wsX0_close : List Cond := .code yX0_close cX0_close 2 none :: ((wsX0_close_r1 ++ (wsX0_close_r2 ++ wsX0_close_r3)) ++ wsX00 ++ wsX30)
def wsX0_finish_r1 : List Cond := [Cond.methodLink RX0 77 yX0_joinFrom, Cond.instanceMethod yX0_joinFrom, Cond.selects RX0 yX0_joinFrom yX0_joinFrom, Cond.initialized RX0, Cond.code yX0_joinFrom cX0_joinFrom 4 none, Cond.fieldLink RX0 44 "HingeNumbers$Builder" "waiting" "LHingeNumbers$NumberStack;", Cond.fieldLink RX0 40 "HingeNumbers$Builder" "loose" "LHingeNumbers$NumberStack;", Cond.methodLink RX0 107 yX3_count, Cond.instanceMethod yX3_count, Cond.selects RX3 yX3_count yX3_count, Cond.initialized RX3, Cond.code yX3_count cX3_count 1 (some .int), Cond.fieldLink RX3 15 "HingeNumbers$NumberStack" "count" "I", Cond.methodLink RX0 110 yX3_top, Cond.instanceMethod yX3_top, Cond.selects RX3 yX3_top yX3_top, Cond.code yX3_top cX3_top 1 (some .int), Cond.fieldLink RX3 9 "HingeNumbers$NumberStack" "items" "[I", Cond.methodLink RX0 73 yX0_levelOf, Cond.static yX0_levelOf, Cond.code yX0_levelOf cX0_levelOf 1 (some .int), Cond.methodLink RX0 69 yX3_pop, Cond.instanceMethod yX3_pop, Cond.selects RX3 yX3_pop yX3_pop]
def wsX0_finish_r2 : List Cond := [Cond.code yX3_pop cX3_pop 1 (some .int), Cond.methodLink RX0 54 yX0_addNode, Cond.instanceMethod yX0_addNode, Cond.selects RX0 yX0_addNode yX0_addNode, Cond.code yX0_addNode cX0_addNode 5 none, Cond.fieldLink RX0 9 "HingeNumbers$Builder" "kinds" "[I", Cond.fieldLink RX0 30 "HingeNumbers$Builder" "size" "I", Cond.fieldLink RX0 15 "HingeNumbers$Builder" "numbers" "[I", Cond.fieldLink RX0 18 "HingeNumbers$Builder" "lefts" "[I", Cond.fieldLink RX0 21 "HingeNumbers$Builder" "rights" "[I", Cond.fieldLink RX0 24 "HingeNumbers$Builder" "depths" "[I", Cond.methodLink RX0 83 Lib.Math.max.name, Cond.static Lib.Math.max.name, Cond.initialized "java/lang/Math", Cond.code Lib.Math.max.name Lib.Math.max.code 2 (some .int), Cond.methodLink RX0 113 Lib.Math.min.name, Cond.static Lib.Math.min.name, Cond.code Lib.Math.min.name Lib.Math.min.code 2 (some .int), Cond.static yX10_put, Cond.initialized RX10, Cond.code yX10_put cX10_put 3 none, Cond.static yX10_at, Cond.code yX10_at cX10_at 2 (some .int), Cond.methodLink RX0 50 yX3_push]
def wsX0_finish_r3 : List Cond := [Cond.instanceMethod yX3_push, Cond.selects RX3 yX3_push yX3_push, Cond.code yX3_push cX3_push 2 none]
def wsX0_finish : List Cond := .code yX0_finish cX0_finish 1 none :: ((wsX0_finish_r1 ++ (wsX0_finish_r2 ++ wsX0_finish_r3)) ++ wsX00 ++ wsX30)
def wsJ7_copyOf_59c91 : List Cond := .code yJ7_copyOf_59c91 cJ7_copyOf_59c91 3 (some (.array .int)) :: ([.methodLink RJ7 316 ⟨"[I", "clone", "()Ljava/lang/Object;"⟩, .sameMethod "[I" "java/lang/Object" "clone" "()Ljava/lang/Object;", .native ⟨"java/lang/Object", "clone", "()Ljava/lang/Object;"⟩, .instanceMethod ⟨"java/lang/Object", "clone", "()Ljava/lang/Object;"⟩, .selects "[I" ⟨"[I", "clone", "()Ljava/lang/Object;"⟩ ⟨"java/lang/Object", "clone", "()Ljava/lang/Object;"⟩, .classLink RJ7 317 "[I", .arrayClass .int, .methodLink RJ7 304 Lib.Math.min.name, .static Lib.Math.min.name, .initialized "java/lang/Math", .code Lib.Math.min.name Lib.Math.min.code 2 (some .int), .methodLink RJ7 150 arraycopyName, .native arraycopyName, .static arraycopyName, .initialized "java/lang/System"])
def wsX0_filled : List Cond := .code yX0_filled cX0_filled 2 (some (.array .int)) :: ([.fieldLink RX0 30 "HingeNumbers$Builder" "size" "I", .methodLink RX0 83 Lib.Math.max.name, .static Lib.Math.max.name, .initialized "java/lang/Math", .code Lib.Math.max.name Lib.Math.max.code 2 (some .int), .methodLink RX0 101 yJ7_copyOf_59c91, .static yJ7_copyOf_59c91, .initialized RJ7, .code yJ7_copyOf_59c91 cJ7_copyOf_59c91 3 (some (.array .int)), .methodLink RJ7 316 ⟨"[I", "clone", "()Ljava/lang/Object;"⟩, .sameMethod "[I" "java/lang/Object" "clone" "()Ljava/lang/Object;", .native ⟨"java/lang/Object", "clone", "()Ljava/lang/Object;"⟩, .instanceMethod ⟨"java/lang/Object", "clone", "()Ljava/lang/Object;"⟩, .selects "[I" ⟨"[I", "clone", "()Ljava/lang/Object;"⟩ ⟨"java/lang/Object", "clone", "()Ljava/lang/Object;"⟩, .classLink RJ7 317 "[I", .arrayClass .int, .methodLink RJ7 304 Lib.Math.min.name, .static Lib.Math.min.name, .code Lib.Math.min.name Lib.Math.min.code 2 (some .int), .methodLink RJ7 150 arraycopyName, .native arraycopyName, .static arraycopyName, .initialized "java/lang/System"] ++ wsX00)
def wsX0_areAlike : List Cond := .code yX0_areAlike cX0_areAlike 3 (some .boolean) :: ([.fieldLink RX0 9 "HingeNumbers$Builder" "kinds" "[I", .fieldLink RX0 15 "HingeNumbers$Builder" "numbers" "[I", .fieldLink RX0 27 "HingeNumbers$Builder" "likes" "[I", .fieldLink RX0 18 "HingeNumbers$Builder" "lefts" "[I", .fieldLink RX0 21 "HingeNumbers$Builder" "rights" "[I", .static yX10_at, .initialized RX10, .code yX10_at cX10_at 2 (some .int)] ++ wsX00)
def wsX0_firstLike : List Cond := .code yX0_firstLike cX0_firstLike 3 (some .int) :: ([.methodLink RX0 119 yX0_areAlike, .instanceMethod yX0_areAlike, .selects RX0 yX0_areAlike yX0_areAlike, .initialized RX0, .code yX0_areAlike cX0_areAlike 3 (some .boolean), .fieldLink RX0 9 "HingeNumbers$Builder" "kinds" "[I", .fieldLink RX0 15 "HingeNumbers$Builder" "numbers" "[I", .fieldLink RX0 27 "HingeNumbers$Builder" "likes" "[I", .fieldLink RX0 18 "HingeNumbers$Builder" "lefts" "[I", .fieldLink RX0 21 "HingeNumbers$Builder" "rights" "[I", .static yX10_at, .initialized RX10, .code yX10_at cX10_at 2 (some .int)] ++ wsX00)
def wsX0_countUnlike : List Cond := .code yX0_countUnlike cX0_countUnlike 4 (some .int) :: ([.fieldLink RX0 30 "HingeNumbers$Builder" "size" "I", .fieldLink RX0 27 "HingeNumbers$Builder" "likes" "[I", .methodLink RX0 116 yX0_firstLike, .instanceMethod yX0_firstLike, .selects RX0 yX0_firstLike yX0_firstLike, .initialized RX0, .code yX0_firstLike cX0_firstLike 3 (some .int), .methodLink RX0 119 yX0_areAlike, .instanceMethod yX0_areAlike, .selects RX0 yX0_areAlike yX0_areAlike, .code yX0_areAlike cX0_areAlike 3 (some .boolean), .fieldLink RX0 9 "HingeNumbers$Builder" "kinds" "[I", .fieldLink RX0 15 "HingeNumbers$Builder" "numbers" "[I", .fieldLink RX0 18 "HingeNumbers$Builder" "lefts" "[I", .fieldLink RX0 21 "HingeNumbers$Builder" "rights" "[I", .static yX10_at, .initialized RX10, .code yX10_at cX10_at 2 (some .int), .static yX10_put, .code yX10_put cX10_put 3 none] ++ wsX00)
def wsX1_init : List Cond := .code yX1_init cX1_init 8 none :: ([.methodLink RX1 3 objectInit, .instanceMethod objectInit, .code objectInit ⟨#[0xb1]⟩ 1 none, .fieldLink RX1 9 "HingeNumbers$Expression" "kinds" "[I", .fieldLink RX1 15 "HingeNumbers$Expression" "numbers" "[I", .fieldLink RX1 18 "HingeNumbers$Expression" "lefts" "[I", .fieldLink RX1 21 "HingeNumbers$Expression" "rights" "[I", .fieldLink RX1 24 "HingeNumbers$Expression" "depth" "I", .fieldLink RX1 28 "HingeNumbers$Expression" "unlike" "I", .fieldLink RX1 31 "HingeNumbers$Expression" "leastDefinable" "I"] ++ wsX10)
def wsX0_toExpression_r1 : List Cond := [Cond.classLink RX0 89 RX1, Cond.instantiable RX1 7, Cond.initialized RX1, Cond.fieldLink RX0 9 "HingeNumbers$Builder" "kinds" "[I", Cond.fieldLink RX0 15 "HingeNumbers$Builder" "numbers" "[I", Cond.fieldLink RX0 18 "HingeNumbers$Builder" "lefts" "[I", Cond.fieldLink RX0 21 "HingeNumbers$Builder" "rights" "[I", Cond.fieldLink RX0 24 "HingeNumbers$Builder" "depths" "[I", Cond.fieldLink RX0 30 "HingeNumbers$Builder" "size" "I", Cond.fieldLink RX0 34 "HingeNumbers$Builder" "leastDefinable" "I", Cond.methodLink RX0 91 yX0_filled, Cond.instanceMethod yX0_filled, Cond.selects RX0 yX0_filled yX0_filled, Cond.initialized RX0, Cond.code yX0_filled cX0_filled 2 (some (.array .int)), Cond.methodLink RX0 83 Lib.Math.max.name, Cond.static Lib.Math.max.name, Cond.initialized "java/lang/Math", Cond.code Lib.Math.max.name Lib.Math.max.code 2 (some .int), Cond.methodLink RX0 101 yJ7_copyOf_59c91, Cond.static yJ7_copyOf_59c91, Cond.initialized RJ7, Cond.code yJ7_copyOf_59c91 cJ7_copyOf_59c91 3 (some (.array .int)), Cond.methodLink RJ7 316 ⟨"[I", "clone", "()Ljava/lang/Object;"⟩]
def wsX0_toExpression_r2 : List Cond := [Cond.sameMethod "[I" "java/lang/Object" "clone" "()Ljava/lang/Object;", Cond.native ⟨"java/lang/Object", "clone", "()Ljava/lang/Object;"⟩, Cond.instanceMethod ⟨"java/lang/Object", "clone", "()Ljava/lang/Object;"⟩, Cond.selects "[I" ⟨"[I", "clone", "()Ljava/lang/Object;"⟩ ⟨"java/lang/Object", "clone", "()Ljava/lang/Object;"⟩, Cond.classLink RJ7 317 "[I", Cond.arrayClass .int, Cond.methodLink RJ7 304 Lib.Math.min.name, Cond.static Lib.Math.min.name, Cond.code Lib.Math.min.name Lib.Math.min.code 2 (some .int), Cond.methodLink RJ7 150 arraycopyName, Cond.native arraycopyName, Cond.static arraycopyName, Cond.initialized "java/lang/System", Cond.static yX10_at, Cond.initialized RX10, Cond.code yX10_at cX10_at 2 (some .int), Cond.methodLink RX0 95 yX0_countUnlike, Cond.instanceMethod yX0_countUnlike, Cond.selects RX0 yX0_countUnlike yX0_countUnlike, Cond.code yX0_countUnlike cX0_countUnlike 4 (some .int), Cond.fieldLink RX0 27 "HingeNumbers$Builder" "likes" "[I", Cond.methodLink RX0 116 yX0_firstLike, Cond.instanceMethod yX0_firstLike, Cond.selects RX0 yX0_firstLike yX0_firstLike]
def wsX0_toExpression_r3 : List Cond := [Cond.code yX0_firstLike cX0_firstLike 3 (some .int), Cond.methodLink RX0 119 yX0_areAlike, Cond.instanceMethod yX0_areAlike, Cond.selects RX0 yX0_areAlike yX0_areAlike, Cond.code yX0_areAlike cX0_areAlike 3 (some .boolean), Cond.static yX10_put, Cond.code yX10_put cX10_put 3 none, Cond.methodLink RX0 98 yX1_init, Cond.instanceMethod yX1_init, Cond.code yX1_init cX1_init 8 none, Cond.methodLink RX1 3 objectInit, Cond.instanceMethod objectInit, Cond.code objectInit ⟨#[0xb1]⟩ 1 none, Cond.fieldLink RX1 9 "HingeNumbers$Expression" "kinds" "[I", Cond.fieldLink RX1 15 "HingeNumbers$Expression" "numbers" "[I", Cond.fieldLink RX1 18 "HingeNumbers$Expression" "lefts" "[I", Cond.fieldLink RX1 21 "HingeNumbers$Expression" "rights" "[I", Cond.fieldLink RX1 24 "HingeNumbers$Expression" "depth" "I", Cond.fieldLink RX1 28 "HingeNumbers$Expression" "unlike" "I", Cond.fieldLink RX1 31 "HingeNumbers$Expression" "leastDefinable" "I"]
def wsX0_toExpression : List Cond := .code yX0_toExpression cX0_toExpression 1 (some (.object "HingeNumbers$Expression")) :: ((wsX0_toExpression_r1 ++ (wsX0_toExpression_r2 ++ wsX0_toExpression_r3)) ++ wsX10 ++ wsX00)
def wsX1_ofX : List Cond := .code yX1_ofX cX1_ofX 0 (some (.object "HingeNumbers$Expression")) :: ([.classLink RX1 10 RX1, .instantiable RX1 7, .initialized RX1, .arrayClass .int, .methodLink RX1 34 yX1_init, .instanceMethod yX1_init, .code yX1_init cX1_init 8 none, .methodLink RX1 3 objectInit, .instanceMethod objectInit, .code objectInit ⟨#[0xb1]⟩ 1 none, .fieldLink RX1 9 "HingeNumbers$Expression" "kinds" "[I", .fieldLink RX1 15 "HingeNumbers$Expression" "numbers" "[I", .fieldLink RX1 18 "HingeNumbers$Expression" "lefts" "[I", .fieldLink RX1 21 "HingeNumbers$Expression" "rights" "[I", .fieldLink RX1 24 "HingeNumbers$Expression" "depth" "I", .fieldLink RX1 28 "HingeNumbers$Expression" "unlike" "I", .fieldLink RX1 31 "HingeNumbers$Expression" "leastDefinable" "I"] ++ wsX10)
def wsX1_size : List Cond := .code yX1_size cX1_size 1 (some .int) :: ([.fieldLink RX1 9 "HingeNumbers$Expression" "kinds" "[I"] ++ wsX10)
def wsX1_unlike : List Cond := .code yX1_unlike cX1_unlike 1 (some .int) :: ([.fieldLink RX1 28 "HingeNumbers$Expression" "unlike" "I"] ++ wsX10)
def wsX1_kind : List Cond := .code yX1_kind cX1_kind 2 (some .int) :: ([.fieldLink RX1 9 "HingeNumbers$Expression" "kinds" "[I", .static yX10_at, .initialized RX10, .code yX10_at cX10_at 2 (some .int)] ++ wsX10)
def wsX1_number : List Cond := .code yX1_number cX1_number 2 (some .int) :: ([.fieldLink RX1 15 "HingeNumbers$Expression" "numbers" "[I", .static yX10_at, .initialized RX10, .code yX10_at cX10_at 2 (some .int)] ++ wsX10)
def wsX1_left : List Cond := .code yX1_left cX1_left 2 (some .int) :: ([.fieldLink RX1 18 "HingeNumbers$Expression" "lefts" "[I"] ++ wsX10)
def wsX1_right : List Cond := .code yX1_right cX1_right 2 (some .int) :: ([.fieldLink RX1 21 "HingeNumbers$Expression" "rights" "[I"] ++ wsX10)
def wsX2_init : List Cond := .code yX2_init cX2_init 1 none :: ([.methodLink RX2 3 objectInit, .instanceMethod objectInit, .code objectInit ⟨#[0xb1]⟩ 1 none, .classLink RX2 9 RX7, .fieldLink RX2 11 "HingeNumbers$History" "states" "[LHingeNumbers$State;", .fieldLink RX2 17 "HingeNumbers$History" "count" "I"] ++ wsX20)
def wsX2_forgetOldest : List Cond := .code yX2_forgetOldest cX2_forgetOldest 2 none :: ([.fieldLink RX2 11 "HingeNumbers$History" "states" "[LHingeNumbers$State;", .fieldLink RX2 17 "HingeNumbers$History" "count" "I"] ++ wsX20)
def wsX2_record : List Cond := .code yX2_record cX2_record 2 none :: ([.fieldLink RX2 17 "HingeNumbers$History" "count" "I", .fieldLink RX2 11 "HingeNumbers$History" "states" "[LHingeNumbers$State;", .methodLink RX2 21 yX2_forgetOldest, .instanceMethod yX2_forgetOldest, .selects RX2 yX2_forgetOldest yX2_forgetOldest, .initialized RX2, .code yX2_forgetOldest cX2_forgetOldest 2 none] ++ wsX20)
def wsX4_init_r1 : List Cond := [Cond.methodLink RX4 3 objectInit, Cond.instanceMethod objectInit, Cond.code objectInit ⟨#[0xb1]⟩ 1 none, Cond.classLink RX4 9 RX0, Cond.instantiable RX0 10, Cond.initialized RX0, Cond.fieldLink RX4 12 "HingeNumbers$Parser" "builder" "LHingeNumbers$Builder;", Cond.fieldLink RX4 18 "HingeNumbers$Parser" "awaited" "I", Cond.fieldLink RX4 22 "HingeNumbers$Parser" "open" "I", Cond.fieldLink RX4 25 "HingeNumbers$Parser" "numberNode" "I", Cond.instanceMethod yX0_init, Cond.code yX0_init cX0_init 1 none, Cond.methodLink RX0 3 objectInit, Cond.arrayClass .int, Cond.fieldLink RX0 9 "HingeNumbers$Builder" "kinds" "[I", Cond.fieldLink RX0 15 "HingeNumbers$Builder" "numbers" "[I", Cond.fieldLink RX0 18 "HingeNumbers$Builder" "lefts" "[I", Cond.fieldLink RX0 21 "HingeNumbers$Builder" "rights" "[I", Cond.fieldLink RX0 24 "HingeNumbers$Builder" "depths" "[I", Cond.fieldLink RX0 27 "HingeNumbers$Builder" "likes" "[I", Cond.fieldLink RX0 30 "HingeNumbers$Builder" "size" "I", Cond.fieldLink RX0 34 "HingeNumbers$Builder" "leastDefinable" "I", Cond.classLink RX0 37 RX3, Cond.instantiable RX3 2]
def wsX4_init_r2 : List Cond := [Cond.initialized RX3, Cond.fieldLink RX0 40 "HingeNumbers$Builder" "loose" "LHingeNumbers$NumberStack;", Cond.fieldLink RX0 44 "HingeNumbers$Builder" "waiting" "LHingeNumbers$NumberStack;", Cond.instanceMethod yX3_init, Cond.code yX3_init cX3_init 1 none, Cond.methodLink RX3 3 objectInit, Cond.fieldLink RX3 9 "HingeNumbers$NumberStack" "items" "[I", Cond.fieldLink RX3 15 "HingeNumbers$NumberStack" "count" "I"]
def wsX4_init : List Cond := .code yX4_init cX4_init 1 none :: ((wsX4_init_r1 ++ wsX4_init_r2) ++ wsX00 ++ wsX40 ++ wsX30)
def wsX9_length : List Cond := .code yX9_length cX9_length 1 (some .int) :: ([.fieldLink RX9 15 "HingeNumbers$Text" "length" "I"] ++ wsX90)
def wsX9_characterAt : List Cond := .code yX9_characterAt cX9_characterAt 2 (some .char) :: ([.fieldLink RX9 9 "HingeNumbers$Text" "characters" "[C"] ++ wsX90)
def wsX4_isDigit : List Cond := .code yX4_isDigit cX4_isDigit 1 (some .boolean) :: ([])
def wsX4_takesAtom_r1 : List Cond := [Cond.fieldLink RX4 12 "HingeNumbers$Parser" "builder" "LHingeNumbers$Builder;", Cond.fieldLink RX4 25 "HingeNumbers$Parser" "numberNode" "I", Cond.fieldLink RX4 18 "HingeNumbers$Parser" "awaited" "I", Cond.fieldLink RX4 22 "HingeNumbers$Parser" "open" "I", Cond.methodLink RX4 67 yX4_isDigit, Cond.static yX4_isDigit, Cond.initialized RX4, Cond.code yX4_isDigit cX4_isDigit 1 (some .boolean), Cond.methodLink RX4 70 yX0_addNumber, Cond.instanceMethod yX0_addNumber, Cond.selects RX0 yX0_addNumber yX0_addNumber, Cond.initialized RX0, Cond.code yX0_addNumber cX0_addNumber 3 (some .int), Cond.fieldLink RX0 30 "HingeNumbers$Builder" "size" "I", Cond.methodLink RX0 54 yX0_addNode, Cond.instanceMethod yX0_addNode, Cond.selects RX0 yX0_addNode yX0_addNode, Cond.code yX0_addNode cX0_addNode 5 none, Cond.fieldLink RX0 9 "HingeNumbers$Builder" "kinds" "[I", Cond.fieldLink RX0 15 "HingeNumbers$Builder" "numbers" "[I", Cond.fieldLink RX0 18 "HingeNumbers$Builder" "lefts" "[I", Cond.fieldLink RX0 21 "HingeNumbers$Builder" "rights" "[I", Cond.fieldLink RX0 24 "HingeNumbers$Builder" "depths" "[I", Cond.methodLink RX0 83 Lib.Math.max.name]
def wsX4_takesAtom_r2 : List Cond := [Cond.static Lib.Math.max.name, Cond.initialized "java/lang/Math", Cond.code Lib.Math.max.name Lib.Math.max.code 2 (some .int), Cond.fieldLink RX0 40 "HingeNumbers$Builder" "loose" "LHingeNumbers$NumberStack;", Cond.methodLink RX0 113 Lib.Math.min.name, Cond.static Lib.Math.min.name, Cond.code Lib.Math.min.name Lib.Math.min.code 2 (some .int), Cond.static yX10_put, Cond.initialized RX10, Cond.code yX10_put cX10_put 3 none, Cond.static yX10_at, Cond.code yX10_at cX10_at 2 (some .int), Cond.methodLink RX0 50 yX3_push, Cond.instanceMethod yX3_push, Cond.selects RX3 yX3_push yX3_push, Cond.initialized RX3, Cond.code yX3_push cX3_push 2 none, Cond.fieldLink RX3 15 "HingeNumbers$NumberStack" "count" "I", Cond.fieldLink RX3 9 "HingeNumbers$NumberStack" "items" "[I", Cond.methodLink RX0 58 yX0_finishAtom, Cond.instanceMethod yX0_finishAtom, Cond.selects RX0 yX0_finishAtom yX0_finishAtom, Cond.code yX0_finishAtom cX0_finishAtom 2 none, Cond.fieldLink RX0 44 "HingeNumbers$Builder" "waiting" "LHingeNumbers$NumberStack;"]
def wsX4_takesAtom_r3 : List Cond := [Cond.methodLink RX0 107 yX3_count, Cond.instanceMethod yX3_count, Cond.selects RX3 yX3_count yX3_count, Cond.code yX3_count cX3_count 1 (some .int), Cond.methodLink RX0 110 yX3_top, Cond.instanceMethod yX3_top, Cond.selects RX3 yX3_top yX3_top, Cond.code yX3_top cX3_top 1 (some .int), Cond.methodLink RX0 69 yX3_pop, Cond.instanceMethod yX3_pop, Cond.selects RX3 yX3_pop yX3_pop, Cond.code yX3_pop cX3_pop 1 (some .int), Cond.methodLink RX4 74 yX0_addX, Cond.instanceMethod yX0_addX, Cond.selects RX0 yX0_addX yX0_addX, Cond.code yX0_addX cX0_addX 1 none, Cond.methodLink RX4 77 yX0_await, Cond.instanceMethod yX0_await, Cond.selects RX0 yX0_await yX0_await, Cond.code yX0_await cX0_await 2 none, Cond.static yX10_functionOf, Cond.code yX10_functionOf cX10_functionOf 1 (some .int)]
def wsX4_takesAtom : List Cond := .code yX4_takesAtom cX4_takesAtom 2 (some .boolean) :: ((wsX4_takesAtom_r1 ++ (wsX4_takesAtom_r2 ++ wsX4_takesAtom_r3)) ++ wsX40 ++ wsX00 ++ wsX30)
def wsX4_takesOpening : List Cond := .code yX4_takesOpening cX4_takesOpening 2 (some .boolean) :: ([.fieldLink RX4 22 "HingeNumbers$Parser" "open" "I", .fieldLink RX4 18 "HingeNumbers$Parser" "awaited" "I"] ++ wsX40)
def wsX4_takesExponent_r1 : List Cond := [Cond.fieldLink RX4 12 "HingeNumbers$Parser" "builder" "LHingeNumbers$Builder;", Cond.fieldLink RX4 18 "HingeNumbers$Parser" "awaited" "I", Cond.methodLink RX4 67 yX4_isDigit, Cond.static yX4_isDigit, Cond.initialized RX4, Cond.code yX4_isDigit cX4_isDigit 1 (some .boolean), Cond.methodLink RX4 84 yX0_addPower, Cond.instanceMethod yX0_addPower, Cond.selects RX0 yX0_addPower yX0_addPower, Cond.initialized RX0, Cond.code yX0_addPower cX0_addPower 2 none, Cond.fieldLink RX0 40 "HingeNumbers$Builder" "loose" "LHingeNumbers$NumberStack;", Cond.methodLink RX0 69 yX3_pop, Cond.instanceMethod yX3_pop, Cond.selects RX3 yX3_pop yX3_pop, Cond.initialized RX3, Cond.code yX3_pop cX3_pop 1 (some .int), Cond.fieldLink RX3 15 "HingeNumbers$NumberStack" "count" "I", Cond.fieldLink RX3 9 "HingeNumbers$NumberStack" "items" "[I", Cond.methodLink RX0 54 yX0_addNode, Cond.instanceMethod yX0_addNode, Cond.selects RX0 yX0_addNode yX0_addNode, Cond.code yX0_addNode cX0_addNode 5 none, Cond.fieldLink RX0 9 "HingeNumbers$Builder" "kinds" "[I"]
def wsX4_takesExponent_r2 : List Cond := [Cond.fieldLink RX0 30 "HingeNumbers$Builder" "size" "I", Cond.fieldLink RX0 15 "HingeNumbers$Builder" "numbers" "[I", Cond.fieldLink RX0 18 "HingeNumbers$Builder" "lefts" "[I", Cond.fieldLink RX0 21 "HingeNumbers$Builder" "rights" "[I", Cond.fieldLink RX0 24 "HingeNumbers$Builder" "depths" "[I", Cond.methodLink RX0 83 Lib.Math.max.name, Cond.static Lib.Math.max.name, Cond.initialized "java/lang/Math", Cond.code Lib.Math.max.name Lib.Math.max.code 2 (some .int), Cond.methodLink RX0 113 Lib.Math.min.name, Cond.static Lib.Math.min.name, Cond.code Lib.Math.min.name Lib.Math.min.code 2 (some .int), Cond.static yX10_put, Cond.initialized RX10, Cond.code yX10_put cX10_put 3 none, Cond.static yX10_at, Cond.code yX10_at cX10_at 2 (some .int), Cond.methodLink RX0 50 yX3_push, Cond.instanceMethod yX3_push, Cond.selects RX3 yX3_push yX3_push, Cond.code yX3_push cX3_push 2 none]
def wsX4_takesExponent : List Cond := .code yX4_takesExponent cX4_takesExponent 2 (some .boolean) :: ((wsX4_takesExponent_r1 ++ wsX4_takesExponent_r2) ++ wsX40 ++ wsX00 ++ wsX30)
def wsX4_takesFurtherDigit : List Cond := .code yX4_takesFurtherDigit cX4_takesFurtherDigit 3 (some .boolean) :: ([.fieldLink RX4 25 "HingeNumbers$Parser" "numberNode" "I", .fieldLink RX4 12 "HingeNumbers$Parser" "builder" "LHingeNumbers$Builder;", .methodLink RX4 96 yX0_numberOf, .instanceMethod yX0_numberOf, .selects RX0 yX0_numberOf yX0_numberOf, .initialized RX0, .code yX0_numberOf cX0_numberOf 2 (some .int), .fieldLink RX0 15 "HingeNumbers$Builder" "numbers" "[I", .static yX10_at, .initialized RX10, .code yX10_at cX10_at 2 (some .int), .methodLink RX4 99 yX0_addDigit, .instanceMethod yX0_addDigit, .selects RX0 yX0_addDigit yX0_addDigit, .code yX0_addDigit cX0_addDigit 3 none, .static yX10_put, .code yX10_put cX10_put 3 none] ++ wsX40 ++ wsX00)
def wsX4_takesBehind_r1 : List Cond := [Cond.fieldLink RX4 25 "HingeNumbers$Parser" "numberNode" "I", Cond.fieldLink RX4 18 "HingeNumbers$Parser" "awaited" "I", Cond.fieldLink RX4 22 "HingeNumbers$Parser" "open" "I", Cond.fieldLink RX4 12 "HingeNumbers$Parser" "builder" "LHingeNumbers$Builder;", Cond.methodLink RX4 67 yX4_isDigit, Cond.static yX4_isDigit, Cond.initialized RX4, Cond.code yX4_isDigit cX4_isDigit 1 (some .boolean), Cond.methodLink RX4 87 yX4_takesFurtherDigit, Cond.instanceMethod yX4_takesFurtherDigit, Cond.selects RX4 yX4_takesFurtherDigit yX4_takesFurtherDigit, Cond.code yX4_takesFurtherDigit cX4_takesFurtherDigit 3 (some .boolean), Cond.methodLink RX4 96 yX0_numberOf, Cond.instanceMethod yX0_numberOf, Cond.selects RX0 yX0_numberOf yX0_numberOf, Cond.initialized RX0, Cond.code yX0_numberOf cX0_numberOf 2 (some .int), Cond.fieldLink RX0 15 "HingeNumbers$Builder" "numbers" "[I", Cond.static yX10_at, Cond.initialized RX10, Cond.code yX10_at cX10_at 2 (some .int), Cond.methodLink RX4 99 yX0_addDigit, Cond.instanceMethod yX0_addDigit, Cond.selects RX0 yX0_addDigit yX0_addDigit]
def wsX4_takesBehind_r2 : List Cond := [Cond.code yX0_addDigit cX0_addDigit 3 none, Cond.static yX10_put, Cond.code yX10_put cX10_put 3 none, Cond.methodLink RX4 90 yX0_close, Cond.instanceMethod yX0_close, Cond.selects RX0 yX0_close yX0_close, Cond.code yX0_close cX0_close 2 none, Cond.fieldLink RX0 44 "HingeNumbers$Builder" "waiting" "LHingeNumbers$NumberStack;", Cond.fieldLink RX0 40 "HingeNumbers$Builder" "loose" "LHingeNumbers$NumberStack;", Cond.fieldLink RX0 34 "HingeNumbers$Builder" "leastDefinable" "I", Cond.methodLink RX0 83 Lib.Math.max.name, Cond.static Lib.Math.max.name, Cond.initialized "java/lang/Math", Cond.code Lib.Math.max.name Lib.Math.max.code 2 (some .int), Cond.methodLink RX0 77 yX0_joinFrom, Cond.instanceMethod yX0_joinFrom, Cond.selects RX0 yX0_joinFrom yX0_joinFrom, Cond.code yX0_joinFrom cX0_joinFrom 4 none, Cond.methodLink RX0 107 yX3_count, Cond.instanceMethod yX3_count, Cond.selects RX3 yX3_count yX3_count, Cond.initialized RX3, Cond.code yX3_count cX3_count 1 (some .int), Cond.fieldLink RX3 15 "HingeNumbers$NumberStack" "count" "I"]
def wsX4_takesBehind_r3 : List Cond := [Cond.methodLink RX0 110 yX3_top, Cond.instanceMethod yX3_top, Cond.selects RX3 yX3_top yX3_top, Cond.code yX3_top cX3_top 1 (some .int), Cond.fieldLink RX3 9 "HingeNumbers$NumberStack" "items" "[I", Cond.methodLink RX0 73 yX0_levelOf, Cond.static yX0_levelOf, Cond.code yX0_levelOf cX0_levelOf 1 (some .int), Cond.methodLink RX0 69 yX3_pop, Cond.instanceMethod yX3_pop, Cond.selects RX3 yX3_pop yX3_pop, Cond.code yX3_pop cX3_pop 1 (some .int), Cond.methodLink RX0 54 yX0_addNode, Cond.instanceMethod yX0_addNode, Cond.selects RX0 yX0_addNode yX0_addNode, Cond.code yX0_addNode cX0_addNode 5 none, Cond.fieldLink RX0 9 "HingeNumbers$Builder" "kinds" "[I", Cond.fieldLink RX0 30 "HingeNumbers$Builder" "size" "I", Cond.fieldLink RX0 18 "HingeNumbers$Builder" "lefts" "[I", Cond.fieldLink RX0 21 "HingeNumbers$Builder" "rights" "[I", Cond.fieldLink RX0 24 "HingeNumbers$Builder" "depths" "[I", Cond.methodLink RX0 113 Lib.Math.min.name, Cond.static Lib.Math.min.name, Cond.code Lib.Math.min.name Lib.Math.min.code 2 (some .int)]
def wsX4_takesBehind_r4 : List Cond := [Cond.methodLink RX0 50 yX3_push, Cond.instanceMethod yX3_push, Cond.selects RX3 yX3_push yX3_push, Cond.code yX3_push cX3_push 2 none, Cond.static yX10_functionOf, Cond.code yX10_functionOf cX10_functionOf 1 (some .int), Cond.methodLink RX0 58 yX0_finishAtom, Cond.instanceMethod yX0_finishAtom, Cond.selects RX0 yX0_finishAtom yX0_finishAtom, Cond.code yX0_finishAtom cX0_finishAtom 2 none, Cond.methodLink RX4 93 yX0_addSign, Cond.instanceMethod yX0_addSign, Cond.selects RX0 yX0_addSign yX0_addSign, Cond.code yX0_addSign cX0_addSign 2 none]
def wsX4_takesBehind : List Cond := .code yX4_takesBehind cX4_takesBehind 2 (some .boolean) :: ((wsX4_takesBehind_r1 ++ (wsX4_takesBehind_r2 ++ (wsX4_takesBehind_r3 ++ wsX4_takesBehind_r4))) ++ wsX40 ++ wsX00 ++ wsX30)
def wsX4_takes_r1 : List Cond := [Cond.fieldLink RX4 18 "HingeNumbers$Parser" "awaited" "I", Cond.methodLink RX4 55 yX4_takesAtom, Cond.instanceMethod yX4_takesAtom, Cond.selects RX4 yX4_takesAtom yX4_takesAtom, Cond.initialized RX4, Cond.code yX4_takesAtom cX4_takesAtom 2 (some .boolean), Cond.fieldLink RX4 12 "HingeNumbers$Parser" "builder" "LHingeNumbers$Builder;", Cond.fieldLink RX4 25 "HingeNumbers$Parser" "numberNode" "I", Cond.fieldLink RX4 22 "HingeNumbers$Parser" "open" "I", Cond.methodLink RX4 67 yX4_isDigit, Cond.static yX4_isDigit, Cond.code yX4_isDigit cX4_isDigit 1 (some .boolean), Cond.methodLink RX4 70 yX0_addNumber, Cond.instanceMethod yX0_addNumber, Cond.selects RX0 yX0_addNumber yX0_addNumber, Cond.initialized RX0, Cond.code yX0_addNumber cX0_addNumber 3 (some .int), Cond.fieldLink RX0 30 "HingeNumbers$Builder" "size" "I", Cond.methodLink RX0 54 yX0_addNode, Cond.instanceMethod yX0_addNode, Cond.selects RX0 yX0_addNode yX0_addNode, Cond.code yX0_addNode cX0_addNode 5 none, Cond.fieldLink RX0 9 "HingeNumbers$Builder" "kinds" "[I", Cond.fieldLink RX0 15 "HingeNumbers$Builder" "numbers" "[I"]
def wsX4_takes_r2 : List Cond := [Cond.fieldLink RX0 18 "HingeNumbers$Builder" "lefts" "[I", Cond.fieldLink RX0 21 "HingeNumbers$Builder" "rights" "[I", Cond.fieldLink RX0 24 "HingeNumbers$Builder" "depths" "[I", Cond.methodLink RX0 83 Lib.Math.max.name, Cond.static Lib.Math.max.name, Cond.initialized "java/lang/Math", Cond.code Lib.Math.max.name Lib.Math.max.code 2 (some .int), Cond.fieldLink RX0 40 "HingeNumbers$Builder" "loose" "LHingeNumbers$NumberStack;", Cond.methodLink RX0 113 Lib.Math.min.name, Cond.static Lib.Math.min.name, Cond.code Lib.Math.min.name Lib.Math.min.code 2 (some .int), Cond.static yX10_put, Cond.initialized RX10, Cond.code yX10_put cX10_put 3 none, Cond.static yX10_at, Cond.code yX10_at cX10_at 2 (some .int), Cond.methodLink RX0 50 yX3_push, Cond.instanceMethod yX3_push, Cond.selects RX3 yX3_push yX3_push, Cond.initialized RX3, Cond.code yX3_push cX3_push 2 none, Cond.fieldLink RX3 15 "HingeNumbers$NumberStack" "count" "I", Cond.fieldLink RX3 9 "HingeNumbers$NumberStack" "items" "[I", Cond.methodLink RX0 58 yX0_finishAtom]
def wsX4_takes_r3 : List Cond := [Cond.instanceMethod yX0_finishAtom, Cond.selects RX0 yX0_finishAtom yX0_finishAtom, Cond.code yX0_finishAtom cX0_finishAtom 2 none, Cond.fieldLink RX0 44 "HingeNumbers$Builder" "waiting" "LHingeNumbers$NumberStack;", Cond.methodLink RX0 107 yX3_count, Cond.instanceMethod yX3_count, Cond.selects RX3 yX3_count yX3_count, Cond.code yX3_count cX3_count 1 (some .int), Cond.methodLink RX0 110 yX3_top, Cond.instanceMethod yX3_top, Cond.selects RX3 yX3_top yX3_top, Cond.code yX3_top cX3_top 1 (some .int), Cond.methodLink RX0 69 yX3_pop, Cond.instanceMethod yX3_pop, Cond.selects RX3 yX3_pop yX3_pop, Cond.code yX3_pop cX3_pop 1 (some .int), Cond.methodLink RX4 74 yX0_addX, Cond.instanceMethod yX0_addX, Cond.selects RX0 yX0_addX yX0_addX, Cond.code yX0_addX cX0_addX 1 none, Cond.methodLink RX4 77 yX0_await, Cond.instanceMethod yX0_await, Cond.selects RX0 yX0_await yX0_await, Cond.code yX0_await cX0_await 2 none]
def wsX4_takes_r4 : List Cond := [Cond.static yX10_functionOf, Cond.code yX10_functionOf cX10_functionOf 1 (some .int), Cond.methodLink RX4 58 yX4_takesOpening, Cond.instanceMethod yX4_takesOpening, Cond.selects RX4 yX4_takesOpening yX4_takesOpening, Cond.code yX4_takesOpening cX4_takesOpening 2 (some .boolean), Cond.methodLink RX4 61 yX4_takesExponent, Cond.instanceMethod yX4_takesExponent, Cond.selects RX4 yX4_takesExponent yX4_takesExponent, Cond.code yX4_takesExponent cX4_takesExponent 2 (some .boolean), Cond.methodLink RX4 84 yX0_addPower, Cond.instanceMethod yX0_addPower, Cond.selects RX0 yX0_addPower yX0_addPower, Cond.code yX0_addPower cX0_addPower 2 none, Cond.methodLink RX4 64 yX4_takesBehind, Cond.instanceMethod yX4_takesBehind, Cond.selects RX4 yX4_takesBehind yX4_takesBehind, Cond.code yX4_takesBehind cX4_takesBehind 2 (some .boolean), Cond.methodLink RX4 87 yX4_takesFurtherDigit, Cond.instanceMethod yX4_takesFurtherDigit, Cond.selects RX4 yX4_takesFurtherDigit yX4_takesFurtherDigit, Cond.code yX4_takesFurtherDigit cX4_takesFurtherDigit 3 (some .boolean), Cond.methodLink RX4 96 yX0_numberOf, Cond.instanceMethod yX0_numberOf]
def wsX4_takes_r5 : List Cond := [Cond.selects RX0 yX0_numberOf yX0_numberOf, Cond.code yX0_numberOf cX0_numberOf 2 (some .int), Cond.methodLink RX4 99 yX0_addDigit, Cond.instanceMethod yX0_addDigit, Cond.selects RX0 yX0_addDigit yX0_addDigit, Cond.code yX0_addDigit cX0_addDigit 3 none, Cond.methodLink RX4 90 yX0_close, Cond.instanceMethod yX0_close, Cond.selects RX0 yX0_close yX0_close, Cond.code yX0_close cX0_close 2 none, Cond.fieldLink RX0 34 "HingeNumbers$Builder" "leastDefinable" "I", Cond.methodLink RX0 77 yX0_joinFrom, Cond.instanceMethod yX0_joinFrom, Cond.selects RX0 yX0_joinFrom yX0_joinFrom, Cond.code yX0_joinFrom cX0_joinFrom 4 none, Cond.methodLink RX0 73 yX0_levelOf, Cond.static yX0_levelOf, Cond.code yX0_levelOf cX0_levelOf 1 (some .int), Cond.methodLink RX4 93 yX0_addSign, Cond.instanceMethod yX0_addSign, Cond.selects RX0 yX0_addSign yX0_addSign, Cond.code yX0_addSign cX0_addSign 2 none]
def wsX4_takes : List Cond := .code yX4_takes cX4_takes 2 (some .boolean) :: ((wsX4_takes_r1 ++ (wsX4_takes_r2 ++ (wsX4_takes_r3 ++ (wsX4_takes_r4 ++ wsX4_takes_r5)))) ++ wsX40 ++ wsX00 ++ wsX30)
def wsX4_firstError_r1 : List Cond := [Cond.fieldLink RX4 12 "HingeNumbers$Parser" "builder" "LHingeNumbers$Builder;", Cond.fieldLink RX4 18 "HingeNumbers$Parser" "awaited" "I", Cond.fieldLink RX4 22 "HingeNumbers$Parser" "open" "I", Cond.fieldLink RX4 25 "HingeNumbers$Parser" "numberNode" "I", Cond.methodLink RX4 28 yX0_clear, Cond.instanceMethod yX0_clear, Cond.selects RX0 yX0_clear yX0_clear, Cond.initialized RX0, Cond.code yX0_clear cX0_clear 1 none, Cond.fieldLink RX0 30 "HingeNumbers$Builder" "size" "I", Cond.fieldLink RX0 34 "HingeNumbers$Builder" "leastDefinable" "I", Cond.fieldLink RX0 40 "HingeNumbers$Builder" "loose" "LHingeNumbers$NumberStack;", Cond.fieldLink RX0 44 "HingeNumbers$Builder" "waiting" "LHingeNumbers$NumberStack;", Cond.methodLink RX0 47 yX3_clear, Cond.instanceMethod yX3_clear, Cond.selects RX3 yX3_clear yX3_clear, Cond.initialized RX3, Cond.code yX3_clear cX3_clear 1 none, Cond.fieldLink RX3 15 "HingeNumbers$NumberStack" "count" "I", Cond.methodLink RX4 31 yX9_length, Cond.instanceMethod yX9_length, Cond.selects RX9 yX9_length yX9_length, Cond.initialized RX9, Cond.code yX9_length cX9_length 1 (some .int)]
def wsX4_firstError_r2 : List Cond := [Cond.fieldLink RX9 15 "HingeNumbers$Text" "length" "I", Cond.methodLink RX4 37 yX9_characterAt, Cond.instanceMethod yX9_characterAt, Cond.selects RX9 yX9_characterAt yX9_characterAt, Cond.code yX9_characterAt cX9_characterAt 2 (some .char), Cond.fieldLink RX9 9 "HingeNumbers$Text" "characters" "[C", Cond.methodLink RX4 41 yX4_takes, Cond.instanceMethod yX4_takes, Cond.selects RX4 yX4_takes yX4_takes, Cond.initialized RX4, Cond.code yX4_takes cX4_takes 2 (some .boolean), Cond.methodLink RX4 55 yX4_takesAtom, Cond.instanceMethod yX4_takesAtom, Cond.selects RX4 yX4_takesAtom yX4_takesAtom, Cond.code yX4_takesAtom cX4_takesAtom 2 (some .boolean), Cond.methodLink RX4 67 yX4_isDigit, Cond.static yX4_isDigit, Cond.code yX4_isDigit cX4_isDigit 1 (some .boolean), Cond.methodLink RX4 70 yX0_addNumber, Cond.instanceMethod yX0_addNumber, Cond.selects RX0 yX0_addNumber yX0_addNumber, Cond.code yX0_addNumber cX0_addNumber 3 (some .int), Cond.methodLink RX0 54 yX0_addNode, Cond.instanceMethod yX0_addNode]
def wsX4_firstError_r3 : List Cond := [Cond.selects RX0 yX0_addNode yX0_addNode, Cond.code yX0_addNode cX0_addNode 5 none, Cond.fieldLink RX0 9 "HingeNumbers$Builder" "kinds" "[I", Cond.fieldLink RX0 15 "HingeNumbers$Builder" "numbers" "[I", Cond.fieldLink RX0 18 "HingeNumbers$Builder" "lefts" "[I", Cond.fieldLink RX0 21 "HingeNumbers$Builder" "rights" "[I", Cond.fieldLink RX0 24 "HingeNumbers$Builder" "depths" "[I", Cond.methodLink RX0 83 Lib.Math.max.name, Cond.static Lib.Math.max.name, Cond.initialized "java/lang/Math", Cond.code Lib.Math.max.name Lib.Math.max.code 2 (some .int), Cond.methodLink RX0 113 Lib.Math.min.name, Cond.static Lib.Math.min.name, Cond.code Lib.Math.min.name Lib.Math.min.code 2 (some .int), Cond.static yX10_put, Cond.initialized RX10, Cond.code yX10_put cX10_put 3 none, Cond.static yX10_at, Cond.code yX10_at cX10_at 2 (some .int), Cond.methodLink RX0 50 yX3_push, Cond.instanceMethod yX3_push, Cond.selects RX3 yX3_push yX3_push, Cond.code yX3_push cX3_push 2 none, Cond.fieldLink RX3 9 "HingeNumbers$NumberStack" "items" "[I"]
def wsX4_firstError_r4 : List Cond := [Cond.methodLink RX0 58 yX0_finishAtom, Cond.instanceMethod yX0_finishAtom, Cond.selects RX0 yX0_finishAtom yX0_finishAtom, Cond.code yX0_finishAtom cX0_finishAtom 2 none, Cond.methodLink RX0 107 yX3_count, Cond.instanceMethod yX3_count, Cond.selects RX3 yX3_count yX3_count, Cond.code yX3_count cX3_count 1 (some .int), Cond.methodLink RX0 110 yX3_top, Cond.instanceMethod yX3_top, Cond.selects RX3 yX3_top yX3_top, Cond.code yX3_top cX3_top 1 (some .int), Cond.methodLink RX0 69 yX3_pop, Cond.instanceMethod yX3_pop, Cond.selects RX3 yX3_pop yX3_pop, Cond.code yX3_pop cX3_pop 1 (some .int), Cond.methodLink RX4 74 yX0_addX, Cond.instanceMethod yX0_addX, Cond.selects RX0 yX0_addX yX0_addX, Cond.code yX0_addX cX0_addX 1 none, Cond.methodLink RX4 77 yX0_await, Cond.instanceMethod yX0_await, Cond.selects RX0 yX0_await yX0_await, Cond.code yX0_await cX0_await 2 none]
def wsX4_firstError_r5 : List Cond := [Cond.static yX10_functionOf, Cond.code yX10_functionOf cX10_functionOf 1 (some .int), Cond.methodLink RX4 58 yX4_takesOpening, Cond.instanceMethod yX4_takesOpening, Cond.selects RX4 yX4_takesOpening yX4_takesOpening, Cond.code yX4_takesOpening cX4_takesOpening 2 (some .boolean), Cond.methodLink RX4 61 yX4_takesExponent, Cond.instanceMethod yX4_takesExponent, Cond.selects RX4 yX4_takesExponent yX4_takesExponent, Cond.code yX4_takesExponent cX4_takesExponent 2 (some .boolean), Cond.methodLink RX4 84 yX0_addPower, Cond.instanceMethod yX0_addPower, Cond.selects RX0 yX0_addPower yX0_addPower, Cond.code yX0_addPower cX0_addPower 2 none, Cond.methodLink RX4 64 yX4_takesBehind, Cond.instanceMethod yX4_takesBehind, Cond.selects RX4 yX4_takesBehind yX4_takesBehind, Cond.code yX4_takesBehind cX4_takesBehind 2 (some .boolean), Cond.methodLink RX4 87 yX4_takesFurtherDigit, Cond.instanceMethod yX4_takesFurtherDigit, Cond.selects RX4 yX4_takesFurtherDigit yX4_takesFurtherDigit, Cond.code yX4_takesFurtherDigit cX4_takesFurtherDigit 3 (some .boolean), Cond.methodLink RX4 96 yX0_numberOf, Cond.instanceMethod yX0_numberOf]
def wsX4_firstError_r6 : List Cond := [Cond.selects RX0 yX0_numberOf yX0_numberOf, Cond.code yX0_numberOf cX0_numberOf 2 (some .int), Cond.methodLink RX4 99 yX0_addDigit, Cond.instanceMethod yX0_addDigit, Cond.selects RX0 yX0_addDigit yX0_addDigit, Cond.code yX0_addDigit cX0_addDigit 3 none, Cond.methodLink RX4 90 yX0_close, Cond.instanceMethod yX0_close, Cond.selects RX0 yX0_close yX0_close, Cond.code yX0_close cX0_close 2 none, Cond.methodLink RX0 77 yX0_joinFrom, Cond.instanceMethod yX0_joinFrom, Cond.selects RX0 yX0_joinFrom yX0_joinFrom, Cond.code yX0_joinFrom cX0_joinFrom 4 none, Cond.methodLink RX0 73 yX0_levelOf, Cond.static yX0_levelOf, Cond.code yX0_levelOf cX0_levelOf 1 (some .int), Cond.methodLink RX4 93 yX0_addSign, Cond.instanceMethod yX0_addSign, Cond.selects RX0 yX0_addSign yX0_addSign, Cond.code yX0_addSign cX0_addSign 2 none, Cond.methodLink RX4 45 yX0_finish, Cond.instanceMethod yX0_finish, Cond.selects RX0 yX0_finish yX0_finish]
def wsX4_firstError_r7 : List Cond := [Cond.code yX0_finish cX0_finish 1 none]
def wsX4_firstError : List Cond := .code yX4_firstError cX4_firstError 3 (some .int) :: ((wsX4_firstError_r1 ++ (wsX4_firstError_r2 ++ (wsX4_firstError_r3 ++ (wsX4_firstError_r4 ++ (wsX4_firstError_r5 ++ (wsX4_firstError_r6 ++ wsX4_firstError_r7)))))) ++ wsX40 ++ wsX00 ++ wsX30 ++ wsX90)
def wsX4_leastDefinable : List Cond := .code yX4_leastDefinable cX4_leastDefinable 1 (some .int) :: ([.fieldLink RX4 12 "HingeNumbers$Parser" "builder" "LHingeNumbers$Builder;", .methodLink RX4 48 yX0_leastDefinable, .instanceMethod yX0_leastDefinable, .selects RX0 yX0_leastDefinable yX0_leastDefinable, .initialized RX0, .code yX0_leastDefinable cX0_leastDefinable 1 (some .int), .fieldLink RX0 34 "HingeNumbers$Builder" "leastDefinable" "I"] ++ wsX40 ++ wsX00)
def wsX4_toExpression_r1 : List Cond := [Cond.fieldLink RX4 12 "HingeNumbers$Parser" "builder" "LHingeNumbers$Builder;", Cond.methodLink RX4 51 yX0_toExpression, Cond.instanceMethod yX0_toExpression, Cond.selects RX0 yX0_toExpression yX0_toExpression, Cond.initialized RX0, Cond.code yX0_toExpression cX0_toExpression 1 (some (.object "HingeNumbers$Expression")), Cond.classLink RX0 89 RX1, Cond.instantiable RX1 7, Cond.initialized RX1, Cond.fieldLink RX0 9 "HingeNumbers$Builder" "kinds" "[I", Cond.fieldLink RX0 15 "HingeNumbers$Builder" "numbers" "[I", Cond.fieldLink RX0 18 "HingeNumbers$Builder" "lefts" "[I", Cond.fieldLink RX0 21 "HingeNumbers$Builder" "rights" "[I", Cond.fieldLink RX0 24 "HingeNumbers$Builder" "depths" "[I", Cond.fieldLink RX0 30 "HingeNumbers$Builder" "size" "I", Cond.fieldLink RX0 34 "HingeNumbers$Builder" "leastDefinable" "I", Cond.methodLink RX0 91 yX0_filled, Cond.instanceMethod yX0_filled, Cond.selects RX0 yX0_filled yX0_filled, Cond.code yX0_filled cX0_filled 2 (some (.array .int)), Cond.methodLink RX0 83 Lib.Math.max.name, Cond.static Lib.Math.max.name, Cond.initialized "java/lang/Math", Cond.code Lib.Math.max.name Lib.Math.max.code 2 (some .int)]
def wsX4_toExpression_r2 : List Cond := [Cond.methodLink RX0 101 yJ7_copyOf_59c91, Cond.static yJ7_copyOf_59c91, Cond.initialized RJ7, Cond.code yJ7_copyOf_59c91 cJ7_copyOf_59c91 3 (some (.array .int)), Cond.methodLink RJ7 316 ⟨"[I", "clone", "()Ljava/lang/Object;"⟩, Cond.sameMethod "[I" "java/lang/Object" "clone" "()Ljava/lang/Object;", Cond.native ⟨"java/lang/Object", "clone", "()Ljava/lang/Object;"⟩, Cond.instanceMethod ⟨"java/lang/Object", "clone", "()Ljava/lang/Object;"⟩, Cond.selects "[I" ⟨"[I", "clone", "()Ljava/lang/Object;"⟩ ⟨"java/lang/Object", "clone", "()Ljava/lang/Object;"⟩, Cond.classLink RJ7 317 "[I", Cond.arrayClass .int, Cond.methodLink RJ7 304 Lib.Math.min.name, Cond.static Lib.Math.min.name, Cond.code Lib.Math.min.name Lib.Math.min.code 2 (some .int), Cond.methodLink RJ7 150 arraycopyName, Cond.native arraycopyName, Cond.static arraycopyName, Cond.initialized "java/lang/System", Cond.static yX10_at, Cond.initialized RX10, Cond.code yX10_at cX10_at 2 (some .int), Cond.methodLink RX0 95 yX0_countUnlike, Cond.instanceMethod yX0_countUnlike, Cond.selects RX0 yX0_countUnlike yX0_countUnlike]
def wsX4_toExpression_r3 : List Cond := [Cond.code yX0_countUnlike cX0_countUnlike 4 (some .int), Cond.fieldLink RX0 27 "HingeNumbers$Builder" "likes" "[I", Cond.methodLink RX0 116 yX0_firstLike, Cond.instanceMethod yX0_firstLike, Cond.selects RX0 yX0_firstLike yX0_firstLike, Cond.code yX0_firstLike cX0_firstLike 3 (some .int), Cond.methodLink RX0 119 yX0_areAlike, Cond.instanceMethod yX0_areAlike, Cond.selects RX0 yX0_areAlike yX0_areAlike, Cond.code yX0_areAlike cX0_areAlike 3 (some .boolean), Cond.static yX10_put, Cond.code yX10_put cX10_put 3 none, Cond.methodLink RX0 98 yX1_init, Cond.instanceMethod yX1_init, Cond.code yX1_init cX1_init 8 none, Cond.methodLink RX1 3 objectInit, Cond.instanceMethod objectInit, Cond.code objectInit ⟨#[0xb1]⟩ 1 none, Cond.fieldLink RX1 9 "HingeNumbers$Expression" "kinds" "[I", Cond.fieldLink RX1 15 "HingeNumbers$Expression" "numbers" "[I", Cond.fieldLink RX1 18 "HingeNumbers$Expression" "lefts" "[I", Cond.fieldLink RX1 21 "HingeNumbers$Expression" "rights" "[I", Cond.fieldLink RX1 24 "HingeNumbers$Expression" "depth" "I", Cond.fieldLink RX1 28 "HingeNumbers$Expression" "unlike" "I"]
def wsX4_toExpression_r4 : List Cond := [Cond.fieldLink RX1 31 "HingeNumbers$Expression" "leastDefinable" "I"]
def wsX4_toExpression : List Cond := .code yX4_toExpression cX4_toExpression 1 (some (.object "HingeNumbers$Expression")) :: ((wsX4_toExpression_r1 ++ (wsX4_toExpression_r2 ++ (wsX4_toExpression_r3 ++ wsX4_toExpression_r4))) ++ wsX40 ++ wsX10 ++ wsX00)
def wsX8_init : List Cond := .code yX8_init cX8_init 2 none :: ([.methodLink RX8 3 objectInit, .instanceMethod objectInit, .code objectInit ⟨#[0xb1]⟩ 1 none, .methodLink RX8 9 Lib.Math.max.name, .static Lib.Math.max.name, .initialized "java/lang/Math", .code Lib.Math.max.name Lib.Math.max.code 2 (some .int), .methodLink RX8 15 Lib.Math.min.name, .static Lib.Math.min.name, .code Lib.Math.min.name Lib.Math.min.code 2 (some .int), .fieldLink RX8 18 "HingeNumbers$Table" "width" "I", .arrayClass .int, .fieldLink RX8 24 "HingeNumbers$Table" "cells" "[I"] ++ wsX80)
def wsX6_init : List Cond := .code yX6_init cX6_init 2 none :: ([.methodLink RX6 1 objectInit, .instanceMethod objectInit, .code objectInit ⟨#[0xb1]⟩ 1 none, .fieldLink RX6 7 "HingeNumbers$Remainders" "prime" "I"] ++ wsX60)
def wsX7_init : List Cond := .code yX7_init cX7_init 6 none :: ([.methodLink RX7 3 objectInit, .instanceMethod objectInit, .code objectInit ⟨#[0xb1]⟩ 1 none, .fieldLink RX7 9 "HingeNumbers$State" "numbers" "LHingeNumbers$Remainders;", .fieldLink RX7 15 "HingeNumbers$State" "f" "LHingeNumbers$Expression;", .fieldLink RX7 19 "HingeNumbers$State" "g" "LHingeNumbers$Expression;", .fieldLink RX7 22 "HingeNumbers$State" "h" "LHingeNumbers$Expression;", .fieldLink RX7 25 "HingeNumbers$State" "k" "LHingeNumbers$Expression;"] ++ wsX70)
def wsX7_first_r1 : List Cond := [Cond.classLink RX7 10 RX7, Cond.instantiable RX7 5, Cond.initialized RX7, Cond.classLink RX7 34 RX6, Cond.instantiable RX6 1, Cond.initialized RX6, Cond.methodLink RX7 28 yX1_ofX, Cond.static yX1_ofX, Cond.initialized RX1, Cond.code yX1_ofX cX1_ofX 0 (some (.object "HingeNumbers$Expression")), Cond.classLink RX1 10 RX1, Cond.instantiable RX1 7, Cond.arrayClass .int, Cond.methodLink RX1 34 yX1_init, Cond.instanceMethod yX1_init, Cond.code yX1_init cX1_init 8 none, Cond.methodLink RX1 3 objectInit, Cond.instanceMethod objectInit, Cond.code objectInit ⟨#[0xb1]⟩ 1 none, Cond.fieldLink RX1 9 "HingeNumbers$Expression" "kinds" "[I", Cond.fieldLink RX1 15 "HingeNumbers$Expression" "numbers" "[I", Cond.fieldLink RX1 18 "HingeNumbers$Expression" "lefts" "[I", Cond.fieldLink RX1 21 "HingeNumbers$Expression" "rights" "[I", Cond.fieldLink RX1 24 "HingeNumbers$Expression" "depth" "I"]
def wsX7_first_r2 : List Cond := [Cond.fieldLink RX1 28 "HingeNumbers$Expression" "unlike" "I", Cond.fieldLink RX1 31 "HingeNumbers$Expression" "leastDefinable" "I", Cond.methodLink RX7 36 yX6_init, Cond.instanceMethod yX6_init, Cond.code yX6_init cX6_init 2 none, Cond.methodLink RX6 1 objectInit, Cond.fieldLink RX6 7 "HingeNumbers$Remainders" "prime" "I", Cond.methodLink RX7 39 yX7_init, Cond.instanceMethod yX7_init, Cond.code yX7_init cX7_init 6 none, Cond.methodLink RX7 3 objectInit, Cond.fieldLink RX7 9 "HingeNumbers$State" "numbers" "LHingeNumbers$Remainders;", Cond.fieldLink RX7 15 "HingeNumbers$State" "f" "LHingeNumbers$Expression;", Cond.fieldLink RX7 19 "HingeNumbers$State" "g" "LHingeNumbers$Expression;", Cond.fieldLink RX7 22 "HingeNumbers$State" "h" "LHingeNumbers$Expression;", Cond.fieldLink RX7 25 "HingeNumbers$State" "k" "LHingeNumbers$Expression;"]
def wsX7_first : List Cond := .code yX7_first cX7_first 1 (some (.object "HingeNumbers$State")) :: ((wsX7_first_r1 ++ wsX7_first_r2) ++ wsX70 ++ wsX60 ++ wsX10)
def wsJ7_fill_53178 : List Cond := .code yJ7_fill_53178 cJ7_fill_53178 4 none :: ([])
def wsX8_fill : List Cond := .code yX8_fill cX8_fill 2 none :: ([.fieldLink RX8 24 "HingeNumbers$Table" "cells" "[I", .methodLink RX8 28 yJ7_fill_53178, .static yJ7_fill_53178, .initialized RJ7, .code yJ7_fill_53178 cJ7_fill_53178 4 none] ++ wsX80)
def wsX5_forget : List Cond := .code yX5_forget cX5_forget 1 none :: ([.fieldLink RX5 14 "HingeNumbers$Reckoner" "values" "LHingeNumbers$Table;", .fieldLink RX5 20 "HingeNumbers$Reckoner" "hingeSlopes" "LHingeNumbers$Table;", .fieldLink RX5 23 "HingeNumbers$Reckoner" "ruleSlopes" "LHingeNumbers$Table;", .methodLink RX5 48 yX8_fill, .instanceMethod yX8_fill, .selects RX8 yX8_fill yX8_fill, .initialized RX8, .code yX8_fill cX8_fill 2 none, .fieldLink RX8 24 "HingeNumbers$Table" "cells" "[I", .methodLink RX8 28 yJ7_fill_53178, .static yJ7_fill_53178, .initialized RJ7, .code yJ7_fill_53178 cJ7_fill_53178 4 none] ++ wsX50 ++ wsX80)
def wsX5_init_r1 : List Cond := [Cond.methodLink RX5 3 objectInit, Cond.instanceMethod objectInit, Cond.code objectInit ⟨#[0xb1]⟩ 1 none, Cond.classLink RX5 9 RX8, Cond.instantiable RX8 2, Cond.initialized RX8, Cond.fieldLink RX5 14 "HingeNumbers$Reckoner" "values" "LHingeNumbers$Table;", Cond.fieldLink RX5 20 "HingeNumbers$Reckoner" "hingeSlopes" "LHingeNumbers$Table;", Cond.fieldLink RX5 23 "HingeNumbers$Reckoner" "ruleSlopes" "LHingeNumbers$Table;", Cond.fieldLink RX5 26 "HingeNumbers$Reckoner" "nodeValues" "LHingeNumbers$Table;", Cond.fieldLink RX5 29 "HingeNumbers$Reckoner" "nodeSlopes" "LHingeNumbers$Table;", Cond.fieldLink RX5 32 "HingeNumbers$Reckoner" "nodeWeights" "LHingeNumbers$Table;", Cond.fieldLink RX5 41 "HingeNumbers$Reckoner" "state" "LHingeNumbers$State;", Cond.methodLink RX5 11 yX8_init, Cond.instanceMethod yX8_init, Cond.code yX8_init cX8_init 2 none, Cond.methodLink RX8 3 objectInit, Cond.methodLink RX8 9 Lib.Math.max.name, Cond.static Lib.Math.max.name, Cond.initialized "java/lang/Math", Cond.code Lib.Math.max.name Lib.Math.max.code 2 (some .int), Cond.methodLink RX8 15 Lib.Math.min.name, Cond.static Lib.Math.min.name, Cond.code Lib.Math.min.name Lib.Math.min.code 2 (some .int)]
def wsX5_init_r2 : List Cond := [Cond.fieldLink RX8 18 "HingeNumbers$Table" "width" "I", Cond.arrayClass .int, Cond.fieldLink RX8 24 "HingeNumbers$Table" "cells" "[I", Cond.methodLink RX5 35 yX7_first, Cond.static yX7_first, Cond.initialized RX7, Cond.code yX7_first cX7_first 1 (some (.object "HingeNumbers$State")), Cond.classLink RX7 10 RX7, Cond.instantiable RX7 5, Cond.classLink RX7 34 RX6, Cond.instantiable RX6 1, Cond.initialized RX6, Cond.methodLink RX7 28 yX1_ofX, Cond.static yX1_ofX, Cond.initialized RX1, Cond.code yX1_ofX cX1_ofX 0 (some (.object "HingeNumbers$Expression")), Cond.classLink RX1 10 RX1, Cond.instantiable RX1 7, Cond.methodLink RX1 34 yX1_init, Cond.instanceMethod yX1_init, Cond.code yX1_init cX1_init 8 none, Cond.methodLink RX1 3 objectInit, Cond.fieldLink RX1 9 "HingeNumbers$Expression" "kinds" "[I", Cond.fieldLink RX1 15 "HingeNumbers$Expression" "numbers" "[I"]
def wsX5_init_r3 : List Cond := [Cond.fieldLink RX1 18 "HingeNumbers$Expression" "lefts" "[I", Cond.fieldLink RX1 21 "HingeNumbers$Expression" "rights" "[I", Cond.fieldLink RX1 24 "HingeNumbers$Expression" "depth" "I", Cond.fieldLink RX1 28 "HingeNumbers$Expression" "unlike" "I", Cond.fieldLink RX1 31 "HingeNumbers$Expression" "leastDefinable" "I", Cond.methodLink RX7 36 yX6_init, Cond.instanceMethod yX6_init, Cond.code yX6_init cX6_init 2 none, Cond.methodLink RX6 1 objectInit, Cond.fieldLink RX6 7 "HingeNumbers$Remainders" "prime" "I", Cond.methodLink RX7 39 yX7_init, Cond.instanceMethod yX7_init, Cond.code yX7_init cX7_init 6 none, Cond.methodLink RX7 3 objectInit, Cond.fieldLink RX7 9 "HingeNumbers$State" "numbers" "LHingeNumbers$Remainders;", Cond.fieldLink RX7 15 "HingeNumbers$State" "f" "LHingeNumbers$Expression;", Cond.fieldLink RX7 19 "HingeNumbers$State" "g" "LHingeNumbers$Expression;", Cond.fieldLink RX7 22 "HingeNumbers$State" "h" "LHingeNumbers$Expression;", Cond.fieldLink RX7 25 "HingeNumbers$State" "k" "LHingeNumbers$Expression;", Cond.methodLink RX5 45 yX5_forget, Cond.instanceMethod yX5_forget, Cond.selects RX5 yX5_forget yX5_forget, Cond.initialized RX5, Cond.code yX5_forget cX5_forget 1 none]
def wsX5_init_r4 : List Cond := [Cond.methodLink RX5 48 yX8_fill, Cond.instanceMethod yX8_fill, Cond.selects RX8 yX8_fill yX8_fill, Cond.code yX8_fill cX8_fill 2 none, Cond.methodLink RX8 28 yJ7_fill_53178, Cond.static yJ7_fill_53178, Cond.initialized RJ7, Cond.code yJ7_fill_53178 cJ7_fill_53178 4 none]
def wsX5_init : List Cond := .code yX5_init cX5_init 1 none :: ((wsX5_init_r1 ++ (wsX5_init_r2 ++ (wsX5_init_r3 ++ wsX5_init_r4))) ++ wsX80 ++ wsX50 ++ wsX70 ++ wsX60 ++ wsX10)
def wsX5_state : List Cond := .code yX5_state cX5_state 1 (some (.object "HingeNumbers$State")) :: ([.fieldLink RX5 41 "HingeNumbers$Reckoner" "state" "LHingeNumbers$State;"] ++ wsX50)
def wsX5_moveTo : List Cond := .code yX5_moveTo cX5_moveTo 2 none :: ([.fieldLink RX5 41 "HingeNumbers$Reckoner" "state" "LHingeNumbers$State;", .methodLink RX5 45 yX5_forget, .instanceMethod yX5_forget, .selects RX5 yX5_forget yX5_forget, .initialized RX5, .code yX5_forget cX5_forget 1 none, .fieldLink RX5 14 "HingeNumbers$Reckoner" "values" "LHingeNumbers$Table;", .fieldLink RX5 20 "HingeNumbers$Reckoner" "hingeSlopes" "LHingeNumbers$Table;", .fieldLink RX5 23 "HingeNumbers$Reckoner" "ruleSlopes" "LHingeNumbers$Table;", .methodLink RX5 48 yX8_fill, .instanceMethod yX8_fill, .selects RX8 yX8_fill yX8_fill, .initialized RX8, .code yX8_fill cX8_fill 2 none, .fieldLink RX8 24 "HingeNumbers$Table" "cells" "[I", .methodLink RX8 28 yJ7_fill_53178, .static yJ7_fill_53178, .initialized RJ7, .code yJ7_fill_53178 cJ7_fill_53178 4 none] ++ wsX50 ++ wsX80)
def wsX5_mayUse : List Cond := .code yX5_mayUse cX5_mayUse 2 (some .boolean) :: ([])
def wsX7_expressionOf : List Cond := .code yX7_expressionOf cX7_expressionOf 2 (some (.object "HingeNumbers$Expression")) :: ([.fieldLink RX7 15 "HingeNumbers$State" "f" "LHingeNumbers$Expression;", .fieldLink RX7 19 "HingeNumbers$State" "g" "LHingeNumbers$Expression;", .fieldLink RX7 22 "HingeNumbers$State" "h" "LHingeNumbers$Expression;", .fieldLink RX7 25 "HingeNumbers$State" "k" "LHingeNumbers$Expression;"] ++ wsX70)
def wsX7_numbers : List Cond := .code yX7_numbers cX7_numbers 1 (some (.object "HingeNumbers$Remainders")) :: ([.fieldLink RX7 9 "HingeNumbers$State" "numbers" "LHingeNumbers$Remainders;"] ++ wsX70)
def wsX8_get : List Cond := .code yX8_get cX8_get 3 (some .int) :: ([.fieldLink RX8 18 "HingeNumbers$Table" "width" "I", .fieldLink RX8 24 "HingeNumbers$Table" "cells" "[I", .static yX10_at, .initialized RX10, .code yX10_at cX10_at 2 (some .int)] ++ wsX80)
def wsX6_of : List Cond := .code yX6_of cX6_of 3 (some .int) :: ([.fieldLink RX6 7 "HingeNumbers$Remainders" "prime" "I"] ++ wsX60)
def wsX6_subtract : List Cond := .code yX6_subtract cX6_subtract 3 (some .int) :: ([.methodLink RX6 13 yX6_of, .instanceMethod yX6_of, .selects RX6 yX6_of yX6_of, .initialized RX6, .code yX6_of cX6_of 3 (some .int), .fieldLink RX6 7 "HingeNumbers$Remainders" "prime" "I"] ++ wsX60)
def wsX6_add : List Cond := .code yX6_add cX6_add 3 (some .int) :: ([.methodLink RX6 13 yX6_of, .instanceMethod yX6_of, .selects RX6 yX6_of yX6_of, .initialized RX6, .code yX6_of cX6_of 3 (some .int), .fieldLink RX6 7 "HingeNumbers$Remainders" "prime" "I"] ++ wsX60)
def wsX6_multiply : List Cond := .code yX6_multiply cX6_multiply 3 (some .int) :: ([.methodLink RX6 13 yX6_of, .instanceMethod yX6_of, .selects RX6 yX6_of yX6_of, .initialized RX6, .code yX6_of cX6_of 3 (some .int), .fieldLink RX6 7 "HingeNumbers$Remainders" "prime" "I"] ++ wsX60)
def wsX6_power : List Cond := .code yX6_power cX6_power 6 (some .int) :: ([.fieldLink RX6 7 "HingeNumbers$Remainders" "prime" "I"] ++ wsX60)
def wsX6_divide : List Cond := .code yX6_divide cX6_divide 3 (some .int) :: ([.fieldLink RX6 7 "HingeNumbers$Remainders" "prime" "I", .methodLink RX6 17 yX6_power, .instanceMethod yX6_power, .selects RX6 yX6_power yX6_power, .initialized RX6, .code yX6_power cX6_power 6 (some .int), .methodLink RX6 13 yX6_of, .instanceMethod yX6_of, .selects RX6 yX6_of yX6_of, .code yX6_of cX6_of 3 (some .int)] ++ wsX60)
def wsX5_valueOfNode_r1 : List Cond := [Cond.fieldLink RX5 41 "HingeNumbers$Reckoner" "state" "LHingeNumbers$State;", Cond.fieldLink RX5 26 "HingeNumbers$Reckoner" "nodeValues" "LHingeNumbers$Table;", Cond.methodLink RX5 62 yX7_expressionOf, Cond.instanceMethod yX7_expressionOf, Cond.selects RX7 yX7_expressionOf yX7_expressionOf, Cond.initialized RX7, Cond.code yX7_expressionOf cX7_expressionOf 2 (some (.object "HingeNumbers$Expression")), Cond.fieldLink RX7 15 "HingeNumbers$State" "f" "LHingeNumbers$Expression;", Cond.fieldLink RX7 19 "HingeNumbers$State" "g" "LHingeNumbers$Expression;", Cond.fieldLink RX7 22 "HingeNumbers$State" "h" "LHingeNumbers$Expression;", Cond.fieldLink RX7 25 "HingeNumbers$State" "k" "LHingeNumbers$Expression;", Cond.methodLink RX5 96 yX7_numbers, Cond.instanceMethod yX7_numbers, Cond.selects RX7 yX7_numbers yX7_numbers, Cond.code yX7_numbers cX7_numbers 1 (some (.object "HingeNumbers$Remainders")), Cond.fieldLink RX7 9 "HingeNumbers$State" "numbers" "LHingeNumbers$Remainders;", Cond.methodLink RX5 86 yX1_left, Cond.instanceMethod yX1_left, Cond.selects RX1 yX1_left yX1_left, Cond.initialized RX1, Cond.code yX1_left cX1_left 2 (some .int), Cond.fieldLink RX1 18 "HingeNumbers$Expression" "lefts" "[I", Cond.methodLink RX5 51 yX8_get, Cond.instanceMethod yX8_get]
def wsX5_valueOfNode_r2 : List Cond := [Cond.selects RX8 yX8_get yX8_get, Cond.initialized RX8, Cond.code yX8_get cX8_get 3 (some .int), Cond.fieldLink RX8 18 "HingeNumbers$Table" "width" "I", Cond.fieldLink RX8 24 "HingeNumbers$Table" "cells" "[I", Cond.static yX10_at, Cond.initialized RX10, Cond.code yX10_at cX10_at 2 (some .int), Cond.methodLink RX5 100 yX1_right, Cond.instanceMethod yX1_right, Cond.selects RX1 yX1_right yX1_right, Cond.code yX1_right cX1_right 2 (some .int), Cond.fieldLink RX1 21 "HingeNumbers$Expression" "rights" "[I", Cond.methodLink RX5 72 yX1_kind, Cond.instanceMethod yX1_kind, Cond.selects RX1 yX1_kind yX1_kind, Cond.code yX1_kind cX1_kind 2 (some .int), Cond.fieldLink RX1 9 "HingeNumbers$Expression" "kinds" "[I", Cond.methodLink RX5 83 yX1_number, Cond.instanceMethod yX1_number, Cond.selects RX1 yX1_number yX1_number, Cond.code yX1_number cX1_number 2 (some .int), Cond.fieldLink RX1 15 "HingeNumbers$Expression" "numbers" "[I", Cond.methodLink RX5 103 yX6_of]
def wsX5_valueOfNode_r3 : List Cond := [Cond.instanceMethod yX6_of, Cond.selects RX6 yX6_of yX6_of, Cond.initialized RX6, Cond.code yX6_of cX6_of 3 (some .int), Cond.fieldLink RX6 7 "HingeNumbers$Remainders" "prime" "I", Cond.methodLink RX5 108 yX6_subtract, Cond.instanceMethod yX6_subtract, Cond.selects RX6 yX6_subtract yX6_subtract, Cond.code yX6_subtract cX6_subtract 3 (some .int), Cond.methodLink RX6 13 yX6_of, Cond.methodLink RX5 111 yX6_add, Cond.instanceMethod yX6_add, Cond.selects RX6 yX6_add yX6_add, Cond.code yX6_add cX6_add 3 (some .int), Cond.methodLink RX5 114 yX6_multiply, Cond.instanceMethod yX6_multiply, Cond.selects RX6 yX6_multiply yX6_multiply, Cond.code yX6_multiply cX6_multiply 3 (some .int), Cond.methodLink RX5 117 yX6_divide, Cond.instanceMethod yX6_divide, Cond.selects RX6 yX6_divide yX6_divide, Cond.code yX6_divide cX6_divide 3 (some .int), Cond.methodLink RX6 17 yX6_power, Cond.instanceMethod yX6_power]
def wsX5_valueOfNode_r4 : List Cond := [Cond.selects RX6 yX6_power yX6_power, Cond.code yX6_power cX6_power 6 (some .int), Cond.methodLink RX5 120 yX6_power]
def wsX5_valueOfNode : List Cond := .code yX5_valueOfNode cX5_valueOfNode 8 (some .int) :: ((wsX5_valueOfNode_r1 ++ (wsX5_valueOfNode_r2 ++ (wsX5_valueOfNode_r3 ++ wsX5_valueOfNode_r4))) ++ wsX50 ++ wsX70 ++ wsX10 ++ wsX80 ++ wsX60)
def wsX8_set : List Cond := .code yX8_set cX8_set 4 none :: ([.fieldLink RX8 18 "HingeNumbers$Table" "width" "I", .fieldLink RX8 24 "HingeNumbers$Table" "cells" "[I", .static yX10_put, .initialized RX10, .code yX10_put cX10_put 3 none] ++ wsX80)
def wsX5_reckonValues_r1 : List Cond := [Cond.fieldLink RX5 41 "HingeNumbers$Reckoner" "state" "LHingeNumbers$State;", Cond.fieldLink RX5 26 "HingeNumbers$Reckoner" "nodeValues" "LHingeNumbers$Table;", Cond.methodLink RX5 62 yX7_expressionOf, Cond.instanceMethod yX7_expressionOf, Cond.selects RX7 yX7_expressionOf yX7_expressionOf, Cond.initialized RX7, Cond.code yX7_expressionOf cX7_expressionOf 2 (some (.object "HingeNumbers$Expression")), Cond.fieldLink RX7 15 "HingeNumbers$State" "f" "LHingeNumbers$Expression;", Cond.fieldLink RX7 19 "HingeNumbers$State" "g" "LHingeNumbers$Expression;", Cond.fieldLink RX7 22 "HingeNumbers$State" "h" "LHingeNumbers$Expression;", Cond.fieldLink RX7 25 "HingeNumbers$State" "k" "LHingeNumbers$Expression;", Cond.methodLink RX5 66 yX1_size, Cond.instanceMethod yX1_size, Cond.selects RX1 yX1_size yX1_size, Cond.initialized RX1, Cond.code yX1_size cX1_size 1 (some .int), Cond.fieldLink RX1 9 "HingeNumbers$Expression" "kinds" "[I", Cond.methodLink RX5 72 yX1_kind, Cond.instanceMethod yX1_kind, Cond.selects RX1 yX1_kind yX1_kind, Cond.code yX1_kind cX1_kind 2 (some .int), Cond.static yX10_at, Cond.initialized RX10, Cond.code yX10_at cX10_at 2 (some .int)]
def wsX5_reckonValues_r2 : List Cond := [Cond.methodLink RX5 76 yX5_valueOfCall, Cond.instanceMethod yX5_valueOfCall, Cond.selects RX5 yX5_valueOfCall yX5_valueOfCall, Cond.initialized RX5, Cond.methodLink RX5 79 yX5_valueOfNode, Cond.instanceMethod yX5_valueOfNode, Cond.selects RX5 yX5_valueOfNode yX5_valueOfNode, Cond.code yX5_valueOfNode cX5_valueOfNode 8 (some .int), Cond.methodLink RX5 96 yX7_numbers, Cond.instanceMethod yX7_numbers, Cond.selects RX7 yX7_numbers yX7_numbers, Cond.code yX7_numbers cX7_numbers 1 (some (.object "HingeNumbers$Remainders")), Cond.fieldLink RX7 9 "HingeNumbers$State" "numbers" "LHingeNumbers$Remainders;", Cond.methodLink RX5 86 yX1_left, Cond.instanceMethod yX1_left, Cond.selects RX1 yX1_left yX1_left, Cond.code yX1_left cX1_left 2 (some .int), Cond.fieldLink RX1 18 "HingeNumbers$Expression" "lefts" "[I", Cond.methodLink RX5 51 yX8_get, Cond.instanceMethod yX8_get, Cond.selects RX8 yX8_get yX8_get, Cond.initialized RX8, Cond.code yX8_get cX8_get 3 (some .int), Cond.fieldLink RX8 18 "HingeNumbers$Table" "width" "I"]
def wsX5_reckonValues_r3 : List Cond := [Cond.fieldLink RX8 24 "HingeNumbers$Table" "cells" "[I", Cond.methodLink RX5 100 yX1_right, Cond.instanceMethod yX1_right, Cond.selects RX1 yX1_right yX1_right, Cond.code yX1_right cX1_right 2 (some .int), Cond.fieldLink RX1 21 "HingeNumbers$Expression" "rights" "[I", Cond.methodLink RX5 83 yX1_number, Cond.instanceMethod yX1_number, Cond.selects RX1 yX1_number yX1_number, Cond.code yX1_number cX1_number 2 (some .int), Cond.fieldLink RX1 15 "HingeNumbers$Expression" "numbers" "[I", Cond.methodLink RX5 103 yX6_of, Cond.instanceMethod yX6_of, Cond.selects RX6 yX6_of yX6_of, Cond.initialized RX6, Cond.code yX6_of cX6_of 3 (some .int), Cond.fieldLink RX6 7 "HingeNumbers$Remainders" "prime" "I", Cond.methodLink RX5 108 yX6_subtract, Cond.instanceMethod yX6_subtract, Cond.selects RX6 yX6_subtract yX6_subtract, Cond.code yX6_subtract cX6_subtract 3 (some .int), Cond.methodLink RX6 13 yX6_of, Cond.methodLink RX5 111 yX6_add, Cond.instanceMethod yX6_add]
def wsX5_reckonValues_r4 : List Cond := [Cond.selects RX6 yX6_add yX6_add, Cond.code yX6_add cX6_add 3 (some .int), Cond.methodLink RX5 114 yX6_multiply, Cond.instanceMethod yX6_multiply, Cond.selects RX6 yX6_multiply yX6_multiply, Cond.code yX6_multiply cX6_multiply 3 (some .int), Cond.methodLink RX5 117 yX6_divide, Cond.instanceMethod yX6_divide, Cond.selects RX6 yX6_divide yX6_divide, Cond.code yX6_divide cX6_divide 3 (some .int), Cond.methodLink RX6 17 yX6_power, Cond.instanceMethod yX6_power, Cond.selects RX6 yX6_power yX6_power, Cond.code yX6_power cX6_power 6 (some .int), Cond.methodLink RX5 120 yX6_power, Cond.methodLink RX5 58 yX8_set, Cond.instanceMethod yX8_set, Cond.selects RX8 yX8_set yX8_set, Cond.code yX8_set cX8_set 4 none, Cond.static yX10_put, Cond.code yX10_put cX10_put 3 none, Cond.code yX5_value cX5_value 5 (some .int), Cond.fieldLink RX5 14 "HingeNumbers$Reckoner" "values" "LHingeNumbers$Table;", Cond.methodLink RX5 55 yX5_reckonValues]
def wsX5_reckonValues_r5 : List Cond := [Cond.instanceMethod yX5_reckonValues, Cond.selects RX5 yX5_reckonValues yX5_reckonValues, Cond.code yX5_valueOfCall cX5_valueOfCall 6 (some .int), Cond.methodLink RX5 89 yX5_mayUse, Cond.static yX5_mayUse, Cond.code yX5_mayUse cX5_mayUse 2 (some .boolean), Cond.methodLink RX5 93 yX5_value, Cond.instanceMethod yX5_value, Cond.selects RX5 yX5_value yX5_value]
def wsX5_reckonValues : List Cond := .code yX5_reckonValues cX5_reckonValues 6 (some .int) :: ((wsX5_reckonValues_r1 ++ (wsX5_reckonValues_r2 ++ (wsX5_reckonValues_r3 ++ (wsX5_reckonValues_r4 ++ wsX5_reckonValues_r5)))) ++ wsX50 ++ wsX70 ++ wsX10 ++ wsX80 ++ wsX60)
def wsX5_value_r1 : List Cond := [Cond.fieldLink RX5 14 "HingeNumbers$Reckoner" "values" "LHingeNumbers$Table;", Cond.methodLink RX5 51 yX8_get, Cond.instanceMethod yX8_get, Cond.selects RX8 yX8_get yX8_get, Cond.initialized RX8, Cond.code yX8_get cX8_get 3 (some .int), Cond.fieldLink RX8 18 "HingeNumbers$Table" "width" "I", Cond.fieldLink RX8 24 "HingeNumbers$Table" "cells" "[I", Cond.static yX10_at, Cond.initialized RX10, Cond.code yX10_at cX10_at 2 (some .int), Cond.methodLink RX5 55 yX5_reckonValues, Cond.instanceMethod yX5_reckonValues, Cond.selects RX5 yX5_reckonValues yX5_reckonValues, Cond.initialized RX5, Cond.methodLink RX5 58 yX8_set, Cond.instanceMethod yX8_set, Cond.selects RX8 yX8_set yX8_set, Cond.code yX8_set cX8_set 4 none, Cond.static yX10_put, Cond.code yX10_put cX10_put 3 none, Cond.code yX5_reckonValues cX5_reckonValues 6 (some .int), Cond.fieldLink RX5 41 "HingeNumbers$Reckoner" "state" "LHingeNumbers$State;", Cond.fieldLink RX5 26 "HingeNumbers$Reckoner" "nodeValues" "LHingeNumbers$Table;"]
def wsX5_value_r2 : List Cond := [Cond.methodLink RX5 62 yX7_expressionOf, Cond.instanceMethod yX7_expressionOf, Cond.selects RX7 yX7_expressionOf yX7_expressionOf, Cond.initialized RX7, Cond.code yX7_expressionOf cX7_expressionOf 2 (some (.object "HingeNumbers$Expression")), Cond.fieldLink RX7 15 "HingeNumbers$State" "f" "LHingeNumbers$Expression;", Cond.fieldLink RX7 19 "HingeNumbers$State" "g" "LHingeNumbers$Expression;", Cond.fieldLink RX7 22 "HingeNumbers$State" "h" "LHingeNumbers$Expression;", Cond.fieldLink RX7 25 "HingeNumbers$State" "k" "LHingeNumbers$Expression;", Cond.methodLink RX5 66 yX1_size, Cond.instanceMethod yX1_size, Cond.selects RX1 yX1_size yX1_size, Cond.initialized RX1, Cond.code yX1_size cX1_size 1 (some .int), Cond.fieldLink RX1 9 "HingeNumbers$Expression" "kinds" "[I", Cond.methodLink RX5 72 yX1_kind, Cond.instanceMethod yX1_kind, Cond.selects RX1 yX1_kind yX1_kind, Cond.code yX1_kind cX1_kind 2 (some .int), Cond.methodLink RX5 76 yX5_valueOfCall, Cond.instanceMethod yX5_valueOfCall, Cond.selects RX5 yX5_valueOfCall yX5_valueOfCall, Cond.methodLink RX5 79 yX5_valueOfNode, Cond.instanceMethod yX5_valueOfNode]
def wsX5_value_r3 : List Cond := [Cond.selects RX5 yX5_valueOfNode yX5_valueOfNode, Cond.code yX5_valueOfNode cX5_valueOfNode 8 (some .int), Cond.methodLink RX5 96 yX7_numbers, Cond.instanceMethod yX7_numbers, Cond.selects RX7 yX7_numbers yX7_numbers, Cond.code yX7_numbers cX7_numbers 1 (some (.object "HingeNumbers$Remainders")), Cond.fieldLink RX7 9 "HingeNumbers$State" "numbers" "LHingeNumbers$Remainders;", Cond.methodLink RX5 86 yX1_left, Cond.instanceMethod yX1_left, Cond.selects RX1 yX1_left yX1_left, Cond.code yX1_left cX1_left 2 (some .int), Cond.fieldLink RX1 18 "HingeNumbers$Expression" "lefts" "[I", Cond.methodLink RX5 100 yX1_right, Cond.instanceMethod yX1_right, Cond.selects RX1 yX1_right yX1_right, Cond.code yX1_right cX1_right 2 (some .int), Cond.fieldLink RX1 21 "HingeNumbers$Expression" "rights" "[I", Cond.methodLink RX5 83 yX1_number, Cond.instanceMethod yX1_number, Cond.selects RX1 yX1_number yX1_number, Cond.code yX1_number cX1_number 2 (some .int), Cond.fieldLink RX1 15 "HingeNumbers$Expression" "numbers" "[I", Cond.methodLink RX5 103 yX6_of, Cond.instanceMethod yX6_of]
def wsX5_value_r4 : List Cond := [Cond.selects RX6 yX6_of yX6_of, Cond.initialized RX6, Cond.code yX6_of cX6_of 3 (some .int), Cond.fieldLink RX6 7 "HingeNumbers$Remainders" "prime" "I", Cond.methodLink RX5 108 yX6_subtract, Cond.instanceMethod yX6_subtract, Cond.selects RX6 yX6_subtract yX6_subtract, Cond.code yX6_subtract cX6_subtract 3 (some .int), Cond.methodLink RX6 13 yX6_of, Cond.methodLink RX5 111 yX6_add, Cond.instanceMethod yX6_add, Cond.selects RX6 yX6_add yX6_add, Cond.code yX6_add cX6_add 3 (some .int), Cond.methodLink RX5 114 yX6_multiply, Cond.instanceMethod yX6_multiply, Cond.selects RX6 yX6_multiply yX6_multiply, Cond.code yX6_multiply cX6_multiply 3 (some .int), Cond.methodLink RX5 117 yX6_divide, Cond.instanceMethod yX6_divide, Cond.selects RX6 yX6_divide yX6_divide, Cond.code yX6_divide cX6_divide 3 (some .int), Cond.methodLink RX6 17 yX6_power, Cond.instanceMethod yX6_power, Cond.selects RX6 yX6_power yX6_power]
def wsX5_value_r5 : List Cond := [Cond.code yX6_power cX6_power 6 (some .int), Cond.methodLink RX5 120 yX6_power, Cond.code yX5_valueOfCall cX5_valueOfCall 6 (some .int), Cond.methodLink RX5 89 yX5_mayUse, Cond.static yX5_mayUse, Cond.code yX5_mayUse cX5_mayUse 2 (some .boolean), Cond.methodLink RX5 93 yX5_value, Cond.instanceMethod yX5_value, Cond.selects RX5 yX5_value yX5_value]
def wsX5_value : List Cond := .code yX5_value cX5_value 5 (some .int) :: ((wsX5_value_r1 ++ (wsX5_value_r2 ++ (wsX5_value_r3 ++ (wsX5_value_r4 ++ wsX5_value_r5)))) ++ wsX50 ++ wsX70 ++ wsX10 ++ wsX80 ++ wsX60)
def wsX5_valueOfCall_r1 : List Cond := [Cond.fieldLink RX5 41 "HingeNumbers$Reckoner" "state" "LHingeNumbers$State;", Cond.fieldLink RX5 26 "HingeNumbers$Reckoner" "nodeValues" "LHingeNumbers$Table;", Cond.methodLink RX5 62 yX7_expressionOf, Cond.instanceMethod yX7_expressionOf, Cond.selects RX7 yX7_expressionOf yX7_expressionOf, Cond.initialized RX7, Cond.code yX7_expressionOf cX7_expressionOf 2 (some (.object "HingeNumbers$Expression")), Cond.fieldLink RX7 15 "HingeNumbers$State" "f" "LHingeNumbers$Expression;", Cond.fieldLink RX7 19 "HingeNumbers$State" "g" "LHingeNumbers$Expression;", Cond.fieldLink RX7 22 "HingeNumbers$State" "h" "LHingeNumbers$Expression;", Cond.fieldLink RX7 25 "HingeNumbers$State" "k" "LHingeNumbers$Expression;", Cond.methodLink RX5 83 yX1_number, Cond.instanceMethod yX1_number, Cond.selects RX1 yX1_number yX1_number, Cond.initialized RX1, Cond.code yX1_number cX1_number 2 (some .int), Cond.fieldLink RX1 15 "HingeNumbers$Expression" "numbers" "[I", Cond.static yX10_at, Cond.initialized RX10, Cond.code yX10_at cX10_at 2 (some .int), Cond.methodLink RX5 86 yX1_left, Cond.instanceMethod yX1_left, Cond.selects RX1 yX1_left yX1_left, Cond.code yX1_left cX1_left 2 (some .int)]
def wsX5_valueOfCall_r2 : List Cond := [Cond.fieldLink RX1 18 "HingeNumbers$Expression" "lefts" "[I", Cond.methodLink RX5 51 yX8_get, Cond.instanceMethod yX8_get, Cond.selects RX8 yX8_get yX8_get, Cond.initialized RX8, Cond.code yX8_get cX8_get 3 (some .int), Cond.fieldLink RX8 18 "HingeNumbers$Table" "width" "I", Cond.fieldLink RX8 24 "HingeNumbers$Table" "cells" "[I", Cond.methodLink RX5 89 yX5_mayUse, Cond.static yX5_mayUse, Cond.initialized RX5, Cond.code yX5_mayUse cX5_mayUse 2 (some .boolean), Cond.methodLink RX5 93 yX5_value, Cond.instanceMethod yX5_value, Cond.selects RX5 yX5_value yX5_value, Cond.code yX5_reckonValues cX5_reckonValues 6 (some .int), Cond.methodLink RX5 66 yX1_size, Cond.instanceMethod yX1_size, Cond.selects RX1 yX1_size yX1_size, Cond.code yX1_size cX1_size 1 (some .int), Cond.fieldLink RX1 9 "HingeNumbers$Expression" "kinds" "[I", Cond.methodLink RX5 72 yX1_kind, Cond.instanceMethod yX1_kind, Cond.selects RX1 yX1_kind yX1_kind]
def wsX5_valueOfCall_r3 : List Cond := [Cond.code yX1_kind cX1_kind 2 (some .int), Cond.methodLink RX5 76 yX5_valueOfCall, Cond.instanceMethod yX5_valueOfCall, Cond.selects RX5 yX5_valueOfCall yX5_valueOfCall, Cond.methodLink RX5 79 yX5_valueOfNode, Cond.instanceMethod yX5_valueOfNode, Cond.selects RX5 yX5_valueOfNode yX5_valueOfNode, Cond.code yX5_valueOfNode cX5_valueOfNode 8 (some .int), Cond.methodLink RX5 96 yX7_numbers, Cond.instanceMethod yX7_numbers, Cond.selects RX7 yX7_numbers yX7_numbers, Cond.code yX7_numbers cX7_numbers 1 (some (.object "HingeNumbers$Remainders")), Cond.fieldLink RX7 9 "HingeNumbers$State" "numbers" "LHingeNumbers$Remainders;", Cond.methodLink RX5 100 yX1_right, Cond.instanceMethod yX1_right, Cond.selects RX1 yX1_right yX1_right, Cond.code yX1_right cX1_right 2 (some .int), Cond.fieldLink RX1 21 "HingeNumbers$Expression" "rights" "[I", Cond.methodLink RX5 103 yX6_of, Cond.instanceMethod yX6_of, Cond.selects RX6 yX6_of yX6_of, Cond.initialized RX6, Cond.code yX6_of cX6_of 3 (some .int), Cond.fieldLink RX6 7 "HingeNumbers$Remainders" "prime" "I"]
def wsX5_valueOfCall_r4 : List Cond := [Cond.methodLink RX5 108 yX6_subtract, Cond.instanceMethod yX6_subtract, Cond.selects RX6 yX6_subtract yX6_subtract, Cond.code yX6_subtract cX6_subtract 3 (some .int), Cond.methodLink RX6 13 yX6_of, Cond.methodLink RX5 111 yX6_add, Cond.instanceMethod yX6_add, Cond.selects RX6 yX6_add yX6_add, Cond.code yX6_add cX6_add 3 (some .int), Cond.methodLink RX5 114 yX6_multiply, Cond.instanceMethod yX6_multiply, Cond.selects RX6 yX6_multiply yX6_multiply, Cond.code yX6_multiply cX6_multiply 3 (some .int), Cond.methodLink RX5 117 yX6_divide, Cond.instanceMethod yX6_divide, Cond.selects RX6 yX6_divide yX6_divide, Cond.code yX6_divide cX6_divide 3 (some .int), Cond.methodLink RX6 17 yX6_power, Cond.instanceMethod yX6_power, Cond.selects RX6 yX6_power yX6_power, Cond.code yX6_power cX6_power 6 (some .int), Cond.methodLink RX5 120 yX6_power, Cond.methodLink RX5 58 yX8_set, Cond.instanceMethod yX8_set]
def wsX5_valueOfCall_r5 : List Cond := [Cond.selects RX8 yX8_set yX8_set, Cond.code yX8_set cX8_set 4 none, Cond.static yX10_put, Cond.code yX10_put cX10_put 3 none, Cond.code yX5_value cX5_value 5 (some .int), Cond.fieldLink RX5 14 "HingeNumbers$Reckoner" "values" "LHingeNumbers$Table;", Cond.methodLink RX5 55 yX5_reckonValues, Cond.instanceMethod yX5_reckonValues, Cond.selects RX5 yX5_reckonValues yX5_reckonValues]
def wsX5_valueOfCall : List Cond := .code yX5_valueOfCall cX5_valueOfCall 6 (some .int) :: ((wsX5_valueOfCall_r1 ++ (wsX5_valueOfCall_r2 ++ (wsX5_valueOfCall_r3 ++ (wsX5_valueOfCall_r4 ++ wsX5_valueOfCall_r5)))) ++ wsX50 ++ wsX70 ++ wsX10 ++ wsX80 ++ wsX60)
def wsX6_powerSlope : List Cond := .code yX6_powerSlope cX6_powerSlope 3 (some .int) :: ([.methodLink RX6 17 yX6_power, .instanceMethod yX6_power, .selects RX6 yX6_power yX6_power, .initialized RX6, .code yX6_power cX6_power 6 (some .int), .fieldLink RX6 7 "HingeNumbers$Remainders" "prime" "I", .methodLink RX6 13 yX6_of, .instanceMethod yX6_of, .selects RX6 yX6_of yX6_of, .code yX6_of cX6_of 3 (some .int)] ++ wsX60)
def wsX5_slopeOfNode_r1 : List Cond := [Cond.fieldLink RX5 41 "HingeNumbers$Reckoner" "state" "LHingeNumbers$State;", Cond.fieldLink RX5 26 "HingeNumbers$Reckoner" "nodeValues" "LHingeNumbers$Table;", Cond.fieldLink RX5 29 "HingeNumbers$Reckoner" "nodeSlopes" "LHingeNumbers$Table;", Cond.methodLink RX5 62 yX7_expressionOf, Cond.instanceMethod yX7_expressionOf, Cond.selects RX7 yX7_expressionOf yX7_expressionOf, Cond.initialized RX7, Cond.code yX7_expressionOf cX7_expressionOf 2 (some (.object "HingeNumbers$Expression")), Cond.fieldLink RX7 15 "HingeNumbers$State" "f" "LHingeNumbers$Expression;", Cond.fieldLink RX7 19 "HingeNumbers$State" "g" "LHingeNumbers$Expression;", Cond.fieldLink RX7 22 "HingeNumbers$State" "h" "LHingeNumbers$Expression;", Cond.fieldLink RX7 25 "HingeNumbers$State" "k" "LHingeNumbers$Expression;", Cond.methodLink RX5 96 yX7_numbers, Cond.instanceMethod yX7_numbers, Cond.selects RX7 yX7_numbers yX7_numbers, Cond.code yX7_numbers cX7_numbers 1 (some (.object "HingeNumbers$Remainders")), Cond.fieldLink RX7 9 "HingeNumbers$State" "numbers" "LHingeNumbers$Remainders;", Cond.methodLink RX5 86 yX1_left, Cond.instanceMethod yX1_left, Cond.selects RX1 yX1_left yX1_left, Cond.initialized RX1, Cond.code yX1_left cX1_left 2 (some .int), Cond.fieldLink RX1 18 "HingeNumbers$Expression" "lefts" "[I", Cond.methodLink RX5 51 yX8_get]
def wsX5_slopeOfNode_r2 : List Cond := [Cond.instanceMethod yX8_get, Cond.selects RX8 yX8_get yX8_get, Cond.initialized RX8, Cond.code yX8_get cX8_get 3 (some .int), Cond.fieldLink RX8 18 "HingeNumbers$Table" "width" "I", Cond.fieldLink RX8 24 "HingeNumbers$Table" "cells" "[I", Cond.static yX10_at, Cond.initialized RX10, Cond.code yX10_at cX10_at 2 (some .int), Cond.methodLink RX5 100 yX1_right, Cond.instanceMethod yX1_right, Cond.selects RX1 yX1_right yX1_right, Cond.code yX1_right cX1_right 2 (some .int), Cond.fieldLink RX1 21 "HingeNumbers$Expression" "rights" "[I", Cond.methodLink RX5 72 yX1_kind, Cond.instanceMethod yX1_kind, Cond.selects RX1 yX1_kind yX1_kind, Cond.code yX1_kind cX1_kind 2 (some .int), Cond.fieldLink RX1 9 "HingeNumbers$Expression" "kinds" "[I", Cond.methodLink RX5 108 yX6_subtract, Cond.instanceMethod yX6_subtract, Cond.selects RX6 yX6_subtract yX6_subtract, Cond.initialized RX6, Cond.code yX6_subtract cX6_subtract 3 (some .int)]
def wsX5_slopeOfNode_r3 : List Cond := [Cond.methodLink RX6 13 yX6_of, Cond.instanceMethod yX6_of, Cond.selects RX6 yX6_of yX6_of, Cond.code yX6_of cX6_of 3 (some .int), Cond.fieldLink RX6 7 "HingeNumbers$Remainders" "prime" "I", Cond.methodLink RX5 111 yX6_add, Cond.instanceMethod yX6_add, Cond.selects RX6 yX6_add yX6_add, Cond.code yX6_add cX6_add 3 (some .int), Cond.methodLink RX5 103 yX6_of, Cond.methodLink RX5 114 yX6_multiply, Cond.instanceMethod yX6_multiply, Cond.selects RX6 yX6_multiply yX6_multiply, Cond.code yX6_multiply cX6_multiply 3 (some .int), Cond.methodLink RX5 117 yX6_divide, Cond.instanceMethod yX6_divide, Cond.selects RX6 yX6_divide yX6_divide, Cond.code yX6_divide cX6_divide 3 (some .int), Cond.methodLink RX6 17 yX6_power, Cond.instanceMethod yX6_power, Cond.selects RX6 yX6_power yX6_power, Cond.code yX6_power cX6_power 6 (some .int), Cond.methodLink RX5 83 yX1_number, Cond.instanceMethod yX1_number]
def wsX5_slopeOfNode_r4 : List Cond := [Cond.selects RX1 yX1_number yX1_number, Cond.code yX1_number cX1_number 2 (some .int), Cond.fieldLink RX1 15 "HingeNumbers$Expression" "numbers" "[I", Cond.methodLink RX5 139 yX6_powerSlope, Cond.instanceMethod yX6_powerSlope, Cond.selects RX6 yX6_powerSlope yX6_powerSlope, Cond.code yX6_powerSlope cX6_powerSlope 3 (some .int)]
def wsX5_slopeOfNode : List Cond := .code yX5_slopeOfNode cX5_slopeOfNode 10 (some .int) :: ((wsX5_slopeOfNode_r1 ++ (wsX5_slopeOfNode_r2 ++ (wsX5_slopeOfNode_r3 ++ wsX5_slopeOfNode_r4))) ++ wsX50 ++ wsX70 ++ wsX10 ++ wsX80 ++ wsX60)
def wsX5_hingeOfNode_r1 : List Cond := [Cond.fieldLink RX5 26 "HingeNumbers$Reckoner" "nodeValues" "LHingeNumbers$Table;", Cond.methodLink RX5 79 yX5_valueOfNode, Cond.instanceMethod yX5_valueOfNode, Cond.selects RX5 yX5_valueOfNode yX5_valueOfNode, Cond.initialized RX5, Cond.code yX5_valueOfNode cX5_valueOfNode 8 (some .int), Cond.fieldLink RX5 41 "HingeNumbers$Reckoner" "state" "LHingeNumbers$State;", Cond.methodLink RX5 62 yX7_expressionOf, Cond.instanceMethod yX7_expressionOf, Cond.selects RX7 yX7_expressionOf yX7_expressionOf, Cond.initialized RX7, Cond.code yX7_expressionOf cX7_expressionOf 2 (some (.object "HingeNumbers$Expression")), Cond.fieldLink RX7 15 "HingeNumbers$State" "f" "LHingeNumbers$Expression;", Cond.fieldLink RX7 19 "HingeNumbers$State" "g" "LHingeNumbers$Expression;", Cond.fieldLink RX7 22 "HingeNumbers$State" "h" "LHingeNumbers$Expression;", Cond.fieldLink RX7 25 "HingeNumbers$State" "k" "LHingeNumbers$Expression;", Cond.methodLink RX5 96 yX7_numbers, Cond.instanceMethod yX7_numbers, Cond.selects RX7 yX7_numbers yX7_numbers, Cond.code yX7_numbers cX7_numbers 1 (some (.object "HingeNumbers$Remainders")), Cond.fieldLink RX7 9 "HingeNumbers$State" "numbers" "LHingeNumbers$Remainders;", Cond.methodLink RX5 86 yX1_left, Cond.instanceMethod yX1_left, Cond.selects RX1 yX1_left yX1_left]
def wsX5_hingeOfNode_r2 : List Cond := [Cond.initialized RX1, Cond.code yX1_left cX1_left 2 (some .int), Cond.fieldLink RX1 18 "HingeNumbers$Expression" "lefts" "[I", Cond.methodLink RX5 51 yX8_get, Cond.instanceMethod yX8_get, Cond.selects RX8 yX8_get yX8_get, Cond.initialized RX8, Cond.code yX8_get cX8_get 3 (some .int), Cond.fieldLink RX8 18 "HingeNumbers$Table" "width" "I", Cond.fieldLink RX8 24 "HingeNumbers$Table" "cells" "[I", Cond.static yX10_at, Cond.initialized RX10, Cond.code yX10_at cX10_at 2 (some .int), Cond.methodLink RX5 100 yX1_right, Cond.instanceMethod yX1_right, Cond.selects RX1 yX1_right yX1_right, Cond.code yX1_right cX1_right 2 (some .int), Cond.fieldLink RX1 21 "HingeNumbers$Expression" "rights" "[I", Cond.methodLink RX5 72 yX1_kind, Cond.instanceMethod yX1_kind, Cond.selects RX1 yX1_kind yX1_kind, Cond.code yX1_kind cX1_kind 2 (some .int), Cond.fieldLink RX1 9 "HingeNumbers$Expression" "kinds" "[I", Cond.methodLink RX5 83 yX1_number]
def wsX5_hingeOfNode_r3 : List Cond := [Cond.instanceMethod yX1_number, Cond.selects RX1 yX1_number yX1_number, Cond.code yX1_number cX1_number 2 (some .int), Cond.fieldLink RX1 15 "HingeNumbers$Expression" "numbers" "[I", Cond.methodLink RX5 103 yX6_of, Cond.instanceMethod yX6_of, Cond.selects RX6 yX6_of yX6_of, Cond.initialized RX6, Cond.code yX6_of cX6_of 3 (some .int), Cond.fieldLink RX6 7 "HingeNumbers$Remainders" "prime" "I", Cond.methodLink RX5 108 yX6_subtract, Cond.instanceMethod yX6_subtract, Cond.selects RX6 yX6_subtract yX6_subtract, Cond.code yX6_subtract cX6_subtract 3 (some .int), Cond.methodLink RX6 13 yX6_of, Cond.methodLink RX5 111 yX6_add, Cond.instanceMethod yX6_add, Cond.selects RX6 yX6_add yX6_add, Cond.code yX6_add cX6_add 3 (some .int), Cond.methodLink RX5 114 yX6_multiply, Cond.instanceMethod yX6_multiply, Cond.selects RX6 yX6_multiply yX6_multiply, Cond.code yX6_multiply cX6_multiply 3 (some .int), Cond.methodLink RX5 117 yX6_divide]
def wsX5_hingeOfNode_r4 : List Cond := [Cond.instanceMethod yX6_divide, Cond.selects RX6 yX6_divide yX6_divide, Cond.code yX6_divide cX6_divide 3 (some .int), Cond.methodLink RX6 17 yX6_power, Cond.instanceMethod yX6_power, Cond.selects RX6 yX6_power yX6_power, Cond.code yX6_power cX6_power 6 (some .int), Cond.methodLink RX5 120 yX6_power, Cond.methodLink RX5 58 yX8_set, Cond.instanceMethod yX8_set, Cond.selects RX8 yX8_set yX8_set, Cond.code yX8_set cX8_set 4 none, Cond.static yX10_put, Cond.code yX10_put cX10_put 3 none, Cond.methodLink RX5 136 yX5_slopeOfNode, Cond.instanceMethod yX5_slopeOfNode, Cond.selects RX5 yX5_slopeOfNode yX5_slopeOfNode, Cond.code yX5_slopeOfNode cX5_slopeOfNode 10 (some .int), Cond.fieldLink RX5 29 "HingeNumbers$Reckoner" "nodeSlopes" "LHingeNumbers$Table;", Cond.methodLink RX5 139 yX6_powerSlope, Cond.instanceMethod yX6_powerSlope, Cond.selects RX6 yX6_powerSlope yX6_powerSlope, Cond.code yX6_powerSlope cX6_powerSlope 3 (some .int)]
def wsX5_hingeOfNode : List Cond := .code yX5_hingeOfNode cX5_hingeOfNode 6 (some .int) :: ((wsX5_hingeOfNode_r1 ++ (wsX5_hingeOfNode_r2 ++ (wsX5_hingeOfNode_r3 ++ wsX5_hingeOfNode_r4))) ++ wsX50 ++ wsX70 ++ wsX10 ++ wsX80 ++ wsX60)
def wsX5_feed_r1 : List Cond := [Cond.fieldLink RX5 41 "HingeNumbers$Reckoner" "state" "LHingeNumbers$State;", Cond.fieldLink RX5 29 "HingeNumbers$Reckoner" "nodeSlopes" "LHingeNumbers$Table;", Cond.methodLink RX5 62 yX7_expressionOf, Cond.instanceMethod yX7_expressionOf, Cond.selects RX7 yX7_expressionOf yX7_expressionOf, Cond.initialized RX7, Cond.code yX7_expressionOf cX7_expressionOf 2 (some (.object "HingeNumbers$Expression")), Cond.fieldLink RX7 15 "HingeNumbers$State" "f" "LHingeNumbers$Expression;", Cond.fieldLink RX7 19 "HingeNumbers$State" "g" "LHingeNumbers$Expression;", Cond.fieldLink RX7 22 "HingeNumbers$State" "h" "LHingeNumbers$Expression;", Cond.fieldLink RX7 25 "HingeNumbers$State" "k" "LHingeNumbers$Expression;", Cond.methodLink RX5 66 yX1_size, Cond.instanceMethod yX1_size, Cond.selects RX1 yX1_size yX1_size, Cond.initialized RX1, Cond.code yX1_size cX1_size 1 (some .int), Cond.fieldLink RX1 9 "HingeNumbers$Expression" "kinds" "[I", Cond.methodLink RX5 72 yX1_kind, Cond.instanceMethod yX1_kind, Cond.selects RX1 yX1_kind yX1_kind, Cond.code yX1_kind cX1_kind 2 (some .int), Cond.static yX10_at, Cond.initialized RX10, Cond.code yX10_at cX10_at 2 (some .int)]
def wsX5_feed_r2 : List Cond := [Cond.methodLink RX5 126 yX5_hingeOfCall, Cond.instanceMethod yX5_hingeOfCall, Cond.selects RX5 yX5_hingeOfCall yX5_hingeOfCall, Cond.initialized RX5, Cond.methodLink RX5 129 yX5_hingeOfNode, Cond.instanceMethod yX5_hingeOfNode, Cond.selects RX5 yX5_hingeOfNode yX5_hingeOfNode, Cond.code yX5_hingeOfNode cX5_hingeOfNode 6 (some .int), Cond.fieldLink RX5 26 "HingeNumbers$Reckoner" "nodeValues" "LHingeNumbers$Table;", Cond.methodLink RX5 79 yX5_valueOfNode, Cond.instanceMethod yX5_valueOfNode, Cond.selects RX5 yX5_valueOfNode yX5_valueOfNode, Cond.code yX5_valueOfNode cX5_valueOfNode 8 (some .int), Cond.methodLink RX5 96 yX7_numbers, Cond.instanceMethod yX7_numbers, Cond.selects RX7 yX7_numbers yX7_numbers, Cond.code yX7_numbers cX7_numbers 1 (some (.object "HingeNumbers$Remainders")), Cond.fieldLink RX7 9 "HingeNumbers$State" "numbers" "LHingeNumbers$Remainders;", Cond.methodLink RX5 86 yX1_left, Cond.instanceMethod yX1_left, Cond.selects RX1 yX1_left yX1_left, Cond.code yX1_left cX1_left 2 (some .int), Cond.fieldLink RX1 18 "HingeNumbers$Expression" "lefts" "[I", Cond.methodLink RX5 51 yX8_get]
def wsX5_feed_r3 : List Cond := [Cond.instanceMethod yX8_get, Cond.selects RX8 yX8_get yX8_get, Cond.initialized RX8, Cond.code yX8_get cX8_get 3 (some .int), Cond.fieldLink RX8 18 "HingeNumbers$Table" "width" "I", Cond.fieldLink RX8 24 "HingeNumbers$Table" "cells" "[I", Cond.methodLink RX5 100 yX1_right, Cond.instanceMethod yX1_right, Cond.selects RX1 yX1_right yX1_right, Cond.code yX1_right cX1_right 2 (some .int), Cond.fieldLink RX1 21 "HingeNumbers$Expression" "rights" "[I", Cond.methodLink RX5 83 yX1_number, Cond.instanceMethod yX1_number, Cond.selects RX1 yX1_number yX1_number, Cond.code yX1_number cX1_number 2 (some .int), Cond.fieldLink RX1 15 "HingeNumbers$Expression" "numbers" "[I", Cond.methodLink RX5 103 yX6_of, Cond.instanceMethod yX6_of, Cond.selects RX6 yX6_of yX6_of, Cond.initialized RX6, Cond.code yX6_of cX6_of 3 (some .int), Cond.fieldLink RX6 7 "HingeNumbers$Remainders" "prime" "I", Cond.methodLink RX5 108 yX6_subtract, Cond.instanceMethod yX6_subtract]
def wsX5_feed_r4 : List Cond := [Cond.selects RX6 yX6_subtract yX6_subtract, Cond.code yX6_subtract cX6_subtract 3 (some .int), Cond.methodLink RX6 13 yX6_of, Cond.methodLink RX5 111 yX6_add, Cond.instanceMethod yX6_add, Cond.selects RX6 yX6_add yX6_add, Cond.code yX6_add cX6_add 3 (some .int), Cond.methodLink RX5 114 yX6_multiply, Cond.instanceMethod yX6_multiply, Cond.selects RX6 yX6_multiply yX6_multiply, Cond.code yX6_multiply cX6_multiply 3 (some .int), Cond.methodLink RX5 117 yX6_divide, Cond.instanceMethod yX6_divide, Cond.selects RX6 yX6_divide yX6_divide, Cond.code yX6_divide cX6_divide 3 (some .int), Cond.methodLink RX6 17 yX6_power, Cond.instanceMethod yX6_power, Cond.selects RX6 yX6_power yX6_power, Cond.code yX6_power cX6_power 6 (some .int), Cond.methodLink RX5 120 yX6_power, Cond.methodLink RX5 58 yX8_set, Cond.instanceMethod yX8_set, Cond.selects RX8 yX8_set yX8_set, Cond.code yX8_set cX8_set 4 none]
def wsX5_feed_r5 : List Cond := [Cond.static yX10_put, Cond.code yX10_put cX10_put 3 none, Cond.methodLink RX5 136 yX5_slopeOfNode, Cond.instanceMethod yX5_slopeOfNode, Cond.selects RX5 yX5_slopeOfNode yX5_slopeOfNode, Cond.code yX5_slopeOfNode cX5_slopeOfNode 10 (some .int), Cond.methodLink RX5 139 yX6_powerSlope, Cond.instanceMethod yX6_powerSlope, Cond.selects RX6 yX6_powerSlope yX6_powerSlope, Cond.code yX6_powerSlope cX6_powerSlope 3 (some .int), Cond.code yX5_hingeOfCall cX5_hingeOfCall 7 (some .int), Cond.fieldLink RX5 14 "HingeNumbers$Reckoner" "values" "LHingeNumbers$Table;", Cond.methodLink RX5 89 yX5_mayUse, Cond.static yX5_mayUse, Cond.code yX5_mayUse cX5_mayUse 2 (some .boolean), Cond.methodLink RX5 133 yX5_hingeSlope, Cond.instanceMethod yX5_hingeSlope, Cond.selects RX5 yX5_hingeSlope yX5_hingeSlope, Cond.code yX5_hingeSlope cX5_hingeSlope 6 (some .int), Cond.fieldLink RX5 20 "HingeNumbers$Reckoner" "hingeSlopes" "LHingeNumbers$Table;", Cond.methodLink RX5 123 yX5_feed, Cond.instanceMethod yX5_feed, Cond.selects RX5 yX5_feed yX5_feed]
def wsX5_feed : List Cond := .code yX5_feed cX5_feed 7 (some .int) :: ((wsX5_feed_r1 ++ (wsX5_feed_r2 ++ (wsX5_feed_r3 ++ (wsX5_feed_r4 ++ wsX5_feed_r5)))) ++ wsX50 ++ wsX70 ++ wsX10 ++ wsX80 ++ wsX60)
def wsX5_hingeOfCall_r1 : List Cond := [Cond.fieldLink RX5 41 "HingeNumbers$Reckoner" "state" "LHingeNumbers$State;", Cond.fieldLink RX5 26 "HingeNumbers$Reckoner" "nodeValues" "LHingeNumbers$Table;", Cond.fieldLink RX5 14 "HingeNumbers$Reckoner" "values" "LHingeNumbers$Table;", Cond.fieldLink RX5 29 "HingeNumbers$Reckoner" "nodeSlopes" "LHingeNumbers$Table;", Cond.methodLink RX5 62 yX7_expressionOf, Cond.instanceMethod yX7_expressionOf, Cond.selects RX7 yX7_expressionOf yX7_expressionOf, Cond.initialized RX7, Cond.code yX7_expressionOf cX7_expressionOf 2 (some (.object "HingeNumbers$Expression")), Cond.fieldLink RX7 15 "HingeNumbers$State" "f" "LHingeNumbers$Expression;", Cond.fieldLink RX7 19 "HingeNumbers$State" "g" "LHingeNumbers$Expression;", Cond.fieldLink RX7 22 "HingeNumbers$State" "h" "LHingeNumbers$Expression;", Cond.fieldLink RX7 25 "HingeNumbers$State" "k" "LHingeNumbers$Expression;", Cond.methodLink RX5 83 yX1_number, Cond.instanceMethod yX1_number, Cond.selects RX1 yX1_number yX1_number, Cond.initialized RX1, Cond.code yX1_number cX1_number 2 (some .int), Cond.fieldLink RX1 15 "HingeNumbers$Expression" "numbers" "[I", Cond.static yX10_at, Cond.initialized RX10, Cond.code yX10_at cX10_at 2 (some .int), Cond.methodLink RX5 86 yX1_left, Cond.instanceMethod yX1_left]
def wsX5_hingeOfCall_r2 : List Cond := [Cond.selects RX1 yX1_left yX1_left, Cond.code yX1_left cX1_left 2 (some .int), Cond.fieldLink RX1 18 "HingeNumbers$Expression" "lefts" "[I", Cond.methodLink RX5 51 yX8_get, Cond.instanceMethod yX8_get, Cond.selects RX8 yX8_get yX8_get, Cond.initialized RX8, Cond.code yX8_get cX8_get 3 (some .int), Cond.fieldLink RX8 18 "HingeNumbers$Table" "width" "I", Cond.fieldLink RX8 24 "HingeNumbers$Table" "cells" "[I", Cond.methodLink RX5 89 yX5_mayUse, Cond.static yX5_mayUse, Cond.initialized RX5, Cond.code yX5_mayUse cX5_mayUse 2 (some .boolean), Cond.methodLink RX5 133 yX5_hingeSlope, Cond.instanceMethod yX5_hingeSlope, Cond.selects RX5 yX5_hingeSlope yX5_hingeSlope, Cond.methodLink RX5 58 yX8_set, Cond.instanceMethod yX8_set, Cond.selects RX8 yX8_set yX8_set, Cond.code yX8_set cX8_set 4 none, Cond.static yX10_put, Cond.code yX10_put cX10_put 3 none, Cond.methodLink RX5 96 yX7_numbers]
def wsX5_hingeOfCall_r3 : List Cond := [Cond.instanceMethod yX7_numbers, Cond.selects RX7 yX7_numbers yX7_numbers, Cond.code yX7_numbers cX7_numbers 1 (some (.object "HingeNumbers$Remainders")), Cond.fieldLink RX7 9 "HingeNumbers$State" "numbers" "LHingeNumbers$Remainders;", Cond.methodLink RX5 114 yX6_multiply, Cond.instanceMethod yX6_multiply, Cond.selects RX6 yX6_multiply yX6_multiply, Cond.initialized RX6, Cond.code yX6_multiply cX6_multiply 3 (some .int), Cond.methodLink RX6 13 yX6_of, Cond.instanceMethod yX6_of, Cond.selects RX6 yX6_of yX6_of, Cond.code yX6_of cX6_of 3 (some .int), Cond.fieldLink RX6 7 "HingeNumbers$Remainders" "prime" "I", Cond.code yX5_feed cX5_feed 7 (some .int), Cond.methodLink RX5 66 yX1_size, Cond.instanceMethod yX1_size, Cond.selects RX1 yX1_size yX1_size, Cond.code yX1_size cX1_size 1 (some .int), Cond.fieldLink RX1 9 "HingeNumbers$Expression" "kinds" "[I", Cond.methodLink RX5 72 yX1_kind, Cond.instanceMethod yX1_kind, Cond.selects RX1 yX1_kind yX1_kind, Cond.code yX1_kind cX1_kind 2 (some .int)]
def wsX5_hingeOfCall_r4 : List Cond := [Cond.methodLink RX5 126 yX5_hingeOfCall, Cond.instanceMethod yX5_hingeOfCall, Cond.selects RX5 yX5_hingeOfCall yX5_hingeOfCall, Cond.methodLink RX5 129 yX5_hingeOfNode, Cond.instanceMethod yX5_hingeOfNode, Cond.selects RX5 yX5_hingeOfNode yX5_hingeOfNode, Cond.code yX5_hingeOfNode cX5_hingeOfNode 6 (some .int), Cond.methodLink RX5 79 yX5_valueOfNode, Cond.instanceMethod yX5_valueOfNode, Cond.selects RX5 yX5_valueOfNode yX5_valueOfNode, Cond.code yX5_valueOfNode cX5_valueOfNode 8 (some .int), Cond.methodLink RX5 100 yX1_right, Cond.instanceMethod yX1_right, Cond.selects RX1 yX1_right yX1_right, Cond.code yX1_right cX1_right 2 (some .int), Cond.fieldLink RX1 21 "HingeNumbers$Expression" "rights" "[I", Cond.methodLink RX5 103 yX6_of, Cond.methodLink RX5 108 yX6_subtract, Cond.instanceMethod yX6_subtract, Cond.selects RX6 yX6_subtract yX6_subtract, Cond.code yX6_subtract cX6_subtract 3 (some .int), Cond.methodLink RX5 111 yX6_add, Cond.instanceMethod yX6_add, Cond.selects RX6 yX6_add yX6_add]
def wsX5_hingeOfCall_r5 : List Cond := [Cond.code yX6_add cX6_add 3 (some .int), Cond.methodLink RX5 117 yX6_divide, Cond.instanceMethod yX6_divide, Cond.selects RX6 yX6_divide yX6_divide, Cond.code yX6_divide cX6_divide 3 (some .int), Cond.methodLink RX6 17 yX6_power, Cond.instanceMethod yX6_power, Cond.selects RX6 yX6_power yX6_power, Cond.code yX6_power cX6_power 6 (some .int), Cond.methodLink RX5 120 yX6_power, Cond.methodLink RX5 136 yX5_slopeOfNode, Cond.instanceMethod yX5_slopeOfNode, Cond.selects RX5 yX5_slopeOfNode yX5_slopeOfNode, Cond.code yX5_slopeOfNode cX5_slopeOfNode 10 (some .int), Cond.methodLink RX5 139 yX6_powerSlope, Cond.instanceMethod yX6_powerSlope, Cond.selects RX6 yX6_powerSlope yX6_powerSlope, Cond.code yX6_powerSlope cX6_powerSlope 3 (some .int), Cond.code yX5_hingeSlope cX5_hingeSlope 6 (some .int), Cond.fieldLink RX5 20 "HingeNumbers$Reckoner" "hingeSlopes" "LHingeNumbers$Table;", Cond.methodLink RX5 123 yX5_feed, Cond.instanceMethod yX5_feed, Cond.selects RX5 yX5_feed yX5_feed]
def wsX5_hingeOfCall : List Cond := .code yX5_hingeOfCall cX5_hingeOfCall 7 (some .int) :: ((wsX5_hingeOfCall_r1 ++ (wsX5_hingeOfCall_r2 ++ (wsX5_hingeOfCall_r3 ++ (wsX5_hingeOfCall_r4 ++ wsX5_hingeOfCall_r5)))) ++ wsX50 ++ wsX70 ++ wsX10 ++ wsX80 ++ wsX60)
def wsX5_hingeSlope_r1 : List Cond := [Cond.fieldLink RX5 20 "HingeNumbers$Reckoner" "hingeSlopes" "LHingeNumbers$Table;", Cond.fieldLink RX5 41 "HingeNumbers$Reckoner" "state" "LHingeNumbers$State;", Cond.fieldLink RX5 14 "HingeNumbers$Reckoner" "values" "LHingeNumbers$Table;", Cond.fieldLink RX5 26 "HingeNumbers$Reckoner" "nodeValues" "LHingeNumbers$Table;", Cond.methodLink RX5 51 yX8_get, Cond.instanceMethod yX8_get, Cond.selects RX8 yX8_get yX8_get, Cond.initialized RX8, Cond.code yX8_get cX8_get 3 (some .int), Cond.fieldLink RX8 18 "HingeNumbers$Table" "width" "I", Cond.fieldLink RX8 24 "HingeNumbers$Table" "cells" "[I", Cond.static yX10_at, Cond.initialized RX10, Cond.code yX10_at cX10_at 2 (some .int), Cond.methodLink RX5 123 yX5_feed, Cond.instanceMethod yX5_feed, Cond.selects RX5 yX5_feed yX5_feed, Cond.initialized RX5, Cond.methodLink RX5 62 yX7_expressionOf, Cond.instanceMethod yX7_expressionOf, Cond.selects RX7 yX7_expressionOf yX7_expressionOf, Cond.initialized RX7, Cond.code yX7_expressionOf cX7_expressionOf 2 (some (.object "HingeNumbers$Expression")), Cond.fieldLink RX7 15 "HingeNumbers$State" "f" "LHingeNumbers$Expression;"]
def wsX5_hingeSlope_r2 : List Cond := [Cond.fieldLink RX7 19 "HingeNumbers$State" "g" "LHingeNumbers$Expression;", Cond.fieldLink RX7 22 "HingeNumbers$State" "h" "LHingeNumbers$Expression;", Cond.fieldLink RX7 25 "HingeNumbers$State" "k" "LHingeNumbers$Expression;", Cond.methodLink RX5 66 yX1_size, Cond.instanceMethod yX1_size, Cond.selects RX1 yX1_size yX1_size, Cond.initialized RX1, Cond.code yX1_size cX1_size 1 (some .int), Cond.fieldLink RX1 9 "HingeNumbers$Expression" "kinds" "[I", Cond.methodLink RX5 58 yX8_set, Cond.instanceMethod yX8_set, Cond.selects RX8 yX8_set yX8_set, Cond.code yX8_set cX8_set 4 none, Cond.static yX10_put, Cond.code yX10_put cX10_put 3 none, Cond.code yX5_feed cX5_feed 7 (some .int), Cond.fieldLink RX5 29 "HingeNumbers$Reckoner" "nodeSlopes" "LHingeNumbers$Table;", Cond.methodLink RX5 72 yX1_kind, Cond.instanceMethod yX1_kind, Cond.selects RX1 yX1_kind yX1_kind, Cond.code yX1_kind cX1_kind 2 (some .int), Cond.methodLink RX5 126 yX5_hingeOfCall, Cond.instanceMethod yX5_hingeOfCall, Cond.selects RX5 yX5_hingeOfCall yX5_hingeOfCall]
def wsX5_hingeSlope_r3 : List Cond := [Cond.methodLink RX5 129 yX5_hingeOfNode, Cond.instanceMethod yX5_hingeOfNode, Cond.selects RX5 yX5_hingeOfNode yX5_hingeOfNode, Cond.code yX5_hingeOfNode cX5_hingeOfNode 6 (some .int), Cond.methodLink RX5 79 yX5_valueOfNode, Cond.instanceMethod yX5_valueOfNode, Cond.selects RX5 yX5_valueOfNode yX5_valueOfNode, Cond.code yX5_valueOfNode cX5_valueOfNode 8 (some .int), Cond.methodLink RX5 96 yX7_numbers, Cond.instanceMethod yX7_numbers, Cond.selects RX7 yX7_numbers yX7_numbers, Cond.code yX7_numbers cX7_numbers 1 (some (.object "HingeNumbers$Remainders")), Cond.fieldLink RX7 9 "HingeNumbers$State" "numbers" "LHingeNumbers$Remainders;", Cond.methodLink RX5 86 yX1_left, Cond.instanceMethod yX1_left, Cond.selects RX1 yX1_left yX1_left, Cond.code yX1_left cX1_left 2 (some .int), Cond.fieldLink RX1 18 "HingeNumbers$Expression" "lefts" "[I", Cond.methodLink RX5 100 yX1_right, Cond.instanceMethod yX1_right, Cond.selects RX1 yX1_right yX1_right, Cond.code yX1_right cX1_right 2 (some .int), Cond.fieldLink RX1 21 "HingeNumbers$Expression" "rights" "[I", Cond.methodLink RX5 83 yX1_number]
def wsX5_hingeSlope_r4 : List Cond := [Cond.instanceMethod yX1_number, Cond.selects RX1 yX1_number yX1_number, Cond.code yX1_number cX1_number 2 (some .int), Cond.fieldLink RX1 15 "HingeNumbers$Expression" "numbers" "[I", Cond.methodLink RX5 103 yX6_of, Cond.instanceMethod yX6_of, Cond.selects RX6 yX6_of yX6_of, Cond.initialized RX6, Cond.code yX6_of cX6_of 3 (some .int), Cond.fieldLink RX6 7 "HingeNumbers$Remainders" "prime" "I", Cond.methodLink RX5 108 yX6_subtract, Cond.instanceMethod yX6_subtract, Cond.selects RX6 yX6_subtract yX6_subtract, Cond.code yX6_subtract cX6_subtract 3 (some .int), Cond.methodLink RX6 13 yX6_of, Cond.methodLink RX5 111 yX6_add, Cond.instanceMethod yX6_add, Cond.selects RX6 yX6_add yX6_add, Cond.code yX6_add cX6_add 3 (some .int), Cond.methodLink RX5 114 yX6_multiply, Cond.instanceMethod yX6_multiply, Cond.selects RX6 yX6_multiply yX6_multiply, Cond.code yX6_multiply cX6_multiply 3 (some .int), Cond.methodLink RX5 117 yX6_divide]
def wsX5_hingeSlope_r5 : List Cond := [Cond.instanceMethod yX6_divide, Cond.selects RX6 yX6_divide yX6_divide, Cond.code yX6_divide cX6_divide 3 (some .int), Cond.methodLink RX6 17 yX6_power, Cond.instanceMethod yX6_power, Cond.selects RX6 yX6_power yX6_power, Cond.code yX6_power cX6_power 6 (some .int), Cond.methodLink RX5 120 yX6_power, Cond.methodLink RX5 136 yX5_slopeOfNode, Cond.instanceMethod yX5_slopeOfNode, Cond.selects RX5 yX5_slopeOfNode yX5_slopeOfNode, Cond.code yX5_slopeOfNode cX5_slopeOfNode 10 (some .int), Cond.methodLink RX5 139 yX6_powerSlope, Cond.instanceMethod yX6_powerSlope, Cond.selects RX6 yX6_powerSlope yX6_powerSlope, Cond.code yX6_powerSlope cX6_powerSlope 3 (some .int), Cond.code yX5_hingeOfCall cX5_hingeOfCall 7 (some .int), Cond.methodLink RX5 89 yX5_mayUse, Cond.static yX5_mayUse, Cond.code yX5_mayUse cX5_mayUse 2 (some .boolean), Cond.methodLink RX5 133 yX5_hingeSlope, Cond.instanceMethod yX5_hingeSlope, Cond.selects RX5 yX5_hingeSlope yX5_hingeSlope]
def wsX5_hingeSlope : List Cond := .code yX5_hingeSlope cX5_hingeSlope 6 (some .int) :: ((wsX5_hingeSlope_r1 ++ (wsX5_hingeSlope_r2 ++ (wsX5_hingeSlope_r3 ++ (wsX5_hingeSlope_r4 ++ wsX5_hingeSlope_r5)))) ++ wsX50 ++ wsX70 ++ wsX10 ++ wsX80 ++ wsX60)
def wsX5_rightShare_r1 : List Cond := [Cond.fieldLink RX5 41 "HingeNumbers$Reckoner" "state" "LHingeNumbers$State;", Cond.fieldLink RX5 26 "HingeNumbers$Reckoner" "nodeValues" "LHingeNumbers$Table;", Cond.methodLink RX5 62 yX7_expressionOf, Cond.instanceMethod yX7_expressionOf, Cond.selects RX7 yX7_expressionOf yX7_expressionOf, Cond.initialized RX7, Cond.code yX7_expressionOf cX7_expressionOf 2 (some (.object "HingeNumbers$Expression")), Cond.fieldLink RX7 15 "HingeNumbers$State" "f" "LHingeNumbers$Expression;", Cond.fieldLink RX7 19 "HingeNumbers$State" "g" "LHingeNumbers$Expression;", Cond.fieldLink RX7 22 "HingeNumbers$State" "h" "LHingeNumbers$Expression;", Cond.fieldLink RX7 25 "HingeNumbers$State" "k" "LHingeNumbers$Expression;", Cond.methodLink RX5 96 yX7_numbers, Cond.instanceMethod yX7_numbers, Cond.selects RX7 yX7_numbers yX7_numbers, Cond.code yX7_numbers cX7_numbers 1 (some (.object "HingeNumbers$Remainders")), Cond.fieldLink RX7 9 "HingeNumbers$State" "numbers" "LHingeNumbers$Remainders;", Cond.methodLink RX5 86 yX1_left, Cond.instanceMethod yX1_left, Cond.selects RX1 yX1_left yX1_left, Cond.initialized RX1, Cond.code yX1_left cX1_left 2 (some .int), Cond.fieldLink RX1 18 "HingeNumbers$Expression" "lefts" "[I", Cond.methodLink RX5 51 yX8_get, Cond.instanceMethod yX8_get]
def wsX5_rightShare_r2 : List Cond := [Cond.selects RX8 yX8_get yX8_get, Cond.initialized RX8, Cond.code yX8_get cX8_get 3 (some .int), Cond.fieldLink RX8 18 "HingeNumbers$Table" "width" "I", Cond.fieldLink RX8 24 "HingeNumbers$Table" "cells" "[I", Cond.static yX10_at, Cond.initialized RX10, Cond.code yX10_at cX10_at 2 (some .int), Cond.methodLink RX5 100 yX1_right, Cond.instanceMethod yX1_right, Cond.selects RX1 yX1_right yX1_right, Cond.code yX1_right cX1_right 2 (some .int), Cond.fieldLink RX1 21 "HingeNumbers$Expression" "rights" "[I", Cond.methodLink RX5 72 yX1_kind, Cond.instanceMethod yX1_kind, Cond.selects RX1 yX1_kind yX1_kind, Cond.code yX1_kind cX1_kind 2 (some .int), Cond.fieldLink RX1 9 "HingeNumbers$Expression" "kinds" "[I", Cond.methodLink RX5 108 yX6_subtract, Cond.instanceMethod yX6_subtract, Cond.selects RX6 yX6_subtract yX6_subtract, Cond.initialized RX6, Cond.code yX6_subtract cX6_subtract 3 (some .int), Cond.methodLink RX6 13 yX6_of]
def wsX5_rightShare_r3 : List Cond := [Cond.instanceMethod yX6_of, Cond.selects RX6 yX6_of yX6_of, Cond.code yX6_of cX6_of 3 (some .int), Cond.fieldLink RX6 7 "HingeNumbers$Remainders" "prime" "I", Cond.methodLink RX5 114 yX6_multiply, Cond.instanceMethod yX6_multiply, Cond.selects RX6 yX6_multiply yX6_multiply, Cond.code yX6_multiply cX6_multiply 3 (some .int), Cond.methodLink RX5 117 yX6_divide, Cond.instanceMethod yX6_divide, Cond.selects RX6 yX6_divide yX6_divide, Cond.code yX6_divide cX6_divide 3 (some .int), Cond.methodLink RX6 17 yX6_power, Cond.instanceMethod yX6_power, Cond.selects RX6 yX6_power yX6_power, Cond.code yX6_power cX6_power 6 (some .int)]
def wsX5_rightShare : List Cond := .code yX5_rightShare cX5_rightShare 7 (some .int) :: ((wsX5_rightShare_r1 ++ (wsX5_rightShare_r2 ++ wsX5_rightShare_r3)) ++ wsX50 ++ wsX70 ++ wsX10 ++ wsX80 ++ wsX60)
def wsX5_leftShare_r1 : List Cond := [Cond.fieldLink RX5 41 "HingeNumbers$Reckoner" "state" "LHingeNumbers$State;", Cond.fieldLink RX5 26 "HingeNumbers$Reckoner" "nodeValues" "LHingeNumbers$Table;", Cond.methodLink RX5 62 yX7_expressionOf, Cond.instanceMethod yX7_expressionOf, Cond.selects RX7 yX7_expressionOf yX7_expressionOf, Cond.initialized RX7, Cond.code yX7_expressionOf cX7_expressionOf 2 (some (.object "HingeNumbers$Expression")), Cond.fieldLink RX7 15 "HingeNumbers$State" "f" "LHingeNumbers$Expression;", Cond.fieldLink RX7 19 "HingeNumbers$State" "g" "LHingeNumbers$Expression;", Cond.fieldLink RX7 22 "HingeNumbers$State" "h" "LHingeNumbers$Expression;", Cond.fieldLink RX7 25 "HingeNumbers$State" "k" "LHingeNumbers$Expression;", Cond.methodLink RX5 96 yX7_numbers, Cond.instanceMethod yX7_numbers, Cond.selects RX7 yX7_numbers yX7_numbers, Cond.code yX7_numbers cX7_numbers 1 (some (.object "HingeNumbers$Remainders")), Cond.fieldLink RX7 9 "HingeNumbers$State" "numbers" "LHingeNumbers$Remainders;", Cond.methodLink RX5 83 yX1_number, Cond.instanceMethod yX1_number, Cond.selects RX1 yX1_number yX1_number, Cond.initialized RX1, Cond.code yX1_number cX1_number 2 (some .int), Cond.fieldLink RX1 15 "HingeNumbers$Expression" "numbers" "[I", Cond.static yX10_at, Cond.initialized RX10]
def wsX5_leftShare_r2 : List Cond := [Cond.code yX10_at cX10_at 2 (some .int), Cond.methodLink RX5 86 yX1_left, Cond.instanceMethod yX1_left, Cond.selects RX1 yX1_left yX1_left, Cond.code yX1_left cX1_left 2 (some .int), Cond.fieldLink RX1 18 "HingeNumbers$Expression" "lefts" "[I", Cond.methodLink RX5 51 yX8_get, Cond.instanceMethod yX8_get, Cond.selects RX8 yX8_get yX8_get, Cond.initialized RX8, Cond.code yX8_get cX8_get 3 (some .int), Cond.fieldLink RX8 18 "HingeNumbers$Table" "width" "I", Cond.fieldLink RX8 24 "HingeNumbers$Table" "cells" "[I", Cond.methodLink RX5 100 yX1_right, Cond.instanceMethod yX1_right, Cond.selects RX1 yX1_right yX1_right, Cond.code yX1_right cX1_right 2 (some .int), Cond.fieldLink RX1 21 "HingeNumbers$Expression" "rights" "[I", Cond.methodLink RX5 72 yX1_kind, Cond.instanceMethod yX1_kind, Cond.selects RX1 yX1_kind yX1_kind, Cond.code yX1_kind cX1_kind 2 (some .int), Cond.fieldLink RX1 9 "HingeNumbers$Expression" "kinds" "[I", Cond.methodLink RX5 108 yX6_subtract]
def wsX5_leftShare_r3 : List Cond := [Cond.instanceMethod yX6_subtract, Cond.selects RX6 yX6_subtract yX6_subtract, Cond.initialized RX6, Cond.code yX6_subtract cX6_subtract 3 (some .int), Cond.methodLink RX6 13 yX6_of, Cond.instanceMethod yX6_of, Cond.selects RX6 yX6_of yX6_of, Cond.code yX6_of cX6_of 3 (some .int), Cond.fieldLink RX6 7 "HingeNumbers$Remainders" "prime" "I", Cond.methodLink RX5 114 yX6_multiply, Cond.instanceMethod yX6_multiply, Cond.selects RX6 yX6_multiply yX6_multiply, Cond.code yX6_multiply cX6_multiply 3 (some .int), Cond.methodLink RX5 117 yX6_divide, Cond.instanceMethod yX6_divide, Cond.selects RX6 yX6_divide yX6_divide, Cond.code yX6_divide cX6_divide 3 (some .int), Cond.methodLink RX6 17 yX6_power, Cond.instanceMethod yX6_power, Cond.selects RX6 yX6_power yX6_power, Cond.code yX6_power cX6_power 6 (some .int), Cond.methodLink RX5 139 yX6_powerSlope, Cond.instanceMethod yX6_powerSlope, Cond.selects RX6 yX6_powerSlope yX6_powerSlope]
def wsX5_leftShare_r4 : List Cond := [Cond.code yX6_powerSlope cX6_powerSlope 3 (some .int), Cond.methodLink RX5 89 yX5_mayUse, Cond.static yX5_mayUse, Cond.initialized RX5, Cond.code yX5_mayUse cX5_mayUse 2 (some .boolean), Cond.methodLink RX5 155 yX5_ruleSlope, Cond.instanceMethod yX5_ruleSlope, Cond.selects RX5 yX5_ruleSlope yX5_ruleSlope, Cond.code yX5_passWeightOn cX5_passWeightOn 8 none, Cond.fieldLink RX5 32 "HingeNumbers$Reckoner" "nodeWeights" "LHingeNumbers$Table;", Cond.methodLink RX5 149 yX5_leftShare, Cond.instanceMethod yX5_leftShare, Cond.selects RX5 yX5_leftShare yX5_leftShare, Cond.methodLink RX5 58 yX8_set, Cond.instanceMethod yX8_set, Cond.selects RX8 yX8_set yX8_set, Cond.code yX8_set cX8_set 4 none, Cond.static yX10_put, Cond.code yX10_put cX10_put 3 none, Cond.methodLink RX5 152 yX5_rightShare, Cond.instanceMethod yX5_rightShare, Cond.selects RX5 yX5_rightShare yX5_rightShare, Cond.code yX5_rightShare cX5_rightShare 7 (some .int), Cond.code yX5_ruleSlope cX5_ruleSlope 5 (some .int)]
def wsX5_leftShare_r5 : List Cond := [Cond.fieldLink RX5 23 "HingeNumbers$Reckoner" "ruleSlopes" "LHingeNumbers$Table;", Cond.methodLink RX5 55 yX5_reckonValues, Cond.instanceMethod yX5_reckonValues, Cond.selects RX5 yX5_reckonValues yX5_reckonValues, Cond.code yX5_reckonValues cX5_reckonValues 6 (some .int), Cond.methodLink RX5 66 yX1_size, Cond.instanceMethod yX1_size, Cond.selects RX1 yX1_size yX1_size, Cond.code yX1_size cX1_size 1 (some .int), Cond.methodLink RX5 76 yX5_valueOfCall, Cond.instanceMethod yX5_valueOfCall, Cond.selects RX5 yX5_valueOfCall yX5_valueOfCall, Cond.methodLink RX5 79 yX5_valueOfNode, Cond.instanceMethod yX5_valueOfNode, Cond.selects RX5 yX5_valueOfNode yX5_valueOfNode, Cond.code yX5_valueOfNode cX5_valueOfNode 8 (some .int), Cond.methodLink RX5 103 yX6_of, Cond.methodLink RX5 111 yX6_add, Cond.instanceMethod yX6_add, Cond.selects RX6 yX6_add yX6_add, Cond.code yX6_add cX6_add 3 (some .int), Cond.methodLink RX5 120 yX6_power, Cond.code yX5_value cX5_value 5 (some .int), Cond.fieldLink RX5 14 "HingeNumbers$Reckoner" "values" "LHingeNumbers$Table;"]
def wsX5_leftShare_r6 : List Cond := [Cond.code yX5_valueOfCall cX5_valueOfCall 6 (some .int), Cond.methodLink RX5 93 yX5_value, Cond.instanceMethod yX5_value, Cond.selects RX5 yX5_value yX5_value, Cond.methodLink RX5 142 yX5_sumOfWeights, Cond.instanceMethod yX5_sumOfWeights, Cond.selects RX5 yX5_sumOfWeights yX5_sumOfWeights, Cond.code yX5_sumOfWeights cX5_sumOfWeights 6 (some .int), Cond.methodLink RX5 145 yX5_passWeightOn, Cond.instanceMethod yX5_passWeightOn, Cond.selects RX5 yX5_passWeightOn yX5_passWeightOn]
def wsX5_leftShare : List Cond := .code yX5_leftShare cX5_leftShare 8 (some .int) :: ((wsX5_leftShare_r1 ++ (wsX5_leftShare_r2 ++ (wsX5_leftShare_r3 ++ (wsX5_leftShare_r4 ++ (wsX5_leftShare_r5 ++ wsX5_leftShare_r6))))) ++ wsX50 ++ wsX70 ++ wsX10 ++ wsX80 ++ wsX60)
def wsX5_passWeightOn_r1 : List Cond := [Cond.fieldLink RX5 41 "HingeNumbers$Reckoner" "state" "LHingeNumbers$State;", Cond.fieldLink RX5 32 "HingeNumbers$Reckoner" "nodeWeights" "LHingeNumbers$Table;", Cond.methodLink RX5 62 yX7_expressionOf, Cond.instanceMethod yX7_expressionOf, Cond.selects RX7 yX7_expressionOf yX7_expressionOf, Cond.initialized RX7, Cond.code yX7_expressionOf cX7_expressionOf 2 (some (.object "HingeNumbers$Expression")), Cond.fieldLink RX7 15 "HingeNumbers$State" "f" "LHingeNumbers$Expression;", Cond.fieldLink RX7 19 "HingeNumbers$State" "g" "LHingeNumbers$Expression;", Cond.fieldLink RX7 22 "HingeNumbers$State" "h" "LHingeNumbers$Expression;", Cond.fieldLink RX7 25 "HingeNumbers$State" "k" "LHingeNumbers$Expression;", Cond.methodLink RX5 96 yX7_numbers, Cond.instanceMethod yX7_numbers, Cond.selects RX7 yX7_numbers yX7_numbers, Cond.code yX7_numbers cX7_numbers 1 (some (.object "HingeNumbers$Remainders")), Cond.fieldLink RX7 9 "HingeNumbers$State" "numbers" "LHingeNumbers$Remainders;", Cond.methodLink RX5 86 yX1_left, Cond.instanceMethod yX1_left, Cond.selects RX1 yX1_left yX1_left, Cond.initialized RX1, Cond.code yX1_left cX1_left 2 (some .int), Cond.fieldLink RX1 18 "HingeNumbers$Expression" "lefts" "[I", Cond.methodLink RX5 100 yX1_right, Cond.instanceMethod yX1_right]
def wsX5_passWeightOn_r2 : List Cond := [Cond.selects RX1 yX1_right yX1_right, Cond.code yX1_right cX1_right 2 (some .int), Cond.fieldLink RX1 21 "HingeNumbers$Expression" "rights" "[I", Cond.methodLink RX5 51 yX8_get, Cond.instanceMethod yX8_get, Cond.selects RX8 yX8_get yX8_get, Cond.initialized RX8, Cond.code yX8_get cX8_get 3 (some .int), Cond.fieldLink RX8 18 "HingeNumbers$Table" "width" "I", Cond.fieldLink RX8 24 "HingeNumbers$Table" "cells" "[I", Cond.static yX10_at, Cond.initialized RX10, Cond.code yX10_at cX10_at 2 (some .int), Cond.methodLink RX5 149 yX5_leftShare, Cond.instanceMethod yX5_leftShare, Cond.selects RX5 yX5_leftShare yX5_leftShare, Cond.initialized RX5, Cond.methodLink RX5 114 yX6_multiply, Cond.instanceMethod yX6_multiply, Cond.selects RX6 yX6_multiply yX6_multiply, Cond.initialized RX6, Cond.code yX6_multiply cX6_multiply 3 (some .int), Cond.methodLink RX6 13 yX6_of, Cond.instanceMethod yX6_of]
def wsX5_passWeightOn_r3 : List Cond := [Cond.selects RX6 yX6_of yX6_of, Cond.code yX6_of cX6_of 3 (some .int), Cond.fieldLink RX6 7 "HingeNumbers$Remainders" "prime" "I", Cond.methodLink RX5 58 yX8_set, Cond.instanceMethod yX8_set, Cond.selects RX8 yX8_set yX8_set, Cond.code yX8_set cX8_set 4 none, Cond.static yX10_put, Cond.code yX10_put cX10_put 3 none, Cond.methodLink RX5 152 yX5_rightShare, Cond.instanceMethod yX5_rightShare, Cond.selects RX5 yX5_rightShare yX5_rightShare, Cond.code yX5_rightShare cX5_rightShare 7 (some .int), Cond.fieldLink RX5 26 "HingeNumbers$Reckoner" "nodeValues" "LHingeNumbers$Table;", Cond.methodLink RX5 72 yX1_kind, Cond.instanceMethod yX1_kind, Cond.selects RX1 yX1_kind yX1_kind, Cond.code yX1_kind cX1_kind 2 (some .int), Cond.fieldLink RX1 9 "HingeNumbers$Expression" "kinds" "[I", Cond.methodLink RX5 108 yX6_subtract, Cond.instanceMethod yX6_subtract, Cond.selects RX6 yX6_subtract yX6_subtract, Cond.code yX6_subtract cX6_subtract 3 (some .int), Cond.methodLink RX5 117 yX6_divide]
def wsX5_passWeightOn_r4 : List Cond := [Cond.instanceMethod yX6_divide, Cond.selects RX6 yX6_divide yX6_divide, Cond.code yX6_divide cX6_divide 3 (some .int), Cond.methodLink RX6 17 yX6_power, Cond.instanceMethod yX6_power, Cond.selects RX6 yX6_power yX6_power, Cond.code yX6_power cX6_power 6 (some .int), Cond.code yX5_leftShare cX5_leftShare 8 (some .int), Cond.methodLink RX5 83 yX1_number, Cond.instanceMethod yX1_number, Cond.selects RX1 yX1_number yX1_number, Cond.code yX1_number cX1_number 2 (some .int), Cond.fieldLink RX1 15 "HingeNumbers$Expression" "numbers" "[I", Cond.methodLink RX5 139 yX6_powerSlope, Cond.instanceMethod yX6_powerSlope, Cond.selects RX6 yX6_powerSlope yX6_powerSlope, Cond.code yX6_powerSlope cX6_powerSlope 3 (some .int), Cond.methodLink RX5 89 yX5_mayUse, Cond.static yX5_mayUse, Cond.code yX5_mayUse cX5_mayUse 2 (some .boolean), Cond.methodLink RX5 155 yX5_ruleSlope, Cond.instanceMethod yX5_ruleSlope, Cond.selects RX5 yX5_ruleSlope yX5_ruleSlope, Cond.code yX5_ruleSlope cX5_ruleSlope 5 (some .int)]
def wsX5_passWeightOn_r5 : List Cond := [Cond.fieldLink RX5 23 "HingeNumbers$Reckoner" "ruleSlopes" "LHingeNumbers$Table;", Cond.methodLink RX5 55 yX5_reckonValues, Cond.instanceMethod yX5_reckonValues, Cond.selects RX5 yX5_reckonValues yX5_reckonValues, Cond.code yX5_reckonValues cX5_reckonValues 6 (some .int), Cond.methodLink RX5 66 yX1_size, Cond.instanceMethod yX1_size, Cond.selects RX1 yX1_size yX1_size, Cond.code yX1_size cX1_size 1 (some .int), Cond.methodLink RX5 76 yX5_valueOfCall, Cond.instanceMethod yX5_valueOfCall, Cond.selects RX5 yX5_valueOfCall yX5_valueOfCall, Cond.methodLink RX5 79 yX5_valueOfNode, Cond.instanceMethod yX5_valueOfNode, Cond.selects RX5 yX5_valueOfNode yX5_valueOfNode, Cond.code yX5_valueOfNode cX5_valueOfNode 8 (some .int), Cond.methodLink RX5 103 yX6_of, Cond.methodLink RX5 111 yX6_add, Cond.instanceMethod yX6_add, Cond.selects RX6 yX6_add yX6_add, Cond.code yX6_add cX6_add 3 (some .int), Cond.methodLink RX5 120 yX6_power, Cond.code yX5_value cX5_value 5 (some .int), Cond.fieldLink RX5 14 "HingeNumbers$Reckoner" "values" "LHingeNumbers$Table;"]
def wsX5_passWeightOn_r6 : List Cond := [Cond.code yX5_valueOfCall cX5_valueOfCall 6 (some .int), Cond.methodLink RX5 93 yX5_value, Cond.instanceMethod yX5_value, Cond.selects RX5 yX5_value yX5_value, Cond.methodLink RX5 142 yX5_sumOfWeights, Cond.instanceMethod yX5_sumOfWeights, Cond.selects RX5 yX5_sumOfWeights yX5_sumOfWeights, Cond.code yX5_sumOfWeights cX5_sumOfWeights 6 (some .int), Cond.methodLink RX5 145 yX5_passWeightOn, Cond.instanceMethod yX5_passWeightOn, Cond.selects RX5 yX5_passWeightOn yX5_passWeightOn]
def wsX5_passWeightOn : List Cond := .code yX5_passWeightOn cX5_passWeightOn 8 none :: ((wsX5_passWeightOn_r1 ++ (wsX5_passWeightOn_r2 ++ (wsX5_passWeightOn_r3 ++ (wsX5_passWeightOn_r4 ++ (wsX5_passWeightOn_r5 ++ wsX5_passWeightOn_r6))))) ++ wsX50 ++ wsX70 ++ wsX10 ++ wsX80 ++ wsX60)
def wsX5_ruleSlope_r1 : List Cond := [Cond.fieldLink RX5 23 "HingeNumbers$Reckoner" "ruleSlopes" "LHingeNumbers$Table;", Cond.methodLink RX5 51 yX8_get, Cond.instanceMethod yX8_get, Cond.selects RX8 yX8_get yX8_get, Cond.initialized RX8, Cond.code yX8_get cX8_get 3 (some .int), Cond.fieldLink RX8 18 "HingeNumbers$Table" "width" "I", Cond.fieldLink RX8 24 "HingeNumbers$Table" "cells" "[I", Cond.static yX10_at, Cond.initialized RX10, Cond.code yX10_at cX10_at 2 (some .int), Cond.methodLink RX5 55 yX5_reckonValues, Cond.instanceMethod yX5_reckonValues, Cond.selects RX5 yX5_reckonValues yX5_reckonValues, Cond.initialized RX5, Cond.code yX5_reckonValues cX5_reckonValues 6 (some .int), Cond.fieldLink RX5 41 "HingeNumbers$Reckoner" "state" "LHingeNumbers$State;", Cond.fieldLink RX5 26 "HingeNumbers$Reckoner" "nodeValues" "LHingeNumbers$Table;", Cond.methodLink RX5 62 yX7_expressionOf, Cond.instanceMethod yX7_expressionOf, Cond.selects RX7 yX7_expressionOf yX7_expressionOf, Cond.initialized RX7, Cond.code yX7_expressionOf cX7_expressionOf 2 (some (.object "HingeNumbers$Expression")), Cond.fieldLink RX7 15 "HingeNumbers$State" "f" "LHingeNumbers$Expression;"]
def wsX5_ruleSlope_r2 : List Cond := [Cond.fieldLink RX7 19 "HingeNumbers$State" "g" "LHingeNumbers$Expression;", Cond.fieldLink RX7 22 "HingeNumbers$State" "h" "LHingeNumbers$Expression;", Cond.fieldLink RX7 25 "HingeNumbers$State" "k" "LHingeNumbers$Expression;", Cond.methodLink RX5 66 yX1_size, Cond.instanceMethod yX1_size, Cond.selects RX1 yX1_size yX1_size, Cond.initialized RX1, Cond.code yX1_size cX1_size 1 (some .int), Cond.fieldLink RX1 9 "HingeNumbers$Expression" "kinds" "[I", Cond.methodLink RX5 72 yX1_kind, Cond.instanceMethod yX1_kind, Cond.selects RX1 yX1_kind yX1_kind, Cond.code yX1_kind cX1_kind 2 (some .int), Cond.methodLink RX5 76 yX5_valueOfCall, Cond.instanceMethod yX5_valueOfCall, Cond.selects RX5 yX5_valueOfCall yX5_valueOfCall, Cond.methodLink RX5 79 yX5_valueOfNode, Cond.instanceMethod yX5_valueOfNode, Cond.selects RX5 yX5_valueOfNode yX5_valueOfNode, Cond.code yX5_valueOfNode cX5_valueOfNode 8 (some .int), Cond.methodLink RX5 96 yX7_numbers, Cond.instanceMethod yX7_numbers, Cond.selects RX7 yX7_numbers yX7_numbers, Cond.code yX7_numbers cX7_numbers 1 (some (.object "HingeNumbers$Remainders"))]
def wsX5_ruleSlope_r3 : List Cond := [Cond.fieldLink RX7 9 "HingeNumbers$State" "numbers" "LHingeNumbers$Remainders;", Cond.methodLink RX5 86 yX1_left, Cond.instanceMethod yX1_left, Cond.selects RX1 yX1_left yX1_left, Cond.code yX1_left cX1_left 2 (some .int), Cond.fieldLink RX1 18 "HingeNumbers$Expression" "lefts" "[I", Cond.methodLink RX5 100 yX1_right, Cond.instanceMethod yX1_right, Cond.selects RX1 yX1_right yX1_right, Cond.code yX1_right cX1_right 2 (some .int), Cond.fieldLink RX1 21 "HingeNumbers$Expression" "rights" "[I", Cond.methodLink RX5 83 yX1_number, Cond.instanceMethod yX1_number, Cond.selects RX1 yX1_number yX1_number, Cond.code yX1_number cX1_number 2 (some .int), Cond.fieldLink RX1 15 "HingeNumbers$Expression" "numbers" "[I", Cond.methodLink RX5 103 yX6_of, Cond.instanceMethod yX6_of, Cond.selects RX6 yX6_of yX6_of, Cond.initialized RX6, Cond.code yX6_of cX6_of 3 (some .int), Cond.fieldLink RX6 7 "HingeNumbers$Remainders" "prime" "I", Cond.methodLink RX5 108 yX6_subtract, Cond.instanceMethod yX6_subtract]
def wsX5_ruleSlope_r4 : List Cond := [Cond.selects RX6 yX6_subtract yX6_subtract, Cond.code yX6_subtract cX6_subtract 3 (some .int), Cond.methodLink RX6 13 yX6_of, Cond.methodLink RX5 111 yX6_add, Cond.instanceMethod yX6_add, Cond.selects RX6 yX6_add yX6_add, Cond.code yX6_add cX6_add 3 (some .int), Cond.methodLink RX5 114 yX6_multiply, Cond.instanceMethod yX6_multiply, Cond.selects RX6 yX6_multiply yX6_multiply, Cond.code yX6_multiply cX6_multiply 3 (some .int), Cond.methodLink RX5 117 yX6_divide, Cond.instanceMethod yX6_divide, Cond.selects RX6 yX6_divide yX6_divide, Cond.code yX6_divide cX6_divide 3 (some .int), Cond.methodLink RX6 17 yX6_power, Cond.instanceMethod yX6_power, Cond.selects RX6 yX6_power yX6_power, Cond.code yX6_power cX6_power 6 (some .int), Cond.methodLink RX5 120 yX6_power, Cond.methodLink RX5 58 yX8_set, Cond.instanceMethod yX8_set, Cond.selects RX8 yX8_set yX8_set, Cond.code yX8_set cX8_set 4 none]
def wsX5_ruleSlope_r5 : List Cond := [Cond.static yX10_put, Cond.code yX10_put cX10_put 3 none, Cond.code yX5_value cX5_value 5 (some .int), Cond.fieldLink RX5 14 "HingeNumbers$Reckoner" "values" "LHingeNumbers$Table;", Cond.code yX5_valueOfCall cX5_valueOfCall 6 (some .int), Cond.methodLink RX5 89 yX5_mayUse, Cond.static yX5_mayUse, Cond.code yX5_mayUse cX5_mayUse 2 (some .boolean), Cond.methodLink RX5 93 yX5_value, Cond.instanceMethod yX5_value, Cond.selects RX5 yX5_value yX5_value, Cond.methodLink RX5 142 yX5_sumOfWeights, Cond.instanceMethod yX5_sumOfWeights, Cond.selects RX5 yX5_sumOfWeights yX5_sumOfWeights, Cond.code yX5_leftShare cX5_leftShare 8 (some .int), Cond.methodLink RX5 139 yX6_powerSlope, Cond.instanceMethod yX6_powerSlope, Cond.selects RX6 yX6_powerSlope yX6_powerSlope, Cond.code yX6_powerSlope cX6_powerSlope 3 (some .int), Cond.methodLink RX5 155 yX5_ruleSlope, Cond.instanceMethod yX5_ruleSlope, Cond.selects RX5 yX5_ruleSlope yX5_ruleSlope, Cond.code yX5_passWeightOn cX5_passWeightOn 8 none, Cond.fieldLink RX5 32 "HingeNumbers$Reckoner" "nodeWeights" "LHingeNumbers$Table;"]
def wsX5_ruleSlope_r6 : List Cond := [Cond.methodLink RX5 149 yX5_leftShare, Cond.instanceMethod yX5_leftShare, Cond.selects RX5 yX5_leftShare yX5_leftShare, Cond.methodLink RX5 152 yX5_rightShare, Cond.instanceMethod yX5_rightShare, Cond.selects RX5 yX5_rightShare yX5_rightShare, Cond.code yX5_rightShare cX5_rightShare 7 (some .int), Cond.code yX5_sumOfWeights cX5_sumOfWeights 6 (some .int), Cond.methodLink RX5 145 yX5_passWeightOn, Cond.instanceMethod yX5_passWeightOn, Cond.selects RX5 yX5_passWeightOn yX5_passWeightOn]
def wsX5_ruleSlope : List Cond := .code yX5_ruleSlope cX5_ruleSlope 5 (some .int) :: ((wsX5_ruleSlope_r1 ++ (wsX5_ruleSlope_r2 ++ (wsX5_ruleSlope_r3 ++ (wsX5_ruleSlope_r4 ++ (wsX5_ruleSlope_r5 ++ wsX5_ruleSlope_r6))))) ++ wsX50 ++ wsX70 ++ wsX10 ++ wsX80 ++ wsX60)
def wsX5_sumOfWeights_r1 : List Cond := [Cond.fieldLink RX5 41 "HingeNumbers$Reckoner" "state" "LHingeNumbers$State;", Cond.fieldLink RX5 32 "HingeNumbers$Reckoner" "nodeWeights" "LHingeNumbers$Table;", Cond.methodLink RX5 62 yX7_expressionOf, Cond.instanceMethod yX7_expressionOf, Cond.selects RX7 yX7_expressionOf yX7_expressionOf, Cond.initialized RX7, Cond.code yX7_expressionOf cX7_expressionOf 2 (some (.object "HingeNumbers$Expression")), Cond.fieldLink RX7 15 "HingeNumbers$State" "f" "LHingeNumbers$Expression;", Cond.fieldLink RX7 19 "HingeNumbers$State" "g" "LHingeNumbers$Expression;", Cond.fieldLink RX7 22 "HingeNumbers$State" "h" "LHingeNumbers$Expression;", Cond.fieldLink RX7 25 "HingeNumbers$State" "k" "LHingeNumbers$Expression;", Cond.methodLink RX5 66 yX1_size, Cond.instanceMethod yX1_size, Cond.selects RX1 yX1_size yX1_size, Cond.initialized RX1, Cond.code yX1_size cX1_size 1 (some .int), Cond.fieldLink RX1 9 "HingeNumbers$Expression" "kinds" "[I", Cond.methodLink RX5 58 yX8_set, Cond.instanceMethod yX8_set, Cond.selects RX8 yX8_set yX8_set, Cond.initialized RX8, Cond.code yX8_set cX8_set 4 none, Cond.fieldLink RX8 18 "HingeNumbers$Table" "width" "I", Cond.fieldLink RX8 24 "HingeNumbers$Table" "cells" "[I"]
def wsX5_sumOfWeights_r2 : List Cond := [Cond.static yX10_put, Cond.initialized RX10, Cond.code yX10_put cX10_put 3 none, Cond.methodLink RX5 72 yX1_kind, Cond.instanceMethod yX1_kind, Cond.selects RX1 yX1_kind yX1_kind, Cond.code yX1_kind cX1_kind 2 (some .int), Cond.static yX10_at, Cond.code yX10_at cX10_at 2 (some .int), Cond.methodLink RX5 96 yX7_numbers, Cond.instanceMethod yX7_numbers, Cond.selects RX7 yX7_numbers yX7_numbers, Cond.code yX7_numbers cX7_numbers 1 (some (.object "HingeNumbers$Remainders")), Cond.fieldLink RX7 9 "HingeNumbers$State" "numbers" "LHingeNumbers$Remainders;", Cond.methodLink RX5 51 yX8_get, Cond.instanceMethod yX8_get, Cond.selects RX8 yX8_get yX8_get, Cond.code yX8_get cX8_get 3 (some .int), Cond.methodLink RX5 111 yX6_add, Cond.instanceMethod yX6_add, Cond.selects RX6 yX6_add yX6_add, Cond.initialized RX6, Cond.code yX6_add cX6_add 3 (some .int), Cond.methodLink RX6 13 yX6_of]
def wsX5_sumOfWeights_r3 : List Cond := [Cond.instanceMethod yX6_of, Cond.selects RX6 yX6_of yX6_of, Cond.code yX6_of cX6_of 3 (some .int), Cond.fieldLink RX6 7 "HingeNumbers$Remainders" "prime" "I", Cond.methodLink RX5 145 yX5_passWeightOn, Cond.instanceMethod yX5_passWeightOn, Cond.selects RX5 yX5_passWeightOn yX5_passWeightOn, Cond.initialized RX5, Cond.code yX5_leftShare cX5_leftShare 8 (some .int), Cond.fieldLink RX5 26 "HingeNumbers$Reckoner" "nodeValues" "LHingeNumbers$Table;", Cond.methodLink RX5 83 yX1_number, Cond.instanceMethod yX1_number, Cond.selects RX1 yX1_number yX1_number, Cond.code yX1_number cX1_number 2 (some .int), Cond.fieldLink RX1 15 "HingeNumbers$Expression" "numbers" "[I", Cond.methodLink RX5 86 yX1_left, Cond.instanceMethod yX1_left, Cond.selects RX1 yX1_left yX1_left, Cond.code yX1_left cX1_left 2 (some .int), Cond.fieldLink RX1 18 "HingeNumbers$Expression" "lefts" "[I", Cond.methodLink RX5 100 yX1_right, Cond.instanceMethod yX1_right, Cond.selects RX1 yX1_right yX1_right, Cond.code yX1_right cX1_right 2 (some .int)]
def wsX5_sumOfWeights_r4 : List Cond := [Cond.fieldLink RX1 21 "HingeNumbers$Expression" "rights" "[I", Cond.methodLink RX5 108 yX6_subtract, Cond.instanceMethod yX6_subtract, Cond.selects RX6 yX6_subtract yX6_subtract, Cond.code yX6_subtract cX6_subtract 3 (some .int), Cond.methodLink RX5 114 yX6_multiply, Cond.instanceMethod yX6_multiply, Cond.selects RX6 yX6_multiply yX6_multiply, Cond.code yX6_multiply cX6_multiply 3 (some .int), Cond.methodLink RX5 117 yX6_divide, Cond.instanceMethod yX6_divide, Cond.selects RX6 yX6_divide yX6_divide, Cond.code yX6_divide cX6_divide 3 (some .int), Cond.methodLink RX6 17 yX6_power, Cond.instanceMethod yX6_power, Cond.selects RX6 yX6_power yX6_power, Cond.code yX6_power cX6_power 6 (some .int), Cond.methodLink RX5 139 yX6_powerSlope, Cond.instanceMethod yX6_powerSlope, Cond.selects RX6 yX6_powerSlope yX6_powerSlope, Cond.code yX6_powerSlope cX6_powerSlope 3 (some .int), Cond.methodLink RX5 89 yX5_mayUse, Cond.static yX5_mayUse, Cond.code yX5_mayUse cX5_mayUse 2 (some .boolean)]
def wsX5_sumOfWeights_r5 : List Cond := [Cond.methodLink RX5 155 yX5_ruleSlope, Cond.instanceMethod yX5_ruleSlope, Cond.selects RX5 yX5_ruleSlope yX5_ruleSlope, Cond.code yX5_passWeightOn cX5_passWeightOn 8 none, Cond.methodLink RX5 149 yX5_leftShare, Cond.instanceMethod yX5_leftShare, Cond.selects RX5 yX5_leftShare yX5_leftShare, Cond.methodLink RX5 152 yX5_rightShare, Cond.instanceMethod yX5_rightShare, Cond.selects RX5 yX5_rightShare yX5_rightShare, Cond.code yX5_rightShare cX5_rightShare 7 (some .int), Cond.code yX5_ruleSlope cX5_ruleSlope 5 (some .int), Cond.fieldLink RX5 23 "HingeNumbers$Reckoner" "ruleSlopes" "LHingeNumbers$Table;", Cond.methodLink RX5 55 yX5_reckonValues, Cond.instanceMethod yX5_reckonValues, Cond.selects RX5 yX5_reckonValues yX5_reckonValues, Cond.code yX5_reckonValues cX5_reckonValues 6 (some .int), Cond.methodLink RX5 76 yX5_valueOfCall, Cond.instanceMethod yX5_valueOfCall, Cond.selects RX5 yX5_valueOfCall yX5_valueOfCall, Cond.methodLink RX5 79 yX5_valueOfNode, Cond.instanceMethod yX5_valueOfNode, Cond.selects RX5 yX5_valueOfNode yX5_valueOfNode, Cond.code yX5_valueOfNode cX5_valueOfNode 8 (some .int)]
def wsX5_sumOfWeights_r6 : List Cond := [Cond.methodLink RX5 103 yX6_of, Cond.methodLink RX5 120 yX6_power, Cond.code yX5_value cX5_value 5 (some .int), Cond.fieldLink RX5 14 "HingeNumbers$Reckoner" "values" "LHingeNumbers$Table;", Cond.code yX5_valueOfCall cX5_valueOfCall 6 (some .int), Cond.methodLink RX5 93 yX5_value, Cond.instanceMethod yX5_value, Cond.selects RX5 yX5_value yX5_value, Cond.methodLink RX5 142 yX5_sumOfWeights, Cond.instanceMethod yX5_sumOfWeights, Cond.selects RX5 yX5_sumOfWeights yX5_sumOfWeights]
def wsX5_sumOfWeights : List Cond := .code yX5_sumOfWeights cX5_sumOfWeights 6 (some .int) :: ((wsX5_sumOfWeights_r1 ++ (wsX5_sumOfWeights_r2 ++ (wsX5_sumOfWeights_r3 ++ (wsX5_sumOfWeights_r4 ++ (wsX5_sumOfWeights_r5 ++ wsX5_sumOfWeights_r6))))) ++ wsX50 ++ wsX70 ++ wsX10 ++ wsX80 ++ wsX60)
def wsX6_prime : List Cond := .code yX6_prime cX6_prime 1 (some .int) :: ([.fieldLink RX6 7 "HingeNumbers$Remainders" "prime" "I"] ++ wsX60)
def wsX7_withExpression : List Cond := .code yX7_withExpression cX7_withExpression 3 (some (.object "HingeNumbers$State")) :: ([.classLink RX7 10 RX7, .instantiable RX7 5, .initialized RX7, .fieldLink RX7 9 "HingeNumbers$State" "numbers" "LHingeNumbers$Remainders;", .fieldLink RX7 15 "HingeNumbers$State" "f" "LHingeNumbers$Expression;", .fieldLink RX7 19 "HingeNumbers$State" "g" "LHingeNumbers$Expression;", .fieldLink RX7 22 "HingeNumbers$State" "h" "LHingeNumbers$Expression;", .fieldLink RX7 25 "HingeNumbers$State" "k" "LHingeNumbers$Expression;", .methodLink RX7 39 yX7_init, .instanceMethod yX7_init, .code yX7_init cX7_init 6 none, .methodLink RX7 3 objectInit, .instanceMethod objectInit, .code objectInit ⟨#[0xb1]⟩ 1 none] ++ wsX70)
def wsX7_withPrime : List Cond := .code yX7_withPrime cX7_withPrime 2 (some (.object "HingeNumbers$State")) :: ([.classLink RX7 10 RX7, .instantiable RX7 5, .initialized RX7, .classLink RX7 34 RX6, .instantiable RX6 1, .initialized RX6, .fieldLink RX7 15 "HingeNumbers$State" "f" "LHingeNumbers$Expression;", .fieldLink RX7 19 "HingeNumbers$State" "g" "LHingeNumbers$Expression;", .fieldLink RX7 22 "HingeNumbers$State" "h" "LHingeNumbers$Expression;", .fieldLink RX7 25 "HingeNumbers$State" "k" "LHingeNumbers$Expression;", .methodLink RX7 36 yX6_init, .instanceMethod yX6_init, .code yX6_init cX6_init 2 none, .methodLink RX6 1 objectInit, .instanceMethod objectInit, .code objectInit ⟨#[0xb1]⟩ 1 none, .fieldLink RX6 7 "HingeNumbers$Remainders" "prime" "I", .methodLink RX7 39 yX7_init, .instanceMethod yX7_init, .code yX7_init cX7_init 6 none, .methodLink RX7 3 objectInit, .fieldLink RX7 9 "HingeNumbers$State" "numbers" "LHingeNumbers$Remainders;"] ++ wsX70 ++ wsX60)
def wsX9_init : List Cond := .code yX9_init cX9_init 1 none :: ([.methodLink RX9 3 objectInit, .instanceMethod objectInit, .code objectInit ⟨#[0xb1]⟩ 1 none, .arrayClass .char, .fieldLink RX9 9 "HingeNumbers$Text" "characters" "[C", .fieldLink RX9 15 "HingeNumbers$Text" "length" "I"] ++ wsX90)
def wsX9_isFull : List Cond := .code yX9_isFull cX9_isFull 1 (some .boolean) :: ([.fieldLink RX9 15 "HingeNumbers$Text" "length" "I", .fieldLink RX9 9 "HingeNumbers$Text" "characters" "[C"] ++ wsX90)
def wsX9_append : List Cond := .code yX9_append cX9_append 2 (some .int) :: ([.fieldLink RX9 15 "HingeNumbers$Text" "length" "I", .fieldLink RX9 9 "HingeNumbers$Text" "characters" "[C"] ++ wsX90)
def wsX9_empty : List Cond := .code yX9_empty cX9_empty 2 (some .int) :: ([.fieldLink RX9 15 "HingeNumbers$Text" "length" "I"] ++ wsX90)
def wsX10_init_r1 : List Cond := [Cond.methodLink RX10 1 objectInit, Cond.instanceMethod objectInit, Cond.code objectInit ⟨#[0xb1]⟩ 1 none, Cond.classLink RX10 7 RX9, Cond.instantiable RX9 2, Cond.initialized RX9, Cond.fieldLink RX10 10 "HingeNumbers" "text" "LHingeNumbers$Text;", Cond.classLink RX10 16 RX4, Cond.instantiable RX4 4, Cond.initialized RX4, Cond.fieldLink RX10 19 "HingeNumbers" "parser" "LHingeNumbers$Parser;", Cond.classLink RX10 23 RX2, Cond.instantiable RX2 2, Cond.initialized RX2, Cond.fieldLink RX10 26 "HingeNumbers" "history" "LHingeNumbers$History;", Cond.classLink RX10 30 RX5, Cond.instantiable RX5 7, Cond.initialized RX5, Cond.fieldLink RX10 33 "HingeNumbers" "reckoner" "LHingeNumbers$Reckoner;", Cond.fieldLink RX10 37 "HingeNumbers" "snapshot" "LHingeNumbers$State;", Cond.instanceMethod yX9_init, Cond.code yX9_init cX9_init 1 none, Cond.methodLink RX9 3 objectInit, Cond.arrayClass .char]
def wsX10_init_r2 : List Cond := [Cond.fieldLink RX9 9 "HingeNumbers$Text" "characters" "[C", Cond.fieldLink RX9 15 "HingeNumbers$Text" "length" "I", Cond.instanceMethod yX4_init, Cond.code yX4_init cX4_init 1 none, Cond.methodLink RX4 3 objectInit, Cond.classLink RX4 9 RX0, Cond.instantiable RX0 10, Cond.initialized RX0, Cond.fieldLink RX4 12 "HingeNumbers$Parser" "builder" "LHingeNumbers$Builder;", Cond.fieldLink RX4 18 "HingeNumbers$Parser" "awaited" "I", Cond.fieldLink RX4 22 "HingeNumbers$Parser" "open" "I", Cond.fieldLink RX4 25 "HingeNumbers$Parser" "numberNode" "I", Cond.instanceMethod yX0_init, Cond.code yX0_init cX0_init 1 none, Cond.methodLink RX0 3 objectInit, Cond.arrayClass .int, Cond.fieldLink RX0 9 "HingeNumbers$Builder" "kinds" "[I", Cond.fieldLink RX0 15 "HingeNumbers$Builder" "numbers" "[I", Cond.fieldLink RX0 18 "HingeNumbers$Builder" "lefts" "[I", Cond.fieldLink RX0 21 "HingeNumbers$Builder" "rights" "[I", Cond.fieldLink RX0 24 "HingeNumbers$Builder" "depths" "[I", Cond.fieldLink RX0 27 "HingeNumbers$Builder" "likes" "[I", Cond.fieldLink RX0 30 "HingeNumbers$Builder" "size" "I", Cond.fieldLink RX0 34 "HingeNumbers$Builder" "leastDefinable" "I"]
def wsX10_init_r3 : List Cond := [Cond.classLink RX0 37 RX3, Cond.instantiable RX3 2, Cond.initialized RX3, Cond.fieldLink RX0 40 "HingeNumbers$Builder" "loose" "LHingeNumbers$NumberStack;", Cond.fieldLink RX0 44 "HingeNumbers$Builder" "waiting" "LHingeNumbers$NumberStack;", Cond.instanceMethod yX3_init, Cond.code yX3_init cX3_init 1 none, Cond.methodLink RX3 3 objectInit, Cond.fieldLink RX3 9 "HingeNumbers$NumberStack" "items" "[I", Cond.fieldLink RX3 15 "HingeNumbers$NumberStack" "count" "I", Cond.instanceMethod yX2_init, Cond.code yX2_init cX2_init 1 none, Cond.methodLink RX2 3 objectInit, Cond.classLink RX2 9 RX7, Cond.fieldLink RX2 11 "HingeNumbers$History" "states" "[LHingeNumbers$State;", Cond.fieldLink RX2 17 "HingeNumbers$History" "count" "I", Cond.methodLink RX10 32 yX5_init, Cond.instanceMethod yX5_init, Cond.code yX5_init cX5_init 1 none, Cond.methodLink RX5 3 objectInit, Cond.classLink RX5 9 RX8, Cond.instantiable RX8 2, Cond.initialized RX8, Cond.fieldLink RX5 14 "HingeNumbers$Reckoner" "values" "LHingeNumbers$Table;"]
def wsX10_init_r4 : List Cond := [Cond.fieldLink RX5 20 "HingeNumbers$Reckoner" "hingeSlopes" "LHingeNumbers$Table;", Cond.fieldLink RX5 23 "HingeNumbers$Reckoner" "ruleSlopes" "LHingeNumbers$Table;", Cond.fieldLink RX5 26 "HingeNumbers$Reckoner" "nodeValues" "LHingeNumbers$Table;", Cond.fieldLink RX5 29 "HingeNumbers$Reckoner" "nodeSlopes" "LHingeNumbers$Table;", Cond.fieldLink RX5 32 "HingeNumbers$Reckoner" "nodeWeights" "LHingeNumbers$Table;", Cond.fieldLink RX5 41 "HingeNumbers$Reckoner" "state" "LHingeNumbers$State;", Cond.methodLink RX5 11 yX8_init, Cond.instanceMethod yX8_init, Cond.code yX8_init cX8_init 2 none, Cond.methodLink RX8 3 objectInit, Cond.methodLink RX8 9 Lib.Math.max.name, Cond.static Lib.Math.max.name, Cond.initialized "java/lang/Math", Cond.code Lib.Math.max.name Lib.Math.max.code 2 (some .int), Cond.methodLink RX8 15 Lib.Math.min.name, Cond.static Lib.Math.min.name, Cond.code Lib.Math.min.name Lib.Math.min.code 2 (some .int), Cond.fieldLink RX8 18 "HingeNumbers$Table" "width" "I", Cond.fieldLink RX8 24 "HingeNumbers$Table" "cells" "[I", Cond.methodLink RX5 35 yX7_first, Cond.static yX7_first, Cond.initialized RX7, Cond.code yX7_first cX7_first 1 (some (.object "HingeNumbers$State")), Cond.classLink RX7 10 RX7]
def wsX10_init_r5 : List Cond := [Cond.instantiable RX7 5, Cond.classLink RX7 34 RX6, Cond.instantiable RX6 1, Cond.initialized RX6, Cond.methodLink RX7 28 yX1_ofX, Cond.static yX1_ofX, Cond.initialized RX1, Cond.code yX1_ofX cX1_ofX 0 (some (.object "HingeNumbers$Expression")), Cond.classLink RX1 10 RX1, Cond.instantiable RX1 7, Cond.methodLink RX1 34 yX1_init, Cond.instanceMethod yX1_init, Cond.code yX1_init cX1_init 8 none, Cond.methodLink RX1 3 objectInit, Cond.fieldLink RX1 9 "HingeNumbers$Expression" "kinds" "[I", Cond.fieldLink RX1 15 "HingeNumbers$Expression" "numbers" "[I", Cond.fieldLink RX1 18 "HingeNumbers$Expression" "lefts" "[I", Cond.fieldLink RX1 21 "HingeNumbers$Expression" "rights" "[I", Cond.fieldLink RX1 24 "HingeNumbers$Expression" "depth" "I", Cond.fieldLink RX1 28 "HingeNumbers$Expression" "unlike" "I", Cond.fieldLink RX1 31 "HingeNumbers$Expression" "leastDefinable" "I", Cond.methodLink RX7 36 yX6_init, Cond.instanceMethod yX6_init, Cond.code yX6_init cX6_init 2 none]
def wsX10_init_r6 : List Cond := [Cond.methodLink RX6 1 objectInit, Cond.fieldLink RX6 7 "HingeNumbers$Remainders" "prime" "I", Cond.methodLink RX7 39 yX7_init, Cond.instanceMethod yX7_init, Cond.code yX7_init cX7_init 6 none, Cond.methodLink RX7 3 objectInit, Cond.fieldLink RX7 9 "HingeNumbers$State" "numbers" "LHingeNumbers$Remainders;", Cond.fieldLink RX7 15 "HingeNumbers$State" "f" "LHingeNumbers$Expression;", Cond.fieldLink RX7 19 "HingeNumbers$State" "g" "LHingeNumbers$Expression;", Cond.fieldLink RX7 22 "HingeNumbers$State" "h" "LHingeNumbers$Expression;", Cond.fieldLink RX7 25 "HingeNumbers$State" "k" "LHingeNumbers$Expression;", Cond.methodLink RX5 45 yX5_forget, Cond.instanceMethod yX5_forget, Cond.selects RX5 yX5_forget yX5_forget, Cond.code yX5_forget cX5_forget 1 none, Cond.methodLink RX5 48 yX8_fill, Cond.instanceMethod yX8_fill, Cond.selects RX8 yX8_fill yX8_fill, Cond.code yX8_fill cX8_fill 2 none, Cond.methodLink RX8 28 yJ7_fill_53178, Cond.static yJ7_fill_53178, Cond.initialized RJ7, Cond.code yJ7_fill_53178 cJ7_fill_53178 4 none]
def wsX10_init : List Cond := .code yX10_init cX10_init 1 none :: ((wsX10_init_r1 ++ (wsX10_init_r2 ++ (wsX10_init_r3 ++ (wsX10_init_r4 ++ (wsX10_init_r5 ++ wsX10_init_r6))))) ++ wsX90 ++ wsX100 ++ wsX40 ++ wsX20 ++ wsX50 ++ wsX00 ++ wsX30 ++ wsX80 ++ wsX70 ++ wsX60 ++ wsX10)
def wsX10_requireFunction : List Cond := .code yX10_requireFunction cX10_requireFunction 2 none :: ([.classLink RX10 182 "java/lang/IndexOutOfBoundsException", .initialized "java/lang/IndexOutOfBoundsException"] ++ (vx_atS RX10 186 "java/lang/IndexOutOfBoundsException" ["java/lang/RuntimeException", "java/lang/Exception"]).filter goodWord)
def wsX10_act_r1 : List Cond := [Cond.fieldLink RX10 26 "HingeNumbers" "history" "LHingeNumbers$History;", Cond.fieldLink RX10 33 "HingeNumbers" "reckoner" "LHingeNumbers$Reckoner;", Cond.methodLink RX10 66 yX5_state, Cond.instanceMethod yX5_state, Cond.selects RX5 yX5_state yX5_state, Cond.initialized RX5, Cond.code yX5_state cX5_state 1 (some (.object "HingeNumbers$State")), Cond.fieldLink RX5 41 "HingeNumbers$Reckoner" "state" "LHingeNumbers$State;", Cond.methodLink RX10 173 yX2_record, Cond.instanceMethod yX2_record, Cond.selects RX2 yX2_record yX2_record, Cond.initialized RX2, Cond.code yX2_record cX2_record 2 none, Cond.fieldLink RX2 17 "HingeNumbers$History" "count" "I", Cond.fieldLink RX2 11 "HingeNumbers$History" "states" "[LHingeNumbers$State;", Cond.methodLink RX2 21 yX2_forgetOldest, Cond.instanceMethod yX2_forgetOldest, Cond.selects RX2 yX2_forgetOldest yX2_forgetOldest, Cond.code yX2_forgetOldest cX2_forgetOldest 2 none, Cond.methodLink RX10 126 yX5_moveTo, Cond.instanceMethod yX5_moveTo, Cond.selects RX5 yX5_moveTo yX5_moveTo, Cond.code yX5_moveTo cX5_moveTo 2 none, Cond.methodLink RX5 45 yX5_forget]
def wsX10_act_r2 : List Cond := [Cond.instanceMethod yX5_forget, Cond.selects RX5 yX5_forget yX5_forget, Cond.code yX5_forget cX5_forget 1 none, Cond.fieldLink RX5 14 "HingeNumbers$Reckoner" "values" "LHingeNumbers$Table;", Cond.fieldLink RX5 20 "HingeNumbers$Reckoner" "hingeSlopes" "LHingeNumbers$Table;", Cond.fieldLink RX5 23 "HingeNumbers$Reckoner" "ruleSlopes" "LHingeNumbers$Table;", Cond.methodLink RX5 48 yX8_fill, Cond.instanceMethod yX8_fill, Cond.selects RX8 yX8_fill yX8_fill, Cond.initialized RX8, Cond.code yX8_fill cX8_fill 2 none, Cond.fieldLink RX8 24 "HingeNumbers$Table" "cells" "[I", Cond.methodLink RX8 28 yJ7_fill_53178, Cond.static yJ7_fill_53178, Cond.initialized RJ7, Cond.code yJ7_fill_53178 cJ7_fill_53178 4 none]
def wsX10_act : List Cond := .code yX10_act cX10_act 2 none :: ((wsX10_act_r1 ++ wsX10_act_r2) ++ wsX100 ++ wsX50 ++ wsX20 ++ wsX80)
def wsX10_define_r1 : List Cond := [Cond.classLink RX10 49 "java/lang/IllegalStateException", Cond.initialized "java/lang/IllegalStateException", Cond.fieldLink RX10 19 "HingeNumbers" "parser" "LHingeNumbers$Parser;", Cond.fieldLink RX10 10 "HingeNumbers" "text" "LHingeNumbers$Text;", Cond.fieldLink RX10 33 "HingeNumbers" "reckoner" "LHingeNumbers$Reckoner;", Cond.methodLink RX10 41 yX10_requireFunction, Cond.instanceMethod yX10_requireFunction, Cond.selects RX10 yX10_requireFunction yX10_requireFunction, Cond.initialized RX10, Cond.code yX10_requireFunction cX10_requireFunction 2 none, Cond.classLink RX10 182 "java/lang/IndexOutOfBoundsException", Cond.initialized "java/lang/IndexOutOfBoundsException", Cond.methodLink RX10 45 yX4_firstError, Cond.instanceMethod yX4_firstError, Cond.selects RX4 yX4_firstError yX4_firstError, Cond.initialized RX4, Cond.code yX4_firstError cX4_firstError 3 (some .int), Cond.fieldLink RX4 12 "HingeNumbers$Parser" "builder" "LHingeNumbers$Builder;", Cond.fieldLink RX4 18 "HingeNumbers$Parser" "awaited" "I", Cond.fieldLink RX4 22 "HingeNumbers$Parser" "open" "I", Cond.fieldLink RX4 25 "HingeNumbers$Parser" "numberNode" "I", Cond.methodLink RX4 28 yX0_clear, Cond.instanceMethod yX0_clear, Cond.selects RX0 yX0_clear yX0_clear]
def wsX10_define_r2 : List Cond := [Cond.initialized RX0, Cond.code yX0_clear cX0_clear 1 none, Cond.fieldLink RX0 30 "HingeNumbers$Builder" "size" "I", Cond.fieldLink RX0 34 "HingeNumbers$Builder" "leastDefinable" "I", Cond.fieldLink RX0 40 "HingeNumbers$Builder" "loose" "LHingeNumbers$NumberStack;", Cond.fieldLink RX0 44 "HingeNumbers$Builder" "waiting" "LHingeNumbers$NumberStack;", Cond.methodLink RX0 47 yX3_clear, Cond.instanceMethod yX3_clear, Cond.selects RX3 yX3_clear yX3_clear, Cond.initialized RX3, Cond.code yX3_clear cX3_clear 1 none, Cond.fieldLink RX3 15 "HingeNumbers$NumberStack" "count" "I", Cond.methodLink RX4 31 yX9_length, Cond.instanceMethod yX9_length, Cond.selects RX9 yX9_length yX9_length, Cond.initialized RX9, Cond.code yX9_length cX9_length 1 (some .int), Cond.fieldLink RX9 15 "HingeNumbers$Text" "length" "I", Cond.methodLink RX4 37 yX9_characterAt, Cond.instanceMethod yX9_characterAt, Cond.selects RX9 yX9_characterAt yX9_characterAt, Cond.code yX9_characterAt cX9_characterAt 2 (some .char), Cond.fieldLink RX9 9 "HingeNumbers$Text" "characters" "[C", Cond.methodLink RX4 41 yX4_takes]
def wsX10_define_r3 : List Cond := [Cond.instanceMethod yX4_takes, Cond.selects RX4 yX4_takes yX4_takes, Cond.code yX4_takes cX4_takes 2 (some .boolean), Cond.methodLink RX4 55 yX4_takesAtom, Cond.instanceMethod yX4_takesAtom, Cond.selects RX4 yX4_takesAtom yX4_takesAtom, Cond.code yX4_takesAtom cX4_takesAtom 2 (some .boolean), Cond.methodLink RX4 67 yX4_isDigit, Cond.static yX4_isDigit, Cond.code yX4_isDigit cX4_isDigit 1 (some .boolean), Cond.methodLink RX4 70 yX0_addNumber, Cond.instanceMethod yX0_addNumber, Cond.selects RX0 yX0_addNumber yX0_addNumber, Cond.code yX0_addNumber cX0_addNumber 3 (some .int), Cond.methodLink RX0 54 yX0_addNode, Cond.instanceMethod yX0_addNode, Cond.selects RX0 yX0_addNode yX0_addNode, Cond.code yX0_addNode cX0_addNode 5 none, Cond.fieldLink RX0 9 "HingeNumbers$Builder" "kinds" "[I", Cond.fieldLink RX0 15 "HingeNumbers$Builder" "numbers" "[I", Cond.fieldLink RX0 18 "HingeNumbers$Builder" "lefts" "[I", Cond.fieldLink RX0 21 "HingeNumbers$Builder" "rights" "[I", Cond.fieldLink RX0 24 "HingeNumbers$Builder" "depths" "[I", Cond.methodLink RX0 83 Lib.Math.max.name]
def wsX10_define_r4 : List Cond := [Cond.static Lib.Math.max.name, Cond.initialized "java/lang/Math", Cond.code Lib.Math.max.name Lib.Math.max.code 2 (some .int), Cond.methodLink RX0 113 Lib.Math.min.name, Cond.static Lib.Math.min.name, Cond.code Lib.Math.min.name Lib.Math.min.code 2 (some .int), Cond.static yX10_put, Cond.code yX10_put cX10_put 3 none, Cond.static yX10_at, Cond.code yX10_at cX10_at 2 (some .int), Cond.methodLink RX0 50 yX3_push, Cond.instanceMethod yX3_push, Cond.selects RX3 yX3_push yX3_push, Cond.code yX3_push cX3_push 2 none, Cond.fieldLink RX3 9 "HingeNumbers$NumberStack" "items" "[I", Cond.methodLink RX0 58 yX0_finishAtom, Cond.instanceMethod yX0_finishAtom, Cond.selects RX0 yX0_finishAtom yX0_finishAtom, Cond.code yX0_finishAtom cX0_finishAtom 2 none, Cond.methodLink RX0 107 yX3_count, Cond.instanceMethod yX3_count, Cond.selects RX3 yX3_count yX3_count, Cond.code yX3_count cX3_count 1 (some .int), Cond.methodLink RX0 110 yX3_top]
def wsX10_define_r5 : List Cond := [Cond.instanceMethod yX3_top, Cond.selects RX3 yX3_top yX3_top, Cond.code yX3_top cX3_top 1 (some .int), Cond.methodLink RX0 69 yX3_pop, Cond.instanceMethod yX3_pop, Cond.selects RX3 yX3_pop yX3_pop, Cond.code yX3_pop cX3_pop 1 (some .int), Cond.methodLink RX4 74 yX0_addX, Cond.instanceMethod yX0_addX, Cond.selects RX0 yX0_addX yX0_addX, Cond.code yX0_addX cX0_addX 1 none, Cond.methodLink RX4 77 yX0_await, Cond.instanceMethod yX0_await, Cond.selects RX0 yX0_await yX0_await, Cond.code yX0_await cX0_await 2 none, Cond.static yX10_functionOf, Cond.code yX10_functionOf cX10_functionOf 1 (some .int), Cond.methodLink RX4 58 yX4_takesOpening, Cond.instanceMethod yX4_takesOpening, Cond.selects RX4 yX4_takesOpening yX4_takesOpening, Cond.code yX4_takesOpening cX4_takesOpening 2 (some .boolean), Cond.methodLink RX4 61 yX4_takesExponent, Cond.instanceMethod yX4_takesExponent, Cond.selects RX4 yX4_takesExponent yX4_takesExponent]
def wsX10_define_r6 : List Cond := [Cond.code yX4_takesExponent cX4_takesExponent 2 (some .boolean), Cond.methodLink RX4 84 yX0_addPower, Cond.instanceMethod yX0_addPower, Cond.selects RX0 yX0_addPower yX0_addPower, Cond.code yX0_addPower cX0_addPower 2 none, Cond.methodLink RX4 64 yX4_takesBehind, Cond.instanceMethod yX4_takesBehind, Cond.selects RX4 yX4_takesBehind yX4_takesBehind, Cond.code yX4_takesBehind cX4_takesBehind 2 (some .boolean), Cond.methodLink RX4 87 yX4_takesFurtherDigit, Cond.instanceMethod yX4_takesFurtherDigit, Cond.selects RX4 yX4_takesFurtherDigit yX4_takesFurtherDigit, Cond.code yX4_takesFurtherDigit cX4_takesFurtherDigit 3 (some .boolean), Cond.methodLink RX4 96 yX0_numberOf, Cond.instanceMethod yX0_numberOf, Cond.selects RX0 yX0_numberOf yX0_numberOf, Cond.code yX0_numberOf cX0_numberOf 2 (some .int), Cond.methodLink RX4 99 yX0_addDigit, Cond.instanceMethod yX0_addDigit, Cond.selects RX0 yX0_addDigit yX0_addDigit, Cond.code yX0_addDigit cX0_addDigit 3 none, Cond.methodLink RX4 90 yX0_close, Cond.instanceMethod yX0_close, Cond.selects RX0 yX0_close yX0_close]
def wsX10_define_r7 : List Cond := [Cond.code yX0_close cX0_close 2 none, Cond.methodLink RX0 77 yX0_joinFrom, Cond.instanceMethod yX0_joinFrom, Cond.selects RX0 yX0_joinFrom yX0_joinFrom, Cond.code yX0_joinFrom cX0_joinFrom 4 none, Cond.methodLink RX0 73 yX0_levelOf, Cond.static yX0_levelOf, Cond.code yX0_levelOf cX0_levelOf 1 (some .int), Cond.methodLink RX4 93 yX0_addSign, Cond.instanceMethod yX0_addSign, Cond.selects RX0 yX0_addSign yX0_addSign, Cond.code yX0_addSign cX0_addSign 2 none, Cond.methodLink RX4 45 yX0_finish, Cond.instanceMethod yX0_finish, Cond.selects RX0 yX0_finish yX0_finish, Cond.code yX0_finish cX0_finish 1 none, Cond.methodLink RX10 56 yX4_leastDefinable, Cond.instanceMethod yX4_leastDefinable, Cond.selects RX4 yX4_leastDefinable yX4_leastDefinable, Cond.code yX4_leastDefinable cX4_leastDefinable 1 (some .int), Cond.methodLink RX4 48 yX0_leastDefinable, Cond.instanceMethod yX0_leastDefinable, Cond.selects RX0 yX0_leastDefinable yX0_leastDefinable, Cond.code yX0_leastDefinable cX0_leastDefinable 1 (some .int)]
def wsX10_define_r8 : List Cond := [Cond.methodLink RX10 62 yX4_toExpression, Cond.instanceMethod yX4_toExpression, Cond.selects RX4 yX4_toExpression yX4_toExpression, Cond.code yX4_toExpression cX4_toExpression 1 (some (.object "HingeNumbers$Expression")), Cond.methodLink RX4 51 yX0_toExpression, Cond.instanceMethod yX0_toExpression, Cond.selects RX0 yX0_toExpression yX0_toExpression, Cond.code yX0_toExpression cX0_toExpression 1 (some (.object "HingeNumbers$Expression")), Cond.classLink RX0 89 RX1, Cond.instantiable RX1 7, Cond.initialized RX1, Cond.methodLink RX0 91 yX0_filled, Cond.instanceMethod yX0_filled, Cond.selects RX0 yX0_filled yX0_filled, Cond.code yX0_filled cX0_filled 2 (some (.array .int)), Cond.methodLink RX0 101 yJ7_copyOf_59c91, Cond.static yJ7_copyOf_59c91, Cond.initialized RJ7, Cond.code yJ7_copyOf_59c91 cJ7_copyOf_59c91 3 (some (.array .int)), Cond.methodLink RJ7 316 ⟨"[I", "clone", "()Ljava/lang/Object;"⟩, Cond.sameMethod "[I" "java/lang/Object" "clone" "()Ljava/lang/Object;", Cond.native ⟨"java/lang/Object", "clone", "()Ljava/lang/Object;"⟩, Cond.instanceMethod ⟨"java/lang/Object", "clone", "()Ljava/lang/Object;"⟩, Cond.selects "[I" ⟨"[I", "clone", "()Ljava/lang/Object;"⟩ ⟨"java/lang/Object", "clone", "()Ljava/lang/Object;"⟩]
def wsX10_define_r9 : List Cond := [Cond.classLink RJ7 317 "[I", Cond.arrayClass .int, Cond.methodLink RJ7 304 Lib.Math.min.name, Cond.methodLink RJ7 150 arraycopyName, Cond.native arraycopyName, Cond.static arraycopyName, Cond.initialized "java/lang/System", Cond.methodLink RX0 95 yX0_countUnlike, Cond.instanceMethod yX0_countUnlike, Cond.selects RX0 yX0_countUnlike yX0_countUnlike, Cond.code yX0_countUnlike cX0_countUnlike 4 (some .int), Cond.fieldLink RX0 27 "HingeNumbers$Builder" "likes" "[I", Cond.methodLink RX0 116 yX0_firstLike, Cond.instanceMethod yX0_firstLike, Cond.selects RX0 yX0_firstLike yX0_firstLike, Cond.code yX0_firstLike cX0_firstLike 3 (some .int), Cond.methodLink RX0 119 yX0_areAlike, Cond.instanceMethod yX0_areAlike, Cond.selects RX0 yX0_areAlike yX0_areAlike, Cond.code yX0_areAlike cX0_areAlike 3 (some .boolean), Cond.methodLink RX0 98 yX1_init, Cond.instanceMethod yX1_init, Cond.code yX1_init cX1_init 8 none, Cond.methodLink RX1 3 objectInit]
def wsX10_define_r10 : List Cond := [Cond.instanceMethod objectInit, Cond.code objectInit ⟨#[0xb1]⟩ 1 none, Cond.fieldLink RX1 9 "HingeNumbers$Expression" "kinds" "[I", Cond.fieldLink RX1 15 "HingeNumbers$Expression" "numbers" "[I", Cond.fieldLink RX1 18 "HingeNumbers$Expression" "lefts" "[I", Cond.fieldLink RX1 21 "HingeNumbers$Expression" "rights" "[I", Cond.fieldLink RX1 24 "HingeNumbers$Expression" "depth" "I", Cond.fieldLink RX1 28 "HingeNumbers$Expression" "unlike" "I", Cond.fieldLink RX1 31 "HingeNumbers$Expression" "leastDefinable" "I", Cond.methodLink RX10 66 yX5_state, Cond.instanceMethod yX5_state, Cond.selects RX5 yX5_state yX5_state, Cond.initialized RX5, Cond.code yX5_state cX5_state 1 (some (.object "HingeNumbers$State")), Cond.fieldLink RX5 41 "HingeNumbers$Reckoner" "state" "LHingeNumbers$State;", Cond.methodLink RX10 70 yX7_withExpression, Cond.instanceMethod yX7_withExpression, Cond.selects RX7 yX7_withExpression yX7_withExpression, Cond.initialized RX7, Cond.code yX7_withExpression cX7_withExpression 3 (some (.object "HingeNumbers$State")), Cond.classLink RX7 10 RX7, Cond.instantiable RX7 5, Cond.fieldLink RX7 9 "HingeNumbers$State" "numbers" "LHingeNumbers$Remainders;", Cond.fieldLink RX7 15 "HingeNumbers$State" "f" "LHingeNumbers$Expression;"]
def wsX10_define_r11 : List Cond := [Cond.fieldLink RX7 19 "HingeNumbers$State" "g" "LHingeNumbers$Expression;", Cond.fieldLink RX7 22 "HingeNumbers$State" "h" "LHingeNumbers$Expression;", Cond.fieldLink RX7 25 "HingeNumbers$State" "k" "LHingeNumbers$Expression;", Cond.methodLink RX7 39 yX7_init, Cond.instanceMethod yX7_init, Cond.code yX7_init cX7_init 6 none, Cond.methodLink RX7 3 objectInit, Cond.methodLink RX10 76 yX10_act, Cond.instanceMethod yX10_act, Cond.selects RX10 yX10_act yX10_act, Cond.code yX10_act cX10_act 2 none, Cond.fieldLink RX10 26 "HingeNumbers" "history" "LHingeNumbers$History;", Cond.methodLink RX10 173 yX2_record, Cond.instanceMethod yX2_record, Cond.selects RX2 yX2_record yX2_record, Cond.initialized RX2, Cond.code yX2_record cX2_record 2 none, Cond.fieldLink RX2 17 "HingeNumbers$History" "count" "I", Cond.fieldLink RX2 11 "HingeNumbers$History" "states" "[LHingeNumbers$State;", Cond.methodLink RX2 21 yX2_forgetOldest, Cond.instanceMethod yX2_forgetOldest, Cond.selects RX2 yX2_forgetOldest yX2_forgetOldest, Cond.code yX2_forgetOldest cX2_forgetOldest 2 none, Cond.methodLink RX10 126 yX5_moveTo]
def wsX10_define_r12 : List Cond := [Cond.instanceMethod yX5_moveTo, Cond.selects RX5 yX5_moveTo yX5_moveTo, Cond.code yX5_moveTo cX5_moveTo 2 none, Cond.methodLink RX5 45 yX5_forget, Cond.instanceMethod yX5_forget, Cond.selects RX5 yX5_forget yX5_forget, Cond.code yX5_forget cX5_forget 1 none, Cond.fieldLink RX5 14 "HingeNumbers$Reckoner" "values" "LHingeNumbers$Table;", Cond.fieldLink RX5 20 "HingeNumbers$Reckoner" "hingeSlopes" "LHingeNumbers$Table;", Cond.fieldLink RX5 23 "HingeNumbers$Reckoner" "ruleSlopes" "LHingeNumbers$Table;", Cond.methodLink RX5 48 yX8_fill, Cond.instanceMethod yX8_fill, Cond.selects RX8 yX8_fill yX8_fill, Cond.initialized RX8, Cond.code yX8_fill cX8_fill 2 none, Cond.fieldLink RX8 24 "HingeNumbers$Table" "cells" "[I", Cond.methodLink RX8 28 yJ7_fill_53178, Cond.static yJ7_fill_53178, Cond.code yJ7_fill_53178 cJ7_fill_53178 4 none, Cond.methodLink RX10 80 yX1_size, Cond.instanceMethod yX1_size, Cond.selects RX1 yX1_size yX1_size, Cond.code yX1_size cX1_size 1 (some .int)]
def wsX10_define : List Cond := .code yX10_define cX10_define 3 (some .int) :: ((wsX10_define_r1 ++ (wsX10_define_r2 ++ (wsX10_define_r3 ++ (wsX10_define_r4 ++ (wsX10_define_r5 ++ (wsX10_define_r6 ++ (wsX10_define_r7 ++ (wsX10_define_r8 ++ (wsX10_define_r9 ++ (wsX10_define_r10 ++ (wsX10_define_r11 ++ wsX10_define_r12))))))))))) ++ wsX100 ++ wsX40 ++ wsX00 ++ wsX30 ++ wsX90 ++ wsX10 ++ wsX50 ++ wsX70 ++ wsX20 ++ wsX80 ++ (vx_atS RX10 53 "java/lang/IllegalStateException" ["java/lang/RuntimeException", "java/lang/Exception"]).filter goodWord ++ (vx_atS RX10 186 "java/lang/IndexOutOfBoundsException" ["java/lang/RuntimeException", "java/lang/Exception"]).filter goodWord)
def wsX10_isPrime : List Cond := .code yX10_isPrime cX10_isPrime 2 (some .boolean) :: ([])
def wsX10_prime : List Cond := .code yX10_prime cX10_prime 1 (some .int) :: ([.fieldLink RX10 33 "HingeNumbers" "reckoner" "LHingeNumbers$Reckoner;", .methodLink RX10 66 yX5_state, .instanceMethod yX5_state, .selects RX5 yX5_state yX5_state, .initialized RX5, .code yX5_state cX5_state 1 (some (.object "HingeNumbers$State")), .fieldLink RX5 41 "HingeNumbers$Reckoner" "state" "LHingeNumbers$State;", .methodLink RX10 153 yX7_numbers, .instanceMethod yX7_numbers, .selects RX7 yX7_numbers yX7_numbers, .initialized RX7, .code yX7_numbers cX7_numbers 1 (some (.object "HingeNumbers$Remainders")), .fieldLink RX7 9 "HingeNumbers$State" "numbers" "LHingeNumbers$Remainders;", .methodLink RX10 172 yX6_prime, .instanceMethod yX6_prime, .selects RX6 yX6_prime yX6_prime, .initialized RX6, .code yX6_prime cX6_prime 1 (some .int), .fieldLink RX6 7 "HingeNumbers$Remainders" "prime" "I"] ++ wsX100 ++ wsX50 ++ wsX70 ++ wsX60)
def wsX10_setModulus_r1 : List Cond := [Cond.classLink RX10 96 "java/lang/IllegalArgumentException", Cond.initialized "java/lang/IllegalArgumentException", Cond.fieldLink RX10 33 "HingeNumbers" "reckoner" "LHingeNumbers$Reckoner;", Cond.methodLink RX10 92 yX10_isPrime, Cond.static yX10_isPrime, Cond.initialized RX10, Cond.code yX10_isPrime cX10_isPrime 2 (some .boolean), Cond.methodLink RX10 101 yX10_prime, Cond.instanceMethod yX10_prime, Cond.selects RX10 yX10_prime yX10_prime, Cond.code yX10_prime cX10_prime 1 (some .int), Cond.methodLink RX10 66 yX5_state, Cond.instanceMethod yX5_state, Cond.selects RX5 yX5_state yX5_state, Cond.initialized RX5, Cond.code yX5_state cX5_state 1 (some (.object "HingeNumbers$State")), Cond.fieldLink RX5 41 "HingeNumbers$Reckoner" "state" "LHingeNumbers$State;", Cond.methodLink RX10 153 yX7_numbers, Cond.instanceMethod yX7_numbers, Cond.selects RX7 yX7_numbers yX7_numbers, Cond.initialized RX7, Cond.code yX7_numbers cX7_numbers 1 (some (.object "HingeNumbers$Remainders")), Cond.fieldLink RX7 9 "HingeNumbers$State" "numbers" "LHingeNumbers$Remainders;", Cond.methodLink RX10 172 yX6_prime]
def wsX10_setModulus_r2 : List Cond := [Cond.instanceMethod yX6_prime, Cond.selects RX6 yX6_prime yX6_prime, Cond.initialized RX6, Cond.code yX6_prime cX6_prime 1 (some .int), Cond.fieldLink RX6 7 "HingeNumbers$Remainders" "prime" "I", Cond.methodLink RX10 104 yX7_withPrime, Cond.instanceMethod yX7_withPrime, Cond.selects RX7 yX7_withPrime yX7_withPrime, Cond.code yX7_withPrime cX7_withPrime 2 (some (.object "HingeNumbers$State")), Cond.classLink RX7 10 RX7, Cond.instantiable RX7 5, Cond.classLink RX7 34 RX6, Cond.instantiable RX6 1, Cond.fieldLink RX7 15 "HingeNumbers$State" "f" "LHingeNumbers$Expression;", Cond.fieldLink RX7 19 "HingeNumbers$State" "g" "LHingeNumbers$Expression;", Cond.fieldLink RX7 22 "HingeNumbers$State" "h" "LHingeNumbers$Expression;", Cond.fieldLink RX7 25 "HingeNumbers$State" "k" "LHingeNumbers$Expression;", Cond.methodLink RX7 36 yX6_init, Cond.instanceMethod yX6_init, Cond.code yX6_init cX6_init 2 none, Cond.methodLink RX6 1 objectInit, Cond.instanceMethod objectInit, Cond.code objectInit ⟨#[0xb1]⟩ 1 none, Cond.methodLink RX7 39 yX7_init]
def wsX10_setModulus_r3 : List Cond := [Cond.instanceMethod yX7_init, Cond.code yX7_init cX7_init 6 none, Cond.methodLink RX7 3 objectInit, Cond.methodLink RX10 76 yX10_act, Cond.instanceMethod yX10_act, Cond.selects RX10 yX10_act yX10_act, Cond.code yX10_act cX10_act 2 none, Cond.fieldLink RX10 26 "HingeNumbers" "history" "LHingeNumbers$History;", Cond.methodLink RX10 173 yX2_record, Cond.instanceMethod yX2_record, Cond.selects RX2 yX2_record yX2_record, Cond.initialized RX2, Cond.code yX2_record cX2_record 2 none, Cond.fieldLink RX2 17 "HingeNumbers$History" "count" "I", Cond.fieldLink RX2 11 "HingeNumbers$History" "states" "[LHingeNumbers$State;", Cond.methodLink RX2 21 yX2_forgetOldest, Cond.instanceMethod yX2_forgetOldest, Cond.selects RX2 yX2_forgetOldest yX2_forgetOldest, Cond.code yX2_forgetOldest cX2_forgetOldest 2 none, Cond.methodLink RX10 126 yX5_moveTo, Cond.instanceMethod yX5_moveTo, Cond.selects RX5 yX5_moveTo yX5_moveTo, Cond.code yX5_moveTo cX5_moveTo 2 none, Cond.methodLink RX5 45 yX5_forget]
def wsX10_setModulus_r4 : List Cond := [Cond.instanceMethod yX5_forget, Cond.selects RX5 yX5_forget yX5_forget, Cond.code yX5_forget cX5_forget 1 none, Cond.fieldLink RX5 14 "HingeNumbers$Reckoner" "values" "LHingeNumbers$Table;", Cond.fieldLink RX5 20 "HingeNumbers$Reckoner" "hingeSlopes" "LHingeNumbers$Table;", Cond.fieldLink RX5 23 "HingeNumbers$Reckoner" "ruleSlopes" "LHingeNumbers$Table;", Cond.methodLink RX5 48 yX8_fill, Cond.instanceMethod yX8_fill, Cond.selects RX8 yX8_fill yX8_fill, Cond.initialized RX8, Cond.code yX8_fill cX8_fill 2 none, Cond.fieldLink RX8 24 "HingeNumbers$Table" "cells" "[I", Cond.methodLink RX8 28 yJ7_fill_53178, Cond.static yJ7_fill_53178, Cond.initialized RJ7, Cond.code yJ7_fill_53178 cJ7_fill_53178 4 none]
def wsX10_setModulus : List Cond := .code yX10_setModulus cX10_setModulus 3 (some .int) :: ((wsX10_setModulus_r1 ++ (wsX10_setModulus_r2 ++ (wsX10_setModulus_r3 ++ wsX10_setModulus_r4))) ++ wsX100 ++ wsX50 ++ wsX70 ++ wsX60 ++ wsX20 ++ wsX80 ++ (vx_atS RX10 100 "java/lang/IllegalArgumentException" ["java/lang/RuntimeException", "java/lang/Exception"]).filter goodWord)
def wsX10_type : List Cond := .code yX10_type cX10_type 2 (some .int) :: ([.classLink RX10 49 "java/lang/IllegalStateException", .initialized "java/lang/IllegalStateException", .fieldLink RX10 10 "HingeNumbers" "text" "LHingeNumbers$Text;", .methodLink RX10 108 yX9_isFull, .instanceMethod yX9_isFull, .selects RX9 yX9_isFull yX9_isFull, .initialized RX9, .code yX9_isFull cX9_isFull 1 (some .boolean), .fieldLink RX9 15 "HingeNumbers$Text" "length" "I", .fieldLink RX9 9 "HingeNumbers$Text" "characters" "[C", .methodLink RX10 114 yX9_append, .instanceMethod yX9_append, .selects RX9 yX9_append yX9_append, .code yX9_append cX9_append 2 (some .int)] ++ wsX100 ++ wsX90 ++ (vx_atS RX10 53 "java/lang/IllegalStateException" ["java/lang/RuntimeException", "java/lang/Exception"]).filter goodWord)
def wsX10_clearText : List Cond := .code yX10_clearText cX10_clearText 1 (some .int) :: ([.fieldLink RX10 10 "HingeNumbers" "text" "LHingeNumbers$Text;", .methodLink RX10 118 yX9_empty, .instanceMethod yX9_empty, .selects RX9 yX9_empty yX9_empty, .initialized RX9, .code yX9_empty cX9_empty 2 (some .int), .fieldLink RX9 15 "HingeNumbers$Text" "length" "I"] ++ wsX100 ++ wsX90)
def wsX10_textError_r1 : List Cond := [Cond.fieldLink RX10 19 "HingeNumbers" "parser" "LHingeNumbers$Parser;", Cond.fieldLink RX10 10 "HingeNumbers" "text" "LHingeNumbers$Text;", Cond.methodLink RX10 45 yX4_firstError, Cond.instanceMethod yX4_firstError, Cond.selects RX4 yX4_firstError yX4_firstError, Cond.initialized RX4, Cond.code yX4_firstError cX4_firstError 3 (some .int), Cond.fieldLink RX4 12 "HingeNumbers$Parser" "builder" "LHingeNumbers$Builder;", Cond.fieldLink RX4 18 "HingeNumbers$Parser" "awaited" "I", Cond.fieldLink RX4 22 "HingeNumbers$Parser" "open" "I", Cond.fieldLink RX4 25 "HingeNumbers$Parser" "numberNode" "I", Cond.methodLink RX4 28 yX0_clear, Cond.instanceMethod yX0_clear, Cond.selects RX0 yX0_clear yX0_clear, Cond.initialized RX0, Cond.code yX0_clear cX0_clear 1 none, Cond.fieldLink RX0 30 "HingeNumbers$Builder" "size" "I", Cond.fieldLink RX0 34 "HingeNumbers$Builder" "leastDefinable" "I", Cond.fieldLink RX0 40 "HingeNumbers$Builder" "loose" "LHingeNumbers$NumberStack;", Cond.fieldLink RX0 44 "HingeNumbers$Builder" "waiting" "LHingeNumbers$NumberStack;", Cond.methodLink RX0 47 yX3_clear, Cond.instanceMethod yX3_clear, Cond.selects RX3 yX3_clear yX3_clear, Cond.initialized RX3]
def wsX10_textError_r2 : List Cond := [Cond.code yX3_clear cX3_clear 1 none, Cond.fieldLink RX3 15 "HingeNumbers$NumberStack" "count" "I", Cond.methodLink RX4 31 yX9_length, Cond.instanceMethod yX9_length, Cond.selects RX9 yX9_length yX9_length, Cond.initialized RX9, Cond.code yX9_length cX9_length 1 (some .int), Cond.fieldLink RX9 15 "HingeNumbers$Text" "length" "I", Cond.methodLink RX4 37 yX9_characterAt, Cond.instanceMethod yX9_characterAt, Cond.selects RX9 yX9_characterAt yX9_characterAt, Cond.code yX9_characterAt cX9_characterAt 2 (some .char), Cond.fieldLink RX9 9 "HingeNumbers$Text" "characters" "[C", Cond.methodLink RX4 41 yX4_takes, Cond.instanceMethod yX4_takes, Cond.selects RX4 yX4_takes yX4_takes, Cond.code yX4_takes cX4_takes 2 (some .boolean), Cond.methodLink RX4 55 yX4_takesAtom, Cond.instanceMethod yX4_takesAtom, Cond.selects RX4 yX4_takesAtom yX4_takesAtom, Cond.code yX4_takesAtom cX4_takesAtom 2 (some .boolean), Cond.methodLink RX4 67 yX4_isDigit, Cond.static yX4_isDigit, Cond.code yX4_isDigit cX4_isDigit 1 (some .boolean)]
def wsX10_textError_r3 : List Cond := [Cond.methodLink RX4 70 yX0_addNumber, Cond.instanceMethod yX0_addNumber, Cond.selects RX0 yX0_addNumber yX0_addNumber, Cond.code yX0_addNumber cX0_addNumber 3 (some .int), Cond.methodLink RX0 54 yX0_addNode, Cond.instanceMethod yX0_addNode, Cond.selects RX0 yX0_addNode yX0_addNode, Cond.code yX0_addNode cX0_addNode 5 none, Cond.fieldLink RX0 9 "HingeNumbers$Builder" "kinds" "[I", Cond.fieldLink RX0 15 "HingeNumbers$Builder" "numbers" "[I", Cond.fieldLink RX0 18 "HingeNumbers$Builder" "lefts" "[I", Cond.fieldLink RX0 21 "HingeNumbers$Builder" "rights" "[I", Cond.fieldLink RX0 24 "HingeNumbers$Builder" "depths" "[I", Cond.methodLink RX0 83 Lib.Math.max.name, Cond.static Lib.Math.max.name, Cond.initialized "java/lang/Math", Cond.code Lib.Math.max.name Lib.Math.max.code 2 (some .int), Cond.methodLink RX0 113 Lib.Math.min.name, Cond.static Lib.Math.min.name, Cond.code Lib.Math.min.name Lib.Math.min.code 2 (some .int), Cond.static yX10_put, Cond.initialized RX10, Cond.code yX10_put cX10_put 3 none, Cond.static yX10_at]
def wsX10_textError_r4 : List Cond := [Cond.code yX10_at cX10_at 2 (some .int), Cond.methodLink RX0 50 yX3_push, Cond.instanceMethod yX3_push, Cond.selects RX3 yX3_push yX3_push, Cond.code yX3_push cX3_push 2 none, Cond.fieldLink RX3 9 "HingeNumbers$NumberStack" "items" "[I", Cond.methodLink RX0 58 yX0_finishAtom, Cond.instanceMethod yX0_finishAtom, Cond.selects RX0 yX0_finishAtom yX0_finishAtom, Cond.code yX0_finishAtom cX0_finishAtom 2 none, Cond.methodLink RX0 107 yX3_count, Cond.instanceMethod yX3_count, Cond.selects RX3 yX3_count yX3_count, Cond.code yX3_count cX3_count 1 (some .int), Cond.methodLink RX0 110 yX3_top, Cond.instanceMethod yX3_top, Cond.selects RX3 yX3_top yX3_top, Cond.code yX3_top cX3_top 1 (some .int), Cond.methodLink RX0 69 yX3_pop, Cond.instanceMethod yX3_pop, Cond.selects RX3 yX3_pop yX3_pop, Cond.code yX3_pop cX3_pop 1 (some .int), Cond.methodLink RX4 74 yX0_addX, Cond.instanceMethod yX0_addX]
def wsX10_textError_r5 : List Cond := [Cond.selects RX0 yX0_addX yX0_addX, Cond.code yX0_addX cX0_addX 1 none, Cond.methodLink RX4 77 yX0_await, Cond.instanceMethod yX0_await, Cond.selects RX0 yX0_await yX0_await, Cond.code yX0_await cX0_await 2 none, Cond.static yX10_functionOf, Cond.code yX10_functionOf cX10_functionOf 1 (some .int), Cond.methodLink RX4 58 yX4_takesOpening, Cond.instanceMethod yX4_takesOpening, Cond.selects RX4 yX4_takesOpening yX4_takesOpening, Cond.code yX4_takesOpening cX4_takesOpening 2 (some .boolean), Cond.methodLink RX4 61 yX4_takesExponent, Cond.instanceMethod yX4_takesExponent, Cond.selects RX4 yX4_takesExponent yX4_takesExponent, Cond.code yX4_takesExponent cX4_takesExponent 2 (some .boolean), Cond.methodLink RX4 84 yX0_addPower, Cond.instanceMethod yX0_addPower, Cond.selects RX0 yX0_addPower yX0_addPower, Cond.code yX0_addPower cX0_addPower 2 none, Cond.methodLink RX4 64 yX4_takesBehind, Cond.instanceMethod yX4_takesBehind, Cond.selects RX4 yX4_takesBehind yX4_takesBehind, Cond.code yX4_takesBehind cX4_takesBehind 2 (some .boolean)]
def wsX10_textError_r6 : List Cond := [Cond.methodLink RX4 87 yX4_takesFurtherDigit, Cond.instanceMethod yX4_takesFurtherDigit, Cond.selects RX4 yX4_takesFurtherDigit yX4_takesFurtherDigit, Cond.code yX4_takesFurtherDigit cX4_takesFurtherDigit 3 (some .boolean), Cond.methodLink RX4 96 yX0_numberOf, Cond.instanceMethod yX0_numberOf, Cond.selects RX0 yX0_numberOf yX0_numberOf, Cond.code yX0_numberOf cX0_numberOf 2 (some .int), Cond.methodLink RX4 99 yX0_addDigit, Cond.instanceMethod yX0_addDigit, Cond.selects RX0 yX0_addDigit yX0_addDigit, Cond.code yX0_addDigit cX0_addDigit 3 none, Cond.methodLink RX4 90 yX0_close, Cond.instanceMethod yX0_close, Cond.selects RX0 yX0_close yX0_close, Cond.code yX0_close cX0_close 2 none, Cond.methodLink RX0 77 yX0_joinFrom, Cond.instanceMethod yX0_joinFrom, Cond.selects RX0 yX0_joinFrom yX0_joinFrom, Cond.code yX0_joinFrom cX0_joinFrom 4 none, Cond.methodLink RX0 73 yX0_levelOf, Cond.static yX0_levelOf, Cond.code yX0_levelOf cX0_levelOf 1 (some .int), Cond.methodLink RX4 93 yX0_addSign]
def wsX10_textError_r7 : List Cond := [Cond.instanceMethod yX0_addSign, Cond.selects RX0 yX0_addSign yX0_addSign, Cond.code yX0_addSign cX0_addSign 2 none, Cond.methodLink RX4 45 yX0_finish, Cond.instanceMethod yX0_finish, Cond.selects RX0 yX0_finish yX0_finish, Cond.code yX0_finish cX0_finish 1 none]
def wsX10_textError : List Cond := .code yX10_textError cX10_textError 1 (some .int) :: ((wsX10_textError_r1 ++ (wsX10_textError_r2 ++ (wsX10_textError_r3 ++ (wsX10_textError_r4 ++ (wsX10_textError_r5 ++ (wsX10_textError_r6 ++ wsX10_textError_r7)))))) ++ wsX100 ++ wsX40 ++ wsX00 ++ wsX30 ++ wsX90)
def wsX10_nodesOf_r1 : List Cond := [Cond.fieldLink RX10 33 "HingeNumbers" "reckoner" "LHingeNumbers$Reckoner;", Cond.methodLink RX10 41 yX10_requireFunction, Cond.instanceMethod yX10_requireFunction, Cond.selects RX10 yX10_requireFunction yX10_requireFunction, Cond.initialized RX10, Cond.code yX10_requireFunction cX10_requireFunction 2 none, Cond.classLink RX10 182 "java/lang/IndexOutOfBoundsException", Cond.initialized "java/lang/IndexOutOfBoundsException", Cond.methodLink RX10 66 yX5_state, Cond.instanceMethod yX5_state, Cond.selects RX5 yX5_state yX5_state, Cond.initialized RX5, Cond.code yX5_state cX5_state 1 (some (.object "HingeNumbers$State")), Cond.fieldLink RX5 41 "HingeNumbers$Reckoner" "state" "LHingeNumbers$State;", Cond.methodLink RX10 85 yX7_expressionOf, Cond.instanceMethod yX7_expressionOf, Cond.selects RX7 yX7_expressionOf yX7_expressionOf, Cond.initialized RX7, Cond.code yX7_expressionOf cX7_expressionOf 2 (some (.object "HingeNumbers$Expression")), Cond.fieldLink RX7 15 "HingeNumbers$State" "f" "LHingeNumbers$Expression;", Cond.fieldLink RX7 19 "HingeNumbers$State" "g" "LHingeNumbers$Expression;", Cond.fieldLink RX7 22 "HingeNumbers$State" "h" "LHingeNumbers$Expression;", Cond.fieldLink RX7 25 "HingeNumbers$State" "k" "LHingeNumbers$Expression;", Cond.methodLink RX10 80 yX1_size]
def wsX10_nodesOf_r2 : List Cond := [Cond.instanceMethod yX1_size, Cond.selects RX1 yX1_size yX1_size, Cond.initialized RX1, Cond.code yX1_size cX1_size 1 (some .int), Cond.fieldLink RX1 9 "HingeNumbers$Expression" "kinds" "[I"]
def wsX10_nodesOf : List Cond := .code yX10_nodesOf cX10_nodesOf 2 (some .int) :: ((wsX10_nodesOf_r1 ++ wsX10_nodesOf_r2) ++ wsX100 ++ wsX50 ++ wsX70 ++ wsX10 ++ (vx_atS RX10 186 "java/lang/IndexOutOfBoundsException" ["java/lang/RuntimeException", "java/lang/Exception"]).filter goodWord)
def wsX10_unlikeNodesOf_r1 : List Cond := [Cond.fieldLink RX10 33 "HingeNumbers" "reckoner" "LHingeNumbers$Reckoner;", Cond.methodLink RX10 41 yX10_requireFunction, Cond.instanceMethod yX10_requireFunction, Cond.selects RX10 yX10_requireFunction yX10_requireFunction, Cond.initialized RX10, Cond.code yX10_requireFunction cX10_requireFunction 2 none, Cond.classLink RX10 182 "java/lang/IndexOutOfBoundsException", Cond.initialized "java/lang/IndexOutOfBoundsException", Cond.methodLink RX10 66 yX5_state, Cond.instanceMethod yX5_state, Cond.selects RX5 yX5_state yX5_state, Cond.initialized RX5, Cond.code yX5_state cX5_state 1 (some (.object "HingeNumbers$State")), Cond.fieldLink RX5 41 "HingeNumbers$Reckoner" "state" "LHingeNumbers$State;", Cond.methodLink RX10 85 yX7_expressionOf, Cond.instanceMethod yX7_expressionOf, Cond.selects RX7 yX7_expressionOf yX7_expressionOf, Cond.initialized RX7, Cond.code yX7_expressionOf cX7_expressionOf 2 (some (.object "HingeNumbers$Expression")), Cond.fieldLink RX7 15 "HingeNumbers$State" "f" "LHingeNumbers$Expression;", Cond.fieldLink RX7 19 "HingeNumbers$State" "g" "LHingeNumbers$Expression;", Cond.fieldLink RX7 22 "HingeNumbers$State" "h" "LHingeNumbers$Expression;", Cond.fieldLink RX7 25 "HingeNumbers$State" "k" "LHingeNumbers$Expression;", Cond.methodLink RX10 134 yX1_unlike]
def wsX10_unlikeNodesOf_r2 : List Cond := [Cond.instanceMethod yX1_unlike, Cond.selects RX1 yX1_unlike yX1_unlike, Cond.initialized RX1, Cond.code yX1_unlike cX1_unlike 1 (some .int), Cond.fieldLink RX1 28 "HingeNumbers$Expression" "unlike" "I"]
def wsX10_unlikeNodesOf : List Cond := .code yX10_unlikeNodesOf cX10_unlikeNodesOf 2 (some .int) :: ((wsX10_unlikeNodesOf_r1 ++ wsX10_unlikeNodesOf_r2) ++ wsX100 ++ wsX50 ++ wsX70 ++ wsX10 ++ (vx_atS RX10 186 "java/lang/IndexOutOfBoundsException" ["java/lang/RuntimeException", "java/lang/Exception"]).filter goodWord)
def wsX10_requireNumber_r1 : List Cond := [Cond.classLink RX10 96 "java/lang/IllegalArgumentException", Cond.initialized "java/lang/IllegalArgumentException", Cond.methodLink RX10 101 yX10_prime, Cond.instanceMethod yX10_prime, Cond.selects RX10 yX10_prime yX10_prime, Cond.initialized RX10, Cond.code yX10_prime cX10_prime 1 (some .int), Cond.fieldLink RX10 33 "HingeNumbers" "reckoner" "LHingeNumbers$Reckoner;", Cond.methodLink RX10 66 yX5_state, Cond.instanceMethod yX5_state, Cond.selects RX5 yX5_state yX5_state, Cond.initialized RX5, Cond.code yX5_state cX5_state 1 (some (.object "HingeNumbers$State")), Cond.fieldLink RX5 41 "HingeNumbers$Reckoner" "state" "LHingeNumbers$State;", Cond.methodLink RX10 153 yX7_numbers, Cond.instanceMethod yX7_numbers, Cond.selects RX7 yX7_numbers yX7_numbers, Cond.initialized RX7, Cond.code yX7_numbers cX7_numbers 1 (some (.object "HingeNumbers$Remainders")), Cond.fieldLink RX7 9 "HingeNumbers$State" "numbers" "LHingeNumbers$Remainders;", Cond.methodLink RX10 172 yX6_prime, Cond.instanceMethod yX6_prime, Cond.selects RX6 yX6_prime yX6_prime, Cond.initialized RX6]
def wsX10_requireNumber_r2 : List Cond := [Cond.code yX6_prime cX6_prime 1 (some .int), Cond.fieldLink RX6 7 "HingeNumbers$Remainders" "prime" "I"]
def wsX10_requireNumber : List Cond := .code yX10_requireNumber cX10_requireNumber 2 none :: ((wsX10_requireNumber_r1 ++ wsX10_requireNumber_r2) ++ wsX100 ++ wsX50 ++ wsX70 ++ wsX60 ++ (vx_atS RX10 100 "java/lang/IllegalArgumentException" ["java/lang/RuntimeException", "java/lang/Exception"]).filter goodWord)
def wsX10_valueAt_r1 : List Cond := [Cond.fieldLink RX10 33 "HingeNumbers" "reckoner" "LHingeNumbers$Reckoner;", Cond.methodLink RX10 41 yX10_requireFunction, Cond.instanceMethod yX10_requireFunction, Cond.selects RX10 yX10_requireFunction yX10_requireFunction, Cond.initialized RX10, Cond.code yX10_requireFunction cX10_requireFunction 2 none, Cond.classLink RX10 182 "java/lang/IndexOutOfBoundsException", Cond.initialized "java/lang/IndexOutOfBoundsException", Cond.methodLink RX10 140 yX10_requireNumber, Cond.instanceMethod yX10_requireNumber, Cond.selects RX10 yX10_requireNumber yX10_requireNumber, Cond.code yX10_requireNumber cX10_requireNumber 2 none, Cond.classLink RX10 96 "java/lang/IllegalArgumentException", Cond.initialized "java/lang/IllegalArgumentException", Cond.methodLink RX10 101 yX10_prime, Cond.instanceMethod yX10_prime, Cond.selects RX10 yX10_prime yX10_prime, Cond.code yX10_prime cX10_prime 1 (some .int), Cond.methodLink RX10 66 yX5_state, Cond.instanceMethod yX5_state, Cond.selects RX5 yX5_state yX5_state, Cond.initialized RX5, Cond.code yX5_state cX5_state 1 (some (.object "HingeNumbers$State")), Cond.fieldLink RX5 41 "HingeNumbers$Reckoner" "state" "LHingeNumbers$State;"]
def wsX10_valueAt_r2 : List Cond := [Cond.methodLink RX10 153 yX7_numbers, Cond.instanceMethod yX7_numbers, Cond.selects RX7 yX7_numbers yX7_numbers, Cond.initialized RX7, Cond.code yX7_numbers cX7_numbers 1 (some (.object "HingeNumbers$Remainders")), Cond.fieldLink RX7 9 "HingeNumbers$State" "numbers" "LHingeNumbers$Remainders;", Cond.methodLink RX10 172 yX6_prime, Cond.instanceMethod yX6_prime, Cond.selects RX6 yX6_prime yX6_prime, Cond.initialized RX6, Cond.code yX6_prime cX6_prime 1 (some .int), Cond.fieldLink RX6 7 "HingeNumbers$Remainders" "prime" "I", Cond.instanceMethod yX5_value, Cond.selects RX5 yX5_value yX5_value, Cond.code yX5_value cX5_value 5 (some .int), Cond.fieldLink RX5 14 "HingeNumbers$Reckoner" "values" "LHingeNumbers$Table;", Cond.methodLink RX5 51 yX8_get, Cond.instanceMethod yX8_get, Cond.selects RX8 yX8_get yX8_get, Cond.initialized RX8, Cond.code yX8_get cX8_get 3 (some .int), Cond.fieldLink RX8 18 "HingeNumbers$Table" "width" "I", Cond.fieldLink RX8 24 "HingeNumbers$Table" "cells" "[I", Cond.static yX10_at]
def wsX10_valueAt_r3 : List Cond := [Cond.code yX10_at cX10_at 2 (some .int), Cond.methodLink RX5 55 yX5_reckonValues, Cond.instanceMethod yX5_reckonValues, Cond.selects RX5 yX5_reckonValues yX5_reckonValues, Cond.methodLink RX5 58 yX8_set, Cond.instanceMethod yX8_set, Cond.selects RX8 yX8_set yX8_set, Cond.code yX8_set cX8_set 4 none, Cond.static yX10_put, Cond.code yX10_put cX10_put 3 none, Cond.code yX5_reckonValues cX5_reckonValues 6 (some .int), Cond.fieldLink RX5 26 "HingeNumbers$Reckoner" "nodeValues" "LHingeNumbers$Table;", Cond.methodLink RX5 62 yX7_expressionOf, Cond.instanceMethod yX7_expressionOf, Cond.selects RX7 yX7_expressionOf yX7_expressionOf, Cond.code yX7_expressionOf cX7_expressionOf 2 (some (.object "HingeNumbers$Expression")), Cond.fieldLink RX7 15 "HingeNumbers$State" "f" "LHingeNumbers$Expression;", Cond.fieldLink RX7 19 "HingeNumbers$State" "g" "LHingeNumbers$Expression;", Cond.fieldLink RX7 22 "HingeNumbers$State" "h" "LHingeNumbers$Expression;", Cond.fieldLink RX7 25 "HingeNumbers$State" "k" "LHingeNumbers$Expression;", Cond.methodLink RX5 66 yX1_size, Cond.instanceMethod yX1_size, Cond.selects RX1 yX1_size yX1_size, Cond.initialized RX1]
def wsX10_valueAt_r4 : List Cond := [Cond.code yX1_size cX1_size 1 (some .int), Cond.fieldLink RX1 9 "HingeNumbers$Expression" "kinds" "[I", Cond.methodLink RX5 72 yX1_kind, Cond.instanceMethod yX1_kind, Cond.selects RX1 yX1_kind yX1_kind, Cond.code yX1_kind cX1_kind 2 (some .int), Cond.methodLink RX5 76 yX5_valueOfCall, Cond.instanceMethod yX5_valueOfCall, Cond.selects RX5 yX5_valueOfCall yX5_valueOfCall, Cond.methodLink RX5 79 yX5_valueOfNode, Cond.instanceMethod yX5_valueOfNode, Cond.selects RX5 yX5_valueOfNode yX5_valueOfNode, Cond.code yX5_valueOfNode cX5_valueOfNode 8 (some .int), Cond.methodLink RX5 96 yX7_numbers, Cond.methodLink RX5 86 yX1_left, Cond.instanceMethod yX1_left, Cond.selects RX1 yX1_left yX1_left, Cond.code yX1_left cX1_left 2 (some .int), Cond.fieldLink RX1 18 "HingeNumbers$Expression" "lefts" "[I", Cond.methodLink RX5 100 yX1_right, Cond.instanceMethod yX1_right, Cond.selects RX1 yX1_right yX1_right, Cond.code yX1_right cX1_right 2 (some .int), Cond.fieldLink RX1 21 "HingeNumbers$Expression" "rights" "[I"]
def wsX10_valueAt_r5 : List Cond := [Cond.methodLink RX5 83 yX1_number, Cond.instanceMethod yX1_number, Cond.selects RX1 yX1_number yX1_number, Cond.code yX1_number cX1_number 2 (some .int), Cond.fieldLink RX1 15 "HingeNumbers$Expression" "numbers" "[I", Cond.methodLink RX5 103 yX6_of, Cond.instanceMethod yX6_of, Cond.selects RX6 yX6_of yX6_of, Cond.code yX6_of cX6_of 3 (some .int), Cond.methodLink RX5 108 yX6_subtract, Cond.instanceMethod yX6_subtract, Cond.selects RX6 yX6_subtract yX6_subtract, Cond.code yX6_subtract cX6_subtract 3 (some .int), Cond.methodLink RX6 13 yX6_of, Cond.methodLink RX5 111 yX6_add, Cond.instanceMethod yX6_add, Cond.selects RX6 yX6_add yX6_add, Cond.code yX6_add cX6_add 3 (some .int), Cond.methodLink RX5 114 yX6_multiply, Cond.instanceMethod yX6_multiply, Cond.selects RX6 yX6_multiply yX6_multiply, Cond.code yX6_multiply cX6_multiply 3 (some .int), Cond.methodLink RX5 117 yX6_divide, Cond.instanceMethod yX6_divide]
def wsX10_valueAt_r6 : List Cond := [Cond.selects RX6 yX6_divide yX6_divide, Cond.code yX6_divide cX6_divide 3 (some .int), Cond.methodLink RX6 17 yX6_power, Cond.instanceMethod yX6_power, Cond.selects RX6 yX6_power yX6_power, Cond.code yX6_power cX6_power 6 (some .int), Cond.methodLink RX5 120 yX6_power, Cond.code yX5_valueOfCall cX5_valueOfCall 6 (some .int), Cond.methodLink RX5 89 yX5_mayUse, Cond.static yX5_mayUse, Cond.code yX5_mayUse cX5_mayUse 2 (some .boolean), Cond.methodLink RX5 93 yX5_value]
def wsX10_valueAt : List Cond := .code yX10_valueAt cX10_valueAt 3 (some .int) :: ((wsX10_valueAt_r1 ++ (wsX10_valueAt_r2 ++ (wsX10_valueAt_r3 ++ (wsX10_valueAt_r4 ++ (wsX10_valueAt_r5 ++ wsX10_valueAt_r6))))) ++ wsX100 ++ wsX50 ++ wsX70 ++ wsX60 ++ wsX10 ++ wsX80 ++ (vx_atS RX10 186 "java/lang/IndexOutOfBoundsException" ["java/lang/RuntimeException", "java/lang/Exception"]).filter goodWord ++ (vx_atS RX10 100 "java/lang/IllegalArgumentException" ["java/lang/RuntimeException", "java/lang/Exception"]).filter goodWord)
def wsX10_slopeByHinges_r1 : List Cond := [Cond.fieldLink RX10 33 "HingeNumbers" "reckoner" "LHingeNumbers$Reckoner;", Cond.methodLink RX10 41 yX10_requireFunction, Cond.instanceMethod yX10_requireFunction, Cond.selects RX10 yX10_requireFunction yX10_requireFunction, Cond.initialized RX10, Cond.code yX10_requireFunction cX10_requireFunction 2 none, Cond.classLink RX10 182 "java/lang/IndexOutOfBoundsException", Cond.initialized "java/lang/IndexOutOfBoundsException", Cond.methodLink RX10 140 yX10_requireNumber, Cond.instanceMethod yX10_requireNumber, Cond.selects RX10 yX10_requireNumber yX10_requireNumber, Cond.code yX10_requireNumber cX10_requireNumber 2 none, Cond.classLink RX10 96 "java/lang/IllegalArgumentException", Cond.initialized "java/lang/IllegalArgumentException", Cond.methodLink RX10 101 yX10_prime, Cond.instanceMethod yX10_prime, Cond.selects RX10 yX10_prime yX10_prime, Cond.code yX10_prime cX10_prime 1 (some .int), Cond.methodLink RX10 66 yX5_state, Cond.instanceMethod yX5_state, Cond.selects RX5 yX5_state yX5_state, Cond.initialized RX5, Cond.code yX5_state cX5_state 1 (some (.object "HingeNumbers$State")), Cond.fieldLink RX5 41 "HingeNumbers$Reckoner" "state" "LHingeNumbers$State;"]
def wsX10_slopeByHinges_r2 : List Cond := [Cond.methodLink RX10 153 yX7_numbers, Cond.instanceMethod yX7_numbers, Cond.selects RX7 yX7_numbers yX7_numbers, Cond.initialized RX7, Cond.code yX7_numbers cX7_numbers 1 (some (.object "HingeNumbers$Remainders")), Cond.fieldLink RX7 9 "HingeNumbers$State" "numbers" "LHingeNumbers$Remainders;", Cond.methodLink RX10 172 yX6_prime, Cond.instanceMethod yX6_prime, Cond.selects RX6 yX6_prime yX6_prime, Cond.initialized RX6, Cond.code yX6_prime cX6_prime 1 (some .int), Cond.fieldLink RX6 7 "HingeNumbers$Remainders" "prime" "I", Cond.instanceMethod yX5_hingeSlope, Cond.selects RX5 yX5_hingeSlope yX5_hingeSlope, Cond.code yX5_hingeSlope cX5_hingeSlope 6 (some .int), Cond.fieldLink RX5 20 "HingeNumbers$Reckoner" "hingeSlopes" "LHingeNumbers$Table;", Cond.fieldLink RX5 14 "HingeNumbers$Reckoner" "values" "LHingeNumbers$Table;", Cond.fieldLink RX5 26 "HingeNumbers$Reckoner" "nodeValues" "LHingeNumbers$Table;", Cond.methodLink RX5 51 yX8_get, Cond.instanceMethod yX8_get, Cond.selects RX8 yX8_get yX8_get, Cond.initialized RX8, Cond.code yX8_get cX8_get 3 (some .int), Cond.fieldLink RX8 18 "HingeNumbers$Table" "width" "I"]
def wsX10_slopeByHinges_r3 : List Cond := [Cond.fieldLink RX8 24 "HingeNumbers$Table" "cells" "[I", Cond.static yX10_at, Cond.code yX10_at cX10_at 2 (some .int), Cond.methodLink RX5 123 yX5_feed, Cond.instanceMethod yX5_feed, Cond.selects RX5 yX5_feed yX5_feed, Cond.methodLink RX5 62 yX7_expressionOf, Cond.instanceMethod yX7_expressionOf, Cond.selects RX7 yX7_expressionOf yX7_expressionOf, Cond.code yX7_expressionOf cX7_expressionOf 2 (some (.object "HingeNumbers$Expression")), Cond.fieldLink RX7 15 "HingeNumbers$State" "f" "LHingeNumbers$Expression;", Cond.fieldLink RX7 19 "HingeNumbers$State" "g" "LHingeNumbers$Expression;", Cond.fieldLink RX7 22 "HingeNumbers$State" "h" "LHingeNumbers$Expression;", Cond.fieldLink RX7 25 "HingeNumbers$State" "k" "LHingeNumbers$Expression;", Cond.methodLink RX5 66 yX1_size, Cond.instanceMethod yX1_size, Cond.selects RX1 yX1_size yX1_size, Cond.initialized RX1, Cond.code yX1_size cX1_size 1 (some .int), Cond.fieldLink RX1 9 "HingeNumbers$Expression" "kinds" "[I", Cond.methodLink RX5 58 yX8_set, Cond.instanceMethod yX8_set, Cond.selects RX8 yX8_set yX8_set, Cond.code yX8_set cX8_set 4 none]
def wsX10_slopeByHinges_r4 : List Cond := [Cond.static yX10_put, Cond.code yX10_put cX10_put 3 none, Cond.code yX5_feed cX5_feed 7 (some .int), Cond.fieldLink RX5 29 "HingeNumbers$Reckoner" "nodeSlopes" "LHingeNumbers$Table;", Cond.methodLink RX5 72 yX1_kind, Cond.instanceMethod yX1_kind, Cond.selects RX1 yX1_kind yX1_kind, Cond.code yX1_kind cX1_kind 2 (some .int), Cond.methodLink RX5 126 yX5_hingeOfCall, Cond.instanceMethod yX5_hingeOfCall, Cond.selects RX5 yX5_hingeOfCall yX5_hingeOfCall, Cond.methodLink RX5 129 yX5_hingeOfNode, Cond.instanceMethod yX5_hingeOfNode, Cond.selects RX5 yX5_hingeOfNode yX5_hingeOfNode, Cond.code yX5_hingeOfNode cX5_hingeOfNode 6 (some .int), Cond.methodLink RX5 79 yX5_valueOfNode, Cond.instanceMethod yX5_valueOfNode, Cond.selects RX5 yX5_valueOfNode yX5_valueOfNode, Cond.code yX5_valueOfNode cX5_valueOfNode 8 (some .int), Cond.methodLink RX5 96 yX7_numbers, Cond.methodLink RX5 86 yX1_left, Cond.instanceMethod yX1_left, Cond.selects RX1 yX1_left yX1_left, Cond.code yX1_left cX1_left 2 (some .int)]
def wsX10_slopeByHinges_r5 : List Cond := [Cond.fieldLink RX1 18 "HingeNumbers$Expression" "lefts" "[I", Cond.methodLink RX5 100 yX1_right, Cond.instanceMethod yX1_right, Cond.selects RX1 yX1_right yX1_right, Cond.code yX1_right cX1_right 2 (some .int), Cond.fieldLink RX1 21 "HingeNumbers$Expression" "rights" "[I", Cond.methodLink RX5 83 yX1_number, Cond.instanceMethod yX1_number, Cond.selects RX1 yX1_number yX1_number, Cond.code yX1_number cX1_number 2 (some .int), Cond.fieldLink RX1 15 "HingeNumbers$Expression" "numbers" "[I", Cond.methodLink RX5 103 yX6_of, Cond.instanceMethod yX6_of, Cond.selects RX6 yX6_of yX6_of, Cond.code yX6_of cX6_of 3 (some .int), Cond.methodLink RX5 108 yX6_subtract, Cond.instanceMethod yX6_subtract, Cond.selects RX6 yX6_subtract yX6_subtract, Cond.code yX6_subtract cX6_subtract 3 (some .int), Cond.methodLink RX6 13 yX6_of, Cond.methodLink RX5 111 yX6_add, Cond.instanceMethod yX6_add, Cond.selects RX6 yX6_add yX6_add, Cond.code yX6_add cX6_add 3 (some .int)]
def wsX10_slopeByHinges_r6 : List Cond := [Cond.methodLink RX5 114 yX6_multiply, Cond.instanceMethod yX6_multiply, Cond.selects RX6 yX6_multiply yX6_multiply, Cond.code yX6_multiply cX6_multiply 3 (some .int), Cond.methodLink RX5 117 yX6_divide, Cond.instanceMethod yX6_divide, Cond.selects RX6 yX6_divide yX6_divide, Cond.code yX6_divide cX6_divide 3 (some .int), Cond.methodLink RX6 17 yX6_power, Cond.instanceMethod yX6_power, Cond.selects RX6 yX6_power yX6_power, Cond.code yX6_power cX6_power 6 (some .int), Cond.methodLink RX5 120 yX6_power, Cond.methodLink RX5 136 yX5_slopeOfNode, Cond.instanceMethod yX5_slopeOfNode, Cond.selects RX5 yX5_slopeOfNode yX5_slopeOfNode, Cond.code yX5_slopeOfNode cX5_slopeOfNode 10 (some .int), Cond.methodLink RX5 139 yX6_powerSlope, Cond.instanceMethod yX6_powerSlope, Cond.selects RX6 yX6_powerSlope yX6_powerSlope, Cond.code yX6_powerSlope cX6_powerSlope 3 (some .int), Cond.code yX5_hingeOfCall cX5_hingeOfCall 7 (some .int), Cond.methodLink RX5 89 yX5_mayUse, Cond.static yX5_mayUse]
def wsX10_slopeByHinges_r7 : List Cond := [Cond.code yX5_mayUse cX5_mayUse 2 (some .boolean), Cond.methodLink RX5 133 yX5_hingeSlope]
def wsX10_slopeByHinges : List Cond := .code yX10_slopeByHinges cX10_slopeByHinges 3 (some .int) :: ((wsX10_slopeByHinges_r1 ++ (wsX10_slopeByHinges_r2 ++ (wsX10_slopeByHinges_r3 ++ (wsX10_slopeByHinges_r4 ++ (wsX10_slopeByHinges_r5 ++ (wsX10_slopeByHinges_r6 ++ wsX10_slopeByHinges_r7)))))) ++ wsX100 ++ wsX50 ++ wsX70 ++ wsX60 ++ wsX10 ++ wsX80 ++ (vx_atS RX10 186 "java/lang/IndexOutOfBoundsException" ["java/lang/RuntimeException", "java/lang/Exception"]).filter goodWord ++ (vx_atS RX10 100 "java/lang/IllegalArgumentException" ["java/lang/RuntimeException", "java/lang/Exception"]).filter goodWord)
def wsX10_slopeByRules_r1 : List Cond := [Cond.fieldLink RX10 33 "HingeNumbers" "reckoner" "LHingeNumbers$Reckoner;", Cond.methodLink RX10 41 yX10_requireFunction, Cond.instanceMethod yX10_requireFunction, Cond.selects RX10 yX10_requireFunction yX10_requireFunction, Cond.initialized RX10, Cond.code yX10_requireFunction cX10_requireFunction 2 none, Cond.classLink RX10 182 "java/lang/IndexOutOfBoundsException", Cond.initialized "java/lang/IndexOutOfBoundsException", Cond.methodLink RX10 140 yX10_requireNumber, Cond.instanceMethod yX10_requireNumber, Cond.selects RX10 yX10_requireNumber yX10_requireNumber, Cond.code yX10_requireNumber cX10_requireNumber 2 none, Cond.classLink RX10 96 "java/lang/IllegalArgumentException", Cond.initialized "java/lang/IllegalArgumentException", Cond.methodLink RX10 101 yX10_prime, Cond.instanceMethod yX10_prime, Cond.selects RX10 yX10_prime yX10_prime, Cond.code yX10_prime cX10_prime 1 (some .int), Cond.methodLink RX10 66 yX5_state, Cond.instanceMethod yX5_state, Cond.selects RX5 yX5_state yX5_state, Cond.initialized RX5, Cond.code yX5_state cX5_state 1 (some (.object "HingeNumbers$State")), Cond.fieldLink RX5 41 "HingeNumbers$Reckoner" "state" "LHingeNumbers$State;"]
def wsX10_slopeByRules_r2 : List Cond := [Cond.methodLink RX10 153 yX7_numbers, Cond.instanceMethod yX7_numbers, Cond.selects RX7 yX7_numbers yX7_numbers, Cond.initialized RX7, Cond.code yX7_numbers cX7_numbers 1 (some (.object "HingeNumbers$Remainders")), Cond.fieldLink RX7 9 "HingeNumbers$State" "numbers" "LHingeNumbers$Remainders;", Cond.methodLink RX10 172 yX6_prime, Cond.instanceMethod yX6_prime, Cond.selects RX6 yX6_prime yX6_prime, Cond.initialized RX6, Cond.code yX6_prime cX6_prime 1 (some .int), Cond.fieldLink RX6 7 "HingeNumbers$Remainders" "prime" "I", Cond.instanceMethod yX5_ruleSlope, Cond.selects RX5 yX5_ruleSlope yX5_ruleSlope, Cond.code yX5_ruleSlope cX5_ruleSlope 5 (some .int), Cond.fieldLink RX5 23 "HingeNumbers$Reckoner" "ruleSlopes" "LHingeNumbers$Table;", Cond.methodLink RX5 51 yX8_get, Cond.instanceMethod yX8_get, Cond.selects RX8 yX8_get yX8_get, Cond.initialized RX8, Cond.code yX8_get cX8_get 3 (some .int), Cond.fieldLink RX8 18 "HingeNumbers$Table" "width" "I", Cond.fieldLink RX8 24 "HingeNumbers$Table" "cells" "[I", Cond.static yX10_at]
def wsX10_slopeByRules_r3 : List Cond := [Cond.code yX10_at cX10_at 2 (some .int), Cond.methodLink RX5 55 yX5_reckonValues, Cond.instanceMethod yX5_reckonValues, Cond.selects RX5 yX5_reckonValues yX5_reckonValues, Cond.code yX5_reckonValues cX5_reckonValues 6 (some .int), Cond.fieldLink RX5 26 "HingeNumbers$Reckoner" "nodeValues" "LHingeNumbers$Table;", Cond.methodLink RX5 62 yX7_expressionOf, Cond.instanceMethod yX7_expressionOf, Cond.selects RX7 yX7_expressionOf yX7_expressionOf, Cond.code yX7_expressionOf cX7_expressionOf 2 (some (.object "HingeNumbers$Expression")), Cond.fieldLink RX7 15 "HingeNumbers$State" "f" "LHingeNumbers$Expression;", Cond.fieldLink RX7 19 "HingeNumbers$State" "g" "LHingeNumbers$Expression;", Cond.fieldLink RX7 22 "HingeNumbers$State" "h" "LHingeNumbers$Expression;", Cond.fieldLink RX7 25 "HingeNumbers$State" "k" "LHingeNumbers$Expression;", Cond.methodLink RX5 66 yX1_size, Cond.instanceMethod yX1_size, Cond.selects RX1 yX1_size yX1_size, Cond.initialized RX1, Cond.code yX1_size cX1_size 1 (some .int), Cond.fieldLink RX1 9 "HingeNumbers$Expression" "kinds" "[I", Cond.methodLink RX5 72 yX1_kind, Cond.instanceMethod yX1_kind, Cond.selects RX1 yX1_kind yX1_kind, Cond.code yX1_kind cX1_kind 2 (some .int)]
def wsX10_slopeByRules_r4 : List Cond := [Cond.methodLink RX5 76 yX5_valueOfCall, Cond.instanceMethod yX5_valueOfCall, Cond.selects RX5 yX5_valueOfCall yX5_valueOfCall, Cond.methodLink RX5 79 yX5_valueOfNode, Cond.instanceMethod yX5_valueOfNode, Cond.selects RX5 yX5_valueOfNode yX5_valueOfNode, Cond.code yX5_valueOfNode cX5_valueOfNode 8 (some .int), Cond.methodLink RX5 96 yX7_numbers, Cond.methodLink RX5 86 yX1_left, Cond.instanceMethod yX1_left, Cond.selects RX1 yX1_left yX1_left, Cond.code yX1_left cX1_left 2 (some .int), Cond.fieldLink RX1 18 "HingeNumbers$Expression" "lefts" "[I", Cond.methodLink RX5 100 yX1_right, Cond.instanceMethod yX1_right, Cond.selects RX1 yX1_right yX1_right, Cond.code yX1_right cX1_right 2 (some .int), Cond.fieldLink RX1 21 "HingeNumbers$Expression" "rights" "[I", Cond.methodLink RX5 83 yX1_number, Cond.instanceMethod yX1_number, Cond.selects RX1 yX1_number yX1_number, Cond.code yX1_number cX1_number 2 (some .int), Cond.fieldLink RX1 15 "HingeNumbers$Expression" "numbers" "[I", Cond.methodLink RX5 103 yX6_of]
def wsX10_slopeByRules_r5 : List Cond := [Cond.instanceMethod yX6_of, Cond.selects RX6 yX6_of yX6_of, Cond.code yX6_of cX6_of 3 (some .int), Cond.methodLink RX5 108 yX6_subtract, Cond.instanceMethod yX6_subtract, Cond.selects RX6 yX6_subtract yX6_subtract, Cond.code yX6_subtract cX6_subtract 3 (some .int), Cond.methodLink RX6 13 yX6_of, Cond.methodLink RX5 111 yX6_add, Cond.instanceMethod yX6_add, Cond.selects RX6 yX6_add yX6_add, Cond.code yX6_add cX6_add 3 (some .int), Cond.methodLink RX5 114 yX6_multiply, Cond.instanceMethod yX6_multiply, Cond.selects RX6 yX6_multiply yX6_multiply, Cond.code yX6_multiply cX6_multiply 3 (some .int), Cond.methodLink RX5 117 yX6_divide, Cond.instanceMethod yX6_divide, Cond.selects RX6 yX6_divide yX6_divide, Cond.code yX6_divide cX6_divide 3 (some .int), Cond.methodLink RX6 17 yX6_power, Cond.instanceMethod yX6_power, Cond.selects RX6 yX6_power yX6_power, Cond.code yX6_power cX6_power 6 (some .int)]
def wsX10_slopeByRules_r6 : List Cond := [Cond.methodLink RX5 120 yX6_power, Cond.methodLink RX5 58 yX8_set, Cond.instanceMethod yX8_set, Cond.selects RX8 yX8_set yX8_set, Cond.code yX8_set cX8_set 4 none, Cond.static yX10_put, Cond.code yX10_put cX10_put 3 none, Cond.code yX5_value cX5_value 5 (some .int), Cond.fieldLink RX5 14 "HingeNumbers$Reckoner" "values" "LHingeNumbers$Table;", Cond.code yX5_valueOfCall cX5_valueOfCall 6 (some .int), Cond.methodLink RX5 89 yX5_mayUse, Cond.static yX5_mayUse, Cond.code yX5_mayUse cX5_mayUse 2 (some .boolean), Cond.methodLink RX5 93 yX5_value, Cond.instanceMethod yX5_value, Cond.selects RX5 yX5_value yX5_value, Cond.methodLink RX5 142 yX5_sumOfWeights, Cond.instanceMethod yX5_sumOfWeights, Cond.selects RX5 yX5_sumOfWeights yX5_sumOfWeights, Cond.code yX5_leftShare cX5_leftShare 8 (some .int), Cond.methodLink RX5 139 yX6_powerSlope, Cond.instanceMethod yX6_powerSlope, Cond.selects RX6 yX6_powerSlope yX6_powerSlope, Cond.code yX6_powerSlope cX6_powerSlope 3 (some .int)]
def wsX10_slopeByRules_r7 : List Cond := [Cond.methodLink RX5 155 yX5_ruleSlope, Cond.code yX5_passWeightOn cX5_passWeightOn 8 none, Cond.fieldLink RX5 32 "HingeNumbers$Reckoner" "nodeWeights" "LHingeNumbers$Table;", Cond.methodLink RX5 149 yX5_leftShare, Cond.instanceMethod yX5_leftShare, Cond.selects RX5 yX5_leftShare yX5_leftShare, Cond.methodLink RX5 152 yX5_rightShare, Cond.instanceMethod yX5_rightShare, Cond.selects RX5 yX5_rightShare yX5_rightShare, Cond.code yX5_rightShare cX5_rightShare 7 (some .int), Cond.code yX5_sumOfWeights cX5_sumOfWeights 6 (some .int), Cond.methodLink RX5 145 yX5_passWeightOn, Cond.instanceMethod yX5_passWeightOn, Cond.selects RX5 yX5_passWeightOn yX5_passWeightOn]
def wsX10_slopeByRules : List Cond := .code yX10_slopeByRules cX10_slopeByRules 3 (some .int) :: ((wsX10_slopeByRules_r1 ++ (wsX10_slopeByRules_r2 ++ (wsX10_slopeByRules_r3 ++ (wsX10_slopeByRules_r4 ++ (wsX10_slopeByRules_r5 ++ (wsX10_slopeByRules_r6 ++ wsX10_slopeByRules_r7)))))) ++ wsX100 ++ wsX50 ++ wsX70 ++ wsX60 ++ wsX10 ++ wsX80 ++ (vx_atS RX10 186 "java/lang/IndexOutOfBoundsException" ["java/lang/RuntimeException", "java/lang/Exception"]).filter goodWord ++ (vx_atS RX10 100 "java/lang/IllegalArgumentException" ["java/lang/RuntimeException", "java/lang/Exception"]).filter goodWord)
def wsX10_countValues_r1 : List Cond := [Cond.fieldLink RX10 33 "HingeNumbers" "reckoner" "LHingeNumbers$Reckoner;", Cond.methodLink RX10 101 yX10_prime, Cond.instanceMethod yX10_prime, Cond.selects RX10 yX10_prime yX10_prime, Cond.initialized RX10, Cond.code yX10_prime cX10_prime 1 (some .int), Cond.methodLink RX10 66 yX5_state, Cond.instanceMethod yX5_state, Cond.selects RX5 yX5_state yX5_state, Cond.initialized RX5, Cond.code yX5_state cX5_state 1 (some (.object "HingeNumbers$State")), Cond.fieldLink RX5 41 "HingeNumbers$Reckoner" "state" "LHingeNumbers$State;", Cond.methodLink RX10 153 yX7_numbers, Cond.instanceMethod yX7_numbers, Cond.selects RX7 yX7_numbers yX7_numbers, Cond.initialized RX7, Cond.code yX7_numbers cX7_numbers 1 (some (.object "HingeNumbers$Remainders")), Cond.fieldLink RX7 9 "HingeNumbers$State" "numbers" "LHingeNumbers$Remainders;", Cond.methodLink RX10 172 yX6_prime, Cond.instanceMethod yX6_prime, Cond.selects RX6 yX6_prime yX6_prime, Cond.initialized RX6, Cond.code yX6_prime cX6_prime 1 (some .int), Cond.fieldLink RX6 7 "HingeNumbers$Remainders" "prime" "I"]
def wsX10_countValues_r2 : List Cond := [Cond.instanceMethod yX5_value, Cond.selects RX5 yX5_value yX5_value, Cond.code yX5_value cX5_value 5 (some .int), Cond.fieldLink RX5 14 "HingeNumbers$Reckoner" "values" "LHingeNumbers$Table;", Cond.methodLink RX5 51 yX8_get, Cond.instanceMethod yX8_get, Cond.selects RX8 yX8_get yX8_get, Cond.initialized RX8, Cond.code yX8_get cX8_get 3 (some .int), Cond.fieldLink RX8 18 "HingeNumbers$Table" "width" "I", Cond.fieldLink RX8 24 "HingeNumbers$Table" "cells" "[I", Cond.static yX10_at, Cond.code yX10_at cX10_at 2 (some .int), Cond.methodLink RX5 55 yX5_reckonValues, Cond.instanceMethod yX5_reckonValues, Cond.selects RX5 yX5_reckonValues yX5_reckonValues, Cond.methodLink RX5 58 yX8_set, Cond.instanceMethod yX8_set, Cond.selects RX8 yX8_set yX8_set, Cond.code yX8_set cX8_set 4 none, Cond.static yX10_put, Cond.code yX10_put cX10_put 3 none, Cond.code yX5_reckonValues cX5_reckonValues 6 (some .int), Cond.fieldLink RX5 26 "HingeNumbers$Reckoner" "nodeValues" "LHingeNumbers$Table;"]
def wsX10_countValues_r3 : List Cond := [Cond.methodLink RX5 62 yX7_expressionOf, Cond.instanceMethod yX7_expressionOf, Cond.selects RX7 yX7_expressionOf yX7_expressionOf, Cond.code yX7_expressionOf cX7_expressionOf 2 (some (.object "HingeNumbers$Expression")), Cond.fieldLink RX7 15 "HingeNumbers$State" "f" "LHingeNumbers$Expression;", Cond.fieldLink RX7 19 "HingeNumbers$State" "g" "LHingeNumbers$Expression;", Cond.fieldLink RX7 22 "HingeNumbers$State" "h" "LHingeNumbers$Expression;", Cond.fieldLink RX7 25 "HingeNumbers$State" "k" "LHingeNumbers$Expression;", Cond.methodLink RX5 66 yX1_size, Cond.instanceMethod yX1_size, Cond.selects RX1 yX1_size yX1_size, Cond.initialized RX1, Cond.code yX1_size cX1_size 1 (some .int), Cond.fieldLink RX1 9 "HingeNumbers$Expression" "kinds" "[I", Cond.methodLink RX5 72 yX1_kind, Cond.instanceMethod yX1_kind, Cond.selects RX1 yX1_kind yX1_kind, Cond.code yX1_kind cX1_kind 2 (some .int), Cond.methodLink RX5 76 yX5_valueOfCall, Cond.instanceMethod yX5_valueOfCall, Cond.selects RX5 yX5_valueOfCall yX5_valueOfCall, Cond.methodLink RX5 79 yX5_valueOfNode, Cond.instanceMethod yX5_valueOfNode, Cond.selects RX5 yX5_valueOfNode yX5_valueOfNode]
def wsX10_countValues_r4 : List Cond := [Cond.code yX5_valueOfNode cX5_valueOfNode 8 (some .int), Cond.methodLink RX5 96 yX7_numbers, Cond.methodLink RX5 86 yX1_left, Cond.instanceMethod yX1_left, Cond.selects RX1 yX1_left yX1_left, Cond.code yX1_left cX1_left 2 (some .int), Cond.fieldLink RX1 18 "HingeNumbers$Expression" "lefts" "[I", Cond.methodLink RX5 100 yX1_right, Cond.instanceMethod yX1_right, Cond.selects RX1 yX1_right yX1_right, Cond.code yX1_right cX1_right 2 (some .int), Cond.fieldLink RX1 21 "HingeNumbers$Expression" "rights" "[I", Cond.methodLink RX5 83 yX1_number, Cond.instanceMethod yX1_number, Cond.selects RX1 yX1_number yX1_number, Cond.code yX1_number cX1_number 2 (some .int), Cond.fieldLink RX1 15 "HingeNumbers$Expression" "numbers" "[I", Cond.methodLink RX5 103 yX6_of, Cond.instanceMethod yX6_of, Cond.selects RX6 yX6_of yX6_of, Cond.code yX6_of cX6_of 3 (some .int), Cond.methodLink RX5 108 yX6_subtract, Cond.instanceMethod yX6_subtract, Cond.selects RX6 yX6_subtract yX6_subtract]
def wsX10_countValues_r5 : List Cond := [Cond.code yX6_subtract cX6_subtract 3 (some .int), Cond.methodLink RX6 13 yX6_of, Cond.methodLink RX5 111 yX6_add, Cond.instanceMethod yX6_add, Cond.selects RX6 yX6_add yX6_add, Cond.code yX6_add cX6_add 3 (some .int), Cond.methodLink RX5 114 yX6_multiply, Cond.instanceMethod yX6_multiply, Cond.selects RX6 yX6_multiply yX6_multiply, Cond.code yX6_multiply cX6_multiply 3 (some .int), Cond.methodLink RX5 117 yX6_divide, Cond.instanceMethod yX6_divide, Cond.selects RX6 yX6_divide yX6_divide, Cond.code yX6_divide cX6_divide 3 (some .int), Cond.methodLink RX6 17 yX6_power, Cond.instanceMethod yX6_power, Cond.selects RX6 yX6_power yX6_power, Cond.code yX6_power cX6_power 6 (some .int), Cond.methodLink RX5 120 yX6_power, Cond.code yX5_valueOfCall cX5_valueOfCall 6 (some .int), Cond.methodLink RX5 89 yX5_mayUse, Cond.static yX5_mayUse, Cond.code yX5_mayUse cX5_mayUse 2 (some .boolean), Cond.methodLink RX5 93 yX5_value]
def wsX10_countValues : List Cond := .code yX10_countValues cX10_countValues 5 (some .int) :: ((wsX10_countValues_r1 ++ (wsX10_countValues_r2 ++ (wsX10_countValues_r3 ++ (wsX10_countValues_r4 ++ wsX10_countValues_r5)))) ++ wsX100 ++ wsX50 ++ wsX70 ++ wsX60 ++ wsX10 ++ wsX80)
def wsX10_bansOf_r1 : List Cond := [Cond.methodLink RX10 41 yX10_requireFunction, Cond.instanceMethod yX10_requireFunction, Cond.selects RX10 yX10_requireFunction yX10_requireFunction, Cond.initialized RX10, Cond.code yX10_requireFunction cX10_requireFunction 2 none, Cond.classLink RX10 182 "java/lang/IndexOutOfBoundsException", Cond.initialized "java/lang/IndexOutOfBoundsException", Cond.methodLink RX10 166 yX10_countValues, Cond.instanceMethod yX10_countValues, Cond.selects RX10 yX10_countValues yX10_countValues, Cond.code yX10_countValues cX10_countValues 5 (some .int), Cond.fieldLink RX10 33 "HingeNumbers" "reckoner" "LHingeNumbers$Reckoner;", Cond.methodLink RX10 101 yX10_prime, Cond.instanceMethod yX10_prime, Cond.selects RX10 yX10_prime yX10_prime, Cond.code yX10_prime cX10_prime 1 (some .int), Cond.methodLink RX10 66 yX5_state, Cond.instanceMethod yX5_state, Cond.selects RX5 yX5_state yX5_state, Cond.initialized RX5, Cond.code yX5_state cX5_state 1 (some (.object "HingeNumbers$State")), Cond.fieldLink RX5 41 "HingeNumbers$Reckoner" "state" "LHingeNumbers$State;", Cond.methodLink RX10 153 yX7_numbers, Cond.instanceMethod yX7_numbers]
def wsX10_bansOf_r2 : List Cond := [Cond.selects RX7 yX7_numbers yX7_numbers, Cond.initialized RX7, Cond.code yX7_numbers cX7_numbers 1 (some (.object "HingeNumbers$Remainders")), Cond.fieldLink RX7 9 "HingeNumbers$State" "numbers" "LHingeNumbers$Remainders;", Cond.methodLink RX10 172 yX6_prime, Cond.instanceMethod yX6_prime, Cond.selects RX6 yX6_prime yX6_prime, Cond.initialized RX6, Cond.code yX6_prime cX6_prime 1 (some .int), Cond.fieldLink RX6 7 "HingeNumbers$Remainders" "prime" "I", Cond.instanceMethod yX5_value, Cond.selects RX5 yX5_value yX5_value, Cond.code yX5_value cX5_value 5 (some .int), Cond.fieldLink RX5 14 "HingeNumbers$Reckoner" "values" "LHingeNumbers$Table;", Cond.methodLink RX5 51 yX8_get, Cond.instanceMethod yX8_get, Cond.selects RX8 yX8_get yX8_get, Cond.initialized RX8, Cond.code yX8_get cX8_get 3 (some .int), Cond.fieldLink RX8 18 "HingeNumbers$Table" "width" "I", Cond.fieldLink RX8 24 "HingeNumbers$Table" "cells" "[I", Cond.static yX10_at, Cond.code yX10_at cX10_at 2 (some .int), Cond.methodLink RX5 55 yX5_reckonValues]
def wsX10_bansOf_r3 : List Cond := [Cond.instanceMethod yX5_reckonValues, Cond.selects RX5 yX5_reckonValues yX5_reckonValues, Cond.methodLink RX5 58 yX8_set, Cond.instanceMethod yX8_set, Cond.selects RX8 yX8_set yX8_set, Cond.code yX8_set cX8_set 4 none, Cond.static yX10_put, Cond.code yX10_put cX10_put 3 none, Cond.code yX5_reckonValues cX5_reckonValues 6 (some .int), Cond.fieldLink RX5 26 "HingeNumbers$Reckoner" "nodeValues" "LHingeNumbers$Table;", Cond.methodLink RX5 62 yX7_expressionOf, Cond.instanceMethod yX7_expressionOf, Cond.selects RX7 yX7_expressionOf yX7_expressionOf, Cond.code yX7_expressionOf cX7_expressionOf 2 (some (.object "HingeNumbers$Expression")), Cond.fieldLink RX7 15 "HingeNumbers$State" "f" "LHingeNumbers$Expression;", Cond.fieldLink RX7 19 "HingeNumbers$State" "g" "LHingeNumbers$Expression;", Cond.fieldLink RX7 22 "HingeNumbers$State" "h" "LHingeNumbers$Expression;", Cond.fieldLink RX7 25 "HingeNumbers$State" "k" "LHingeNumbers$Expression;", Cond.methodLink RX5 66 yX1_size, Cond.instanceMethod yX1_size, Cond.selects RX1 yX1_size yX1_size, Cond.initialized RX1, Cond.code yX1_size cX1_size 1 (some .int), Cond.fieldLink RX1 9 "HingeNumbers$Expression" "kinds" "[I"]
def wsX10_bansOf_r4 : List Cond := [Cond.methodLink RX5 72 yX1_kind, Cond.instanceMethod yX1_kind, Cond.selects RX1 yX1_kind yX1_kind, Cond.code yX1_kind cX1_kind 2 (some .int), Cond.methodLink RX5 76 yX5_valueOfCall, Cond.instanceMethod yX5_valueOfCall, Cond.selects RX5 yX5_valueOfCall yX5_valueOfCall, Cond.methodLink RX5 79 yX5_valueOfNode, Cond.instanceMethod yX5_valueOfNode, Cond.selects RX5 yX5_valueOfNode yX5_valueOfNode, Cond.code yX5_valueOfNode cX5_valueOfNode 8 (some .int), Cond.methodLink RX5 96 yX7_numbers, Cond.methodLink RX5 86 yX1_left, Cond.instanceMethod yX1_left, Cond.selects RX1 yX1_left yX1_left, Cond.code yX1_left cX1_left 2 (some .int), Cond.fieldLink RX1 18 "HingeNumbers$Expression" "lefts" "[I", Cond.methodLink RX5 100 yX1_right, Cond.instanceMethod yX1_right, Cond.selects RX1 yX1_right yX1_right, Cond.code yX1_right cX1_right 2 (some .int), Cond.fieldLink RX1 21 "HingeNumbers$Expression" "rights" "[I", Cond.methodLink RX5 83 yX1_number, Cond.instanceMethod yX1_number]
def wsX10_bansOf_r5 : List Cond := [Cond.selects RX1 yX1_number yX1_number, Cond.code yX1_number cX1_number 2 (some .int), Cond.fieldLink RX1 15 "HingeNumbers$Expression" "numbers" "[I", Cond.methodLink RX5 103 yX6_of, Cond.instanceMethod yX6_of, Cond.selects RX6 yX6_of yX6_of, Cond.code yX6_of cX6_of 3 (some .int), Cond.methodLink RX5 108 yX6_subtract, Cond.instanceMethod yX6_subtract, Cond.selects RX6 yX6_subtract yX6_subtract, Cond.code yX6_subtract cX6_subtract 3 (some .int), Cond.methodLink RX6 13 yX6_of, Cond.methodLink RX5 111 yX6_add, Cond.instanceMethod yX6_add, Cond.selects RX6 yX6_add yX6_add, Cond.code yX6_add cX6_add 3 (some .int), Cond.methodLink RX5 114 yX6_multiply, Cond.instanceMethod yX6_multiply, Cond.selects RX6 yX6_multiply yX6_multiply, Cond.code yX6_multiply cX6_multiply 3 (some .int), Cond.methodLink RX5 117 yX6_divide, Cond.instanceMethod yX6_divide, Cond.selects RX6 yX6_divide yX6_divide, Cond.code yX6_divide cX6_divide 3 (some .int)]
def wsX10_bansOf_r6 : List Cond := [Cond.methodLink RX6 17 yX6_power, Cond.instanceMethod yX6_power, Cond.selects RX6 yX6_power yX6_power, Cond.code yX6_power cX6_power 6 (some .int), Cond.methodLink RX5 120 yX6_power, Cond.code yX5_valueOfCall cX5_valueOfCall 6 (some .int), Cond.methodLink RX5 89 yX5_mayUse, Cond.static yX5_mayUse, Cond.code yX5_mayUse cX5_mayUse 2 (some .boolean), Cond.methodLink RX5 93 yX5_value]
def wsX10_bansOf : List Cond := .code yX10_bansOf cX10_bansOf 2 (some .int) :: ((wsX10_bansOf_r1 ++ (wsX10_bansOf_r2 ++ (wsX10_bansOf_r3 ++ (wsX10_bansOf_r4 ++ (wsX10_bansOf_r5 ++ wsX10_bansOf_r6))))) ++ wsX100 ++ wsX50 ++ wsX70 ++ wsX60 ++ wsX10 ++ wsX80 ++ (vx_atS RX10 186 "java/lang/IndexOutOfBoundsException" ["java/lang/RuntimeException", "java/lang/Exception"]).filter goodWord)
def wsX10_flatsOf_r1 : List Cond := [Cond.fieldLink RX10 33 "HingeNumbers" "reckoner" "LHingeNumbers$Reckoner;", Cond.methodLink RX10 41 yX10_requireFunction, Cond.instanceMethod yX10_requireFunction, Cond.selects RX10 yX10_requireFunction yX10_requireFunction, Cond.initialized RX10, Cond.code yX10_requireFunction cX10_requireFunction 2 none, Cond.classLink RX10 182 "java/lang/IndexOutOfBoundsException", Cond.initialized "java/lang/IndexOutOfBoundsException", Cond.methodLink RX10 101 yX10_prime, Cond.instanceMethod yX10_prime, Cond.selects RX10 yX10_prime yX10_prime, Cond.code yX10_prime cX10_prime 1 (some .int), Cond.methodLink RX10 66 yX5_state, Cond.instanceMethod yX5_state, Cond.selects RX5 yX5_state yX5_state, Cond.initialized RX5, Cond.code yX5_state cX5_state 1 (some (.object "HingeNumbers$State")), Cond.fieldLink RX5 41 "HingeNumbers$Reckoner" "state" "LHingeNumbers$State;", Cond.methodLink RX10 153 yX7_numbers, Cond.instanceMethod yX7_numbers, Cond.selects RX7 yX7_numbers yX7_numbers, Cond.initialized RX7, Cond.code yX7_numbers cX7_numbers 1 (some (.object "HingeNumbers$Remainders")), Cond.fieldLink RX7 9 "HingeNumbers$State" "numbers" "LHingeNumbers$Remainders;"]
def wsX10_flatsOf_r2 : List Cond := [Cond.methodLink RX10 172 yX6_prime, Cond.instanceMethod yX6_prime, Cond.selects RX6 yX6_prime yX6_prime, Cond.initialized RX6, Cond.code yX6_prime cX6_prime 1 (some .int), Cond.fieldLink RX6 7 "HingeNumbers$Remainders" "prime" "I", Cond.instanceMethod yX5_hingeSlope, Cond.selects RX5 yX5_hingeSlope yX5_hingeSlope, Cond.code yX5_hingeSlope cX5_hingeSlope 6 (some .int), Cond.fieldLink RX5 20 "HingeNumbers$Reckoner" "hingeSlopes" "LHingeNumbers$Table;", Cond.fieldLink RX5 14 "HingeNumbers$Reckoner" "values" "LHingeNumbers$Table;", Cond.fieldLink RX5 26 "HingeNumbers$Reckoner" "nodeValues" "LHingeNumbers$Table;", Cond.methodLink RX5 51 yX8_get, Cond.instanceMethod yX8_get, Cond.selects RX8 yX8_get yX8_get, Cond.initialized RX8, Cond.code yX8_get cX8_get 3 (some .int), Cond.fieldLink RX8 18 "HingeNumbers$Table" "width" "I", Cond.fieldLink RX8 24 "HingeNumbers$Table" "cells" "[I", Cond.static yX10_at, Cond.code yX10_at cX10_at 2 (some .int), Cond.methodLink RX5 123 yX5_feed, Cond.instanceMethod yX5_feed, Cond.selects RX5 yX5_feed yX5_feed]
def wsX10_flatsOf_r3 : List Cond := [Cond.methodLink RX5 62 yX7_expressionOf, Cond.instanceMethod yX7_expressionOf, Cond.selects RX7 yX7_expressionOf yX7_expressionOf, Cond.code yX7_expressionOf cX7_expressionOf 2 (some (.object "HingeNumbers$Expression")), Cond.fieldLink RX7 15 "HingeNumbers$State" "f" "LHingeNumbers$Expression;", Cond.fieldLink RX7 19 "HingeNumbers$State" "g" "LHingeNumbers$Expression;", Cond.fieldLink RX7 22 "HingeNumbers$State" "h" "LHingeNumbers$Expression;", Cond.fieldLink RX7 25 "HingeNumbers$State" "k" "LHingeNumbers$Expression;", Cond.methodLink RX5 66 yX1_size, Cond.instanceMethod yX1_size, Cond.selects RX1 yX1_size yX1_size, Cond.initialized RX1, Cond.code yX1_size cX1_size 1 (some .int), Cond.fieldLink RX1 9 "HingeNumbers$Expression" "kinds" "[I", Cond.methodLink RX5 58 yX8_set, Cond.instanceMethod yX8_set, Cond.selects RX8 yX8_set yX8_set, Cond.code yX8_set cX8_set 4 none, Cond.static yX10_put, Cond.code yX10_put cX10_put 3 none, Cond.code yX5_feed cX5_feed 7 (some .int), Cond.fieldLink RX5 29 "HingeNumbers$Reckoner" "nodeSlopes" "LHingeNumbers$Table;", Cond.methodLink RX5 72 yX1_kind, Cond.instanceMethod yX1_kind]
def wsX10_flatsOf_r4 : List Cond := [Cond.selects RX1 yX1_kind yX1_kind, Cond.code yX1_kind cX1_kind 2 (some .int), Cond.methodLink RX5 126 yX5_hingeOfCall, Cond.instanceMethod yX5_hingeOfCall, Cond.selects RX5 yX5_hingeOfCall yX5_hingeOfCall, Cond.methodLink RX5 129 yX5_hingeOfNode, Cond.instanceMethod yX5_hingeOfNode, Cond.selects RX5 yX5_hingeOfNode yX5_hingeOfNode, Cond.code yX5_hingeOfNode cX5_hingeOfNode 6 (some .int), Cond.methodLink RX5 79 yX5_valueOfNode, Cond.instanceMethod yX5_valueOfNode, Cond.selects RX5 yX5_valueOfNode yX5_valueOfNode, Cond.code yX5_valueOfNode cX5_valueOfNode 8 (some .int), Cond.methodLink RX5 96 yX7_numbers, Cond.methodLink RX5 86 yX1_left, Cond.instanceMethod yX1_left, Cond.selects RX1 yX1_left yX1_left, Cond.code yX1_left cX1_left 2 (some .int), Cond.fieldLink RX1 18 "HingeNumbers$Expression" "lefts" "[I", Cond.methodLink RX5 100 yX1_right, Cond.instanceMethod yX1_right, Cond.selects RX1 yX1_right yX1_right, Cond.code yX1_right cX1_right 2 (some .int), Cond.fieldLink RX1 21 "HingeNumbers$Expression" "rights" "[I"]
def wsX10_flatsOf_r5 : List Cond := [Cond.methodLink RX5 83 yX1_number, Cond.instanceMethod yX1_number, Cond.selects RX1 yX1_number yX1_number, Cond.code yX1_number cX1_number 2 (some .int), Cond.fieldLink RX1 15 "HingeNumbers$Expression" "numbers" "[I", Cond.methodLink RX5 103 yX6_of, Cond.instanceMethod yX6_of, Cond.selects RX6 yX6_of yX6_of, Cond.code yX6_of cX6_of 3 (some .int), Cond.methodLink RX5 108 yX6_subtract, Cond.instanceMethod yX6_subtract, Cond.selects RX6 yX6_subtract yX6_subtract, Cond.code yX6_subtract cX6_subtract 3 (some .int), Cond.methodLink RX6 13 yX6_of, Cond.methodLink RX5 111 yX6_add, Cond.instanceMethod yX6_add, Cond.selects RX6 yX6_add yX6_add, Cond.code yX6_add cX6_add 3 (some .int), Cond.methodLink RX5 114 yX6_multiply, Cond.instanceMethod yX6_multiply, Cond.selects RX6 yX6_multiply yX6_multiply, Cond.code yX6_multiply cX6_multiply 3 (some .int), Cond.methodLink RX5 117 yX6_divide, Cond.instanceMethod yX6_divide]
def wsX10_flatsOf_r6 : List Cond := [Cond.selects RX6 yX6_divide yX6_divide, Cond.code yX6_divide cX6_divide 3 (some .int), Cond.methodLink RX6 17 yX6_power, Cond.instanceMethod yX6_power, Cond.selects RX6 yX6_power yX6_power, Cond.code yX6_power cX6_power 6 (some .int), Cond.methodLink RX5 120 yX6_power, Cond.methodLink RX5 136 yX5_slopeOfNode, Cond.instanceMethod yX5_slopeOfNode, Cond.selects RX5 yX5_slopeOfNode yX5_slopeOfNode, Cond.code yX5_slopeOfNode cX5_slopeOfNode 10 (some .int), Cond.methodLink RX5 139 yX6_powerSlope, Cond.instanceMethod yX6_powerSlope, Cond.selects RX6 yX6_powerSlope yX6_powerSlope, Cond.code yX6_powerSlope cX6_powerSlope 3 (some .int), Cond.code yX5_hingeOfCall cX5_hingeOfCall 7 (some .int), Cond.methodLink RX5 89 yX5_mayUse, Cond.static yX5_mayUse, Cond.code yX5_mayUse cX5_mayUse 2 (some .boolean), Cond.methodLink RX5 133 yX5_hingeSlope]
def wsX10_flatsOf : List Cond := .code yX10_flatsOf cX10_flatsOf 4 (some .int) :: ((wsX10_flatsOf_r1 ++ (wsX10_flatsOf_r2 ++ (wsX10_flatsOf_r3 ++ (wsX10_flatsOf_r4 ++ (wsX10_flatsOf_r5 ++ wsX10_flatsOf_r6))))) ++ wsX100 ++ wsX50 ++ wsX70 ++ wsX60 ++ wsX10 ++ wsX80 ++ (vx_atS RX10 186 "java/lang/IndexOutOfBoundsException" ["java/lang/RuntimeException", "java/lang/Exception"]).filter goodWord)
def wsX10_firstFlat_r1 : List Cond := [Cond.fieldLink RX10 33 "HingeNumbers" "reckoner" "LHingeNumbers$Reckoner;", Cond.methodLink RX10 41 yX10_requireFunction, Cond.instanceMethod yX10_requireFunction, Cond.selects RX10 yX10_requireFunction yX10_requireFunction, Cond.initialized RX10, Cond.code yX10_requireFunction cX10_requireFunction 2 none, Cond.classLink RX10 182 "java/lang/IndexOutOfBoundsException", Cond.initialized "java/lang/IndexOutOfBoundsException", Cond.methodLink RX10 101 yX10_prime, Cond.instanceMethod yX10_prime, Cond.selects RX10 yX10_prime yX10_prime, Cond.code yX10_prime cX10_prime 1 (some .int), Cond.methodLink RX10 66 yX5_state, Cond.instanceMethod yX5_state, Cond.selects RX5 yX5_state yX5_state, Cond.initialized RX5, Cond.code yX5_state cX5_state 1 (some (.object "HingeNumbers$State")), Cond.fieldLink RX5 41 "HingeNumbers$Reckoner" "state" "LHingeNumbers$State;", Cond.methodLink RX10 153 yX7_numbers, Cond.instanceMethod yX7_numbers, Cond.selects RX7 yX7_numbers yX7_numbers, Cond.initialized RX7, Cond.code yX7_numbers cX7_numbers 1 (some (.object "HingeNumbers$Remainders")), Cond.fieldLink RX7 9 "HingeNumbers$State" "numbers" "LHingeNumbers$Remainders;"]
def wsX10_firstFlat_r2 : List Cond := [Cond.methodLink RX10 172 yX6_prime, Cond.instanceMethod yX6_prime, Cond.selects RX6 yX6_prime yX6_prime, Cond.initialized RX6, Cond.code yX6_prime cX6_prime 1 (some .int), Cond.fieldLink RX6 7 "HingeNumbers$Remainders" "prime" "I", Cond.instanceMethod yX5_hingeSlope, Cond.selects RX5 yX5_hingeSlope yX5_hingeSlope, Cond.code yX5_hingeSlope cX5_hingeSlope 6 (some .int), Cond.fieldLink RX5 20 "HingeNumbers$Reckoner" "hingeSlopes" "LHingeNumbers$Table;", Cond.fieldLink RX5 14 "HingeNumbers$Reckoner" "values" "LHingeNumbers$Table;", Cond.fieldLink RX5 26 "HingeNumbers$Reckoner" "nodeValues" "LHingeNumbers$Table;", Cond.methodLink RX5 51 yX8_get, Cond.instanceMethod yX8_get, Cond.selects RX8 yX8_get yX8_get, Cond.initialized RX8, Cond.code yX8_get cX8_get 3 (some .int), Cond.fieldLink RX8 18 "HingeNumbers$Table" "width" "I", Cond.fieldLink RX8 24 "HingeNumbers$Table" "cells" "[I", Cond.static yX10_at, Cond.code yX10_at cX10_at 2 (some .int), Cond.methodLink RX5 123 yX5_feed, Cond.instanceMethod yX5_feed, Cond.selects RX5 yX5_feed yX5_feed]
def wsX10_firstFlat_r3 : List Cond := [Cond.methodLink RX5 62 yX7_expressionOf, Cond.instanceMethod yX7_expressionOf, Cond.selects RX7 yX7_expressionOf yX7_expressionOf, Cond.code yX7_expressionOf cX7_expressionOf 2 (some (.object "HingeNumbers$Expression")), Cond.fieldLink RX7 15 "HingeNumbers$State" "f" "LHingeNumbers$Expression;", Cond.fieldLink RX7 19 "HingeNumbers$State" "g" "LHingeNumbers$Expression;", Cond.fieldLink RX7 22 "HingeNumbers$State" "h" "LHingeNumbers$Expression;", Cond.fieldLink RX7 25 "HingeNumbers$State" "k" "LHingeNumbers$Expression;", Cond.methodLink RX5 66 yX1_size, Cond.instanceMethod yX1_size, Cond.selects RX1 yX1_size yX1_size, Cond.initialized RX1, Cond.code yX1_size cX1_size 1 (some .int), Cond.fieldLink RX1 9 "HingeNumbers$Expression" "kinds" "[I", Cond.methodLink RX5 58 yX8_set, Cond.instanceMethod yX8_set, Cond.selects RX8 yX8_set yX8_set, Cond.code yX8_set cX8_set 4 none, Cond.static yX10_put, Cond.code yX10_put cX10_put 3 none, Cond.code yX5_feed cX5_feed 7 (some .int), Cond.fieldLink RX5 29 "HingeNumbers$Reckoner" "nodeSlopes" "LHingeNumbers$Table;", Cond.methodLink RX5 72 yX1_kind, Cond.instanceMethod yX1_kind]
def wsX10_firstFlat_r4 : List Cond := [Cond.selects RX1 yX1_kind yX1_kind, Cond.code yX1_kind cX1_kind 2 (some .int), Cond.methodLink RX5 126 yX5_hingeOfCall, Cond.instanceMethod yX5_hingeOfCall, Cond.selects RX5 yX5_hingeOfCall yX5_hingeOfCall, Cond.methodLink RX5 129 yX5_hingeOfNode, Cond.instanceMethod yX5_hingeOfNode, Cond.selects RX5 yX5_hingeOfNode yX5_hingeOfNode, Cond.code yX5_hingeOfNode cX5_hingeOfNode 6 (some .int), Cond.methodLink RX5 79 yX5_valueOfNode, Cond.instanceMethod yX5_valueOfNode, Cond.selects RX5 yX5_valueOfNode yX5_valueOfNode, Cond.code yX5_valueOfNode cX5_valueOfNode 8 (some .int), Cond.methodLink RX5 96 yX7_numbers, Cond.methodLink RX5 86 yX1_left, Cond.instanceMethod yX1_left, Cond.selects RX1 yX1_left yX1_left, Cond.code yX1_left cX1_left 2 (some .int), Cond.fieldLink RX1 18 "HingeNumbers$Expression" "lefts" "[I", Cond.methodLink RX5 100 yX1_right, Cond.instanceMethod yX1_right, Cond.selects RX1 yX1_right yX1_right, Cond.code yX1_right cX1_right 2 (some .int), Cond.fieldLink RX1 21 "HingeNumbers$Expression" "rights" "[I"]
def wsX10_firstFlat_r5 : List Cond := [Cond.methodLink RX5 83 yX1_number, Cond.instanceMethod yX1_number, Cond.selects RX1 yX1_number yX1_number, Cond.code yX1_number cX1_number 2 (some .int), Cond.fieldLink RX1 15 "HingeNumbers$Expression" "numbers" "[I", Cond.methodLink RX5 103 yX6_of, Cond.instanceMethod yX6_of, Cond.selects RX6 yX6_of yX6_of, Cond.code yX6_of cX6_of 3 (some .int), Cond.methodLink RX5 108 yX6_subtract, Cond.instanceMethod yX6_subtract, Cond.selects RX6 yX6_subtract yX6_subtract, Cond.code yX6_subtract cX6_subtract 3 (some .int), Cond.methodLink RX6 13 yX6_of, Cond.methodLink RX5 111 yX6_add, Cond.instanceMethod yX6_add, Cond.selects RX6 yX6_add yX6_add, Cond.code yX6_add cX6_add 3 (some .int), Cond.methodLink RX5 114 yX6_multiply, Cond.instanceMethod yX6_multiply, Cond.selects RX6 yX6_multiply yX6_multiply, Cond.code yX6_multiply cX6_multiply 3 (some .int), Cond.methodLink RX5 117 yX6_divide, Cond.instanceMethod yX6_divide]
def wsX10_firstFlat_r6 : List Cond := [Cond.selects RX6 yX6_divide yX6_divide, Cond.code yX6_divide cX6_divide 3 (some .int), Cond.methodLink RX6 17 yX6_power, Cond.instanceMethod yX6_power, Cond.selects RX6 yX6_power yX6_power, Cond.code yX6_power cX6_power 6 (some .int), Cond.methodLink RX5 120 yX6_power, Cond.methodLink RX5 136 yX5_slopeOfNode, Cond.instanceMethod yX5_slopeOfNode, Cond.selects RX5 yX5_slopeOfNode yX5_slopeOfNode, Cond.code yX5_slopeOfNode cX5_slopeOfNode 10 (some .int), Cond.methodLink RX5 139 yX6_powerSlope, Cond.instanceMethod yX6_powerSlope, Cond.selects RX6 yX6_powerSlope yX6_powerSlope, Cond.code yX6_powerSlope cX6_powerSlope 3 (some .int), Cond.code yX5_hingeOfCall cX5_hingeOfCall 7 (some .int), Cond.methodLink RX5 89 yX5_mayUse, Cond.static yX5_mayUse, Cond.code yX5_mayUse cX5_mayUse 2 (some .boolean), Cond.methodLink RX5 133 yX5_hingeSlope]
def wsX10_firstFlat : List Cond := .code yX10_firstFlat cX10_firstFlat 3 (some .int) :: ((wsX10_firstFlat_r1 ++ (wsX10_firstFlat_r2 ++ (wsX10_firstFlat_r3 ++ (wsX10_firstFlat_r4 ++ (wsX10_firstFlat_r5 ++ wsX10_firstFlat_r6))))) ++ wsX100 ++ wsX50 ++ wsX70 ++ wsX60 ++ wsX10 ++ wsX80 ++ (vx_atS RX10 186 "java/lang/IndexOutOfBoundsException" ["java/lang/RuntimeException", "java/lang/Exception"]).filter goodWord)
def wsX10_rootsOf_r1 : List Cond := [Cond.methodLink RX10 41 yX10_requireFunction, Cond.instanceMethod yX10_requireFunction, Cond.selects RX10 yX10_requireFunction yX10_requireFunction, Cond.initialized RX10, Cond.code yX10_requireFunction cX10_requireFunction 2 none, Cond.classLink RX10 182 "java/lang/IndexOutOfBoundsException", Cond.initialized "java/lang/IndexOutOfBoundsException", Cond.methodLink RX10 166 yX10_countValues, Cond.instanceMethod yX10_countValues, Cond.selects RX10 yX10_countValues yX10_countValues, Cond.code yX10_countValues cX10_countValues 5 (some .int), Cond.fieldLink RX10 33 "HingeNumbers" "reckoner" "LHingeNumbers$Reckoner;", Cond.methodLink RX10 101 yX10_prime, Cond.instanceMethod yX10_prime, Cond.selects RX10 yX10_prime yX10_prime, Cond.code yX10_prime cX10_prime 1 (some .int), Cond.methodLink RX10 66 yX5_state, Cond.instanceMethod yX5_state, Cond.selects RX5 yX5_state yX5_state, Cond.initialized RX5, Cond.code yX5_state cX5_state 1 (some (.object "HingeNumbers$State")), Cond.fieldLink RX5 41 "HingeNumbers$Reckoner" "state" "LHingeNumbers$State;", Cond.methodLink RX10 153 yX7_numbers, Cond.instanceMethod yX7_numbers]
def wsX10_rootsOf_r2 : List Cond := [Cond.selects RX7 yX7_numbers yX7_numbers, Cond.initialized RX7, Cond.code yX7_numbers cX7_numbers 1 (some (.object "HingeNumbers$Remainders")), Cond.fieldLink RX7 9 "HingeNumbers$State" "numbers" "LHingeNumbers$Remainders;", Cond.methodLink RX10 172 yX6_prime, Cond.instanceMethod yX6_prime, Cond.selects RX6 yX6_prime yX6_prime, Cond.initialized RX6, Cond.code yX6_prime cX6_prime 1 (some .int), Cond.fieldLink RX6 7 "HingeNumbers$Remainders" "prime" "I", Cond.instanceMethod yX5_value, Cond.selects RX5 yX5_value yX5_value, Cond.code yX5_value cX5_value 5 (some .int), Cond.fieldLink RX5 14 "HingeNumbers$Reckoner" "values" "LHingeNumbers$Table;", Cond.methodLink RX5 51 yX8_get, Cond.instanceMethod yX8_get, Cond.selects RX8 yX8_get yX8_get, Cond.initialized RX8, Cond.code yX8_get cX8_get 3 (some .int), Cond.fieldLink RX8 18 "HingeNumbers$Table" "width" "I", Cond.fieldLink RX8 24 "HingeNumbers$Table" "cells" "[I", Cond.static yX10_at, Cond.code yX10_at cX10_at 2 (some .int), Cond.methodLink RX5 55 yX5_reckonValues]
def wsX10_rootsOf_r3 : List Cond := [Cond.instanceMethod yX5_reckonValues, Cond.selects RX5 yX5_reckonValues yX5_reckonValues, Cond.methodLink RX5 58 yX8_set, Cond.instanceMethod yX8_set, Cond.selects RX8 yX8_set yX8_set, Cond.code yX8_set cX8_set 4 none, Cond.static yX10_put, Cond.code yX10_put cX10_put 3 none, Cond.code yX5_reckonValues cX5_reckonValues 6 (some .int), Cond.fieldLink RX5 26 "HingeNumbers$Reckoner" "nodeValues" "LHingeNumbers$Table;", Cond.methodLink RX5 62 yX7_expressionOf, Cond.instanceMethod yX7_expressionOf, Cond.selects RX7 yX7_expressionOf yX7_expressionOf, Cond.code yX7_expressionOf cX7_expressionOf 2 (some (.object "HingeNumbers$Expression")), Cond.fieldLink RX7 15 "HingeNumbers$State" "f" "LHingeNumbers$Expression;", Cond.fieldLink RX7 19 "HingeNumbers$State" "g" "LHingeNumbers$Expression;", Cond.fieldLink RX7 22 "HingeNumbers$State" "h" "LHingeNumbers$Expression;", Cond.fieldLink RX7 25 "HingeNumbers$State" "k" "LHingeNumbers$Expression;", Cond.methodLink RX5 66 yX1_size, Cond.instanceMethod yX1_size, Cond.selects RX1 yX1_size yX1_size, Cond.initialized RX1, Cond.code yX1_size cX1_size 1 (some .int), Cond.fieldLink RX1 9 "HingeNumbers$Expression" "kinds" "[I"]
def wsX10_rootsOf_r4 : List Cond := [Cond.methodLink RX5 72 yX1_kind, Cond.instanceMethod yX1_kind, Cond.selects RX1 yX1_kind yX1_kind, Cond.code yX1_kind cX1_kind 2 (some .int), Cond.methodLink RX5 76 yX5_valueOfCall, Cond.instanceMethod yX5_valueOfCall, Cond.selects RX5 yX5_valueOfCall yX5_valueOfCall, Cond.methodLink RX5 79 yX5_valueOfNode, Cond.instanceMethod yX5_valueOfNode, Cond.selects RX5 yX5_valueOfNode yX5_valueOfNode, Cond.code yX5_valueOfNode cX5_valueOfNode 8 (some .int), Cond.methodLink RX5 96 yX7_numbers, Cond.methodLink RX5 86 yX1_left, Cond.instanceMethod yX1_left, Cond.selects RX1 yX1_left yX1_left, Cond.code yX1_left cX1_left 2 (some .int), Cond.fieldLink RX1 18 "HingeNumbers$Expression" "lefts" "[I", Cond.methodLink RX5 100 yX1_right, Cond.instanceMethod yX1_right, Cond.selects RX1 yX1_right yX1_right, Cond.code yX1_right cX1_right 2 (some .int), Cond.fieldLink RX1 21 "HingeNumbers$Expression" "rights" "[I", Cond.methodLink RX5 83 yX1_number, Cond.instanceMethod yX1_number]
def wsX10_rootsOf_r5 : List Cond := [Cond.selects RX1 yX1_number yX1_number, Cond.code yX1_number cX1_number 2 (some .int), Cond.fieldLink RX1 15 "HingeNumbers$Expression" "numbers" "[I", Cond.methodLink RX5 103 yX6_of, Cond.instanceMethod yX6_of, Cond.selects RX6 yX6_of yX6_of, Cond.code yX6_of cX6_of 3 (some .int), Cond.methodLink RX5 108 yX6_subtract, Cond.instanceMethod yX6_subtract, Cond.selects RX6 yX6_subtract yX6_subtract, Cond.code yX6_subtract cX6_subtract 3 (some .int), Cond.methodLink RX6 13 yX6_of, Cond.methodLink RX5 111 yX6_add, Cond.instanceMethod yX6_add, Cond.selects RX6 yX6_add yX6_add, Cond.code yX6_add cX6_add 3 (some .int), Cond.methodLink RX5 114 yX6_multiply, Cond.instanceMethod yX6_multiply, Cond.selects RX6 yX6_multiply yX6_multiply, Cond.code yX6_multiply cX6_multiply 3 (some .int), Cond.methodLink RX5 117 yX6_divide, Cond.instanceMethod yX6_divide, Cond.selects RX6 yX6_divide yX6_divide, Cond.code yX6_divide cX6_divide 3 (some .int)]
def wsX10_rootsOf_r6 : List Cond := [Cond.methodLink RX6 17 yX6_power, Cond.instanceMethod yX6_power, Cond.selects RX6 yX6_power yX6_power, Cond.code yX6_power cX6_power 6 (some .int), Cond.methodLink RX5 120 yX6_power, Cond.code yX5_valueOfCall cX5_valueOfCall 6 (some .int), Cond.methodLink RX5 89 yX5_mayUse, Cond.static yX5_mayUse, Cond.code yX5_mayUse cX5_mayUse 2 (some .boolean), Cond.methodLink RX5 93 yX5_value]
def wsX10_rootsOf : List Cond := .code yX10_rootsOf cX10_rootsOf 2 (some .int) :: ((wsX10_rootsOf_r1 ++ (wsX10_rootsOf_r2 ++ (wsX10_rootsOf_r3 ++ (wsX10_rootsOf_r4 ++ (wsX10_rootsOf_r5 ++ wsX10_rootsOf_r6))))) ++ wsX100 ++ wsX50 ++ wsX70 ++ wsX60 ++ wsX10 ++ wsX80 ++ (vx_atS RX10 186 "java/lang/IndexOutOfBoundsException" ["java/lang/RuntimeException", "java/lang/Exception"]).filter goodWord)
def wsX10_nextOf_r1 : List Cond := [Cond.fieldLink RX10 33 "HingeNumbers" "reckoner" "LHingeNumbers$Reckoner;", Cond.instanceMethod yX5_value, Cond.initialized RX5, Cond.selects RX5 yX5_value yX5_value, Cond.code yX5_value cX5_value 5 (some .int), Cond.fieldLink RX5 14 "HingeNumbers$Reckoner" "values" "LHingeNumbers$Table;", Cond.methodLink RX5 51 yX8_get, Cond.instanceMethod yX8_get, Cond.selects RX8 yX8_get yX8_get, Cond.initialized RX8, Cond.code yX8_get cX8_get 3 (some .int), Cond.fieldLink RX8 18 "HingeNumbers$Table" "width" "I", Cond.fieldLink RX8 24 "HingeNumbers$Table" "cells" "[I", Cond.static yX10_at, Cond.initialized RX10, Cond.code yX10_at cX10_at 2 (some .int), Cond.methodLink RX5 55 yX5_reckonValues, Cond.instanceMethod yX5_reckonValues, Cond.selects RX5 yX5_reckonValues yX5_reckonValues, Cond.methodLink RX5 58 yX8_set, Cond.instanceMethod yX8_set, Cond.selects RX8 yX8_set yX8_set, Cond.code yX8_set cX8_set 4 none, Cond.static yX10_put]
def wsX10_nextOf_r2 : List Cond := [Cond.code yX10_put cX10_put 3 none, Cond.code yX5_reckonValues cX5_reckonValues 6 (some .int), Cond.fieldLink RX5 41 "HingeNumbers$Reckoner" "state" "LHingeNumbers$State;", Cond.fieldLink RX5 26 "HingeNumbers$Reckoner" "nodeValues" "LHingeNumbers$Table;", Cond.methodLink RX5 62 yX7_expressionOf, Cond.instanceMethod yX7_expressionOf, Cond.selects RX7 yX7_expressionOf yX7_expressionOf, Cond.initialized RX7, Cond.code yX7_expressionOf cX7_expressionOf 2 (some (.object "HingeNumbers$Expression")), Cond.fieldLink RX7 15 "HingeNumbers$State" "f" "LHingeNumbers$Expression;", Cond.fieldLink RX7 19 "HingeNumbers$State" "g" "LHingeNumbers$Expression;", Cond.fieldLink RX7 22 "HingeNumbers$State" "h" "LHingeNumbers$Expression;", Cond.fieldLink RX7 25 "HingeNumbers$State" "k" "LHingeNumbers$Expression;", Cond.methodLink RX5 66 yX1_size, Cond.instanceMethod yX1_size, Cond.selects RX1 yX1_size yX1_size, Cond.initialized RX1, Cond.code yX1_size cX1_size 1 (some .int), Cond.fieldLink RX1 9 "HingeNumbers$Expression" "kinds" "[I", Cond.methodLink RX5 72 yX1_kind, Cond.instanceMethod yX1_kind, Cond.selects RX1 yX1_kind yX1_kind, Cond.code yX1_kind cX1_kind 2 (some .int), Cond.methodLink RX5 76 yX5_valueOfCall]
def wsX10_nextOf_r3 : List Cond := [Cond.instanceMethod yX5_valueOfCall, Cond.selects RX5 yX5_valueOfCall yX5_valueOfCall, Cond.methodLink RX5 79 yX5_valueOfNode, Cond.instanceMethod yX5_valueOfNode, Cond.selects RX5 yX5_valueOfNode yX5_valueOfNode, Cond.code yX5_valueOfNode cX5_valueOfNode 8 (some .int), Cond.methodLink RX5 96 yX7_numbers, Cond.instanceMethod yX7_numbers, Cond.selects RX7 yX7_numbers yX7_numbers, Cond.code yX7_numbers cX7_numbers 1 (some (.object "HingeNumbers$Remainders")), Cond.fieldLink RX7 9 "HingeNumbers$State" "numbers" "LHingeNumbers$Remainders;", Cond.methodLink RX5 86 yX1_left, Cond.instanceMethod yX1_left, Cond.selects RX1 yX1_left yX1_left, Cond.code yX1_left cX1_left 2 (some .int), Cond.fieldLink RX1 18 "HingeNumbers$Expression" "lefts" "[I", Cond.methodLink RX5 100 yX1_right, Cond.instanceMethod yX1_right, Cond.selects RX1 yX1_right yX1_right, Cond.code yX1_right cX1_right 2 (some .int), Cond.fieldLink RX1 21 "HingeNumbers$Expression" "rights" "[I", Cond.methodLink RX5 83 yX1_number, Cond.instanceMethod yX1_number, Cond.selects RX1 yX1_number yX1_number]
def wsX10_nextOf_r4 : List Cond := [Cond.code yX1_number cX1_number 2 (some .int), Cond.fieldLink RX1 15 "HingeNumbers$Expression" "numbers" "[I", Cond.methodLink RX5 103 yX6_of, Cond.instanceMethod yX6_of, Cond.selects RX6 yX6_of yX6_of, Cond.initialized RX6, Cond.code yX6_of cX6_of 3 (some .int), Cond.fieldLink RX6 7 "HingeNumbers$Remainders" "prime" "I", Cond.methodLink RX5 108 yX6_subtract, Cond.instanceMethod yX6_subtract, Cond.selects RX6 yX6_subtract yX6_subtract, Cond.code yX6_subtract cX6_subtract 3 (some .int), Cond.methodLink RX6 13 yX6_of, Cond.methodLink RX5 111 yX6_add, Cond.instanceMethod yX6_add, Cond.selects RX6 yX6_add yX6_add, Cond.code yX6_add cX6_add 3 (some .int), Cond.methodLink RX5 114 yX6_multiply, Cond.instanceMethod yX6_multiply, Cond.selects RX6 yX6_multiply yX6_multiply, Cond.code yX6_multiply cX6_multiply 3 (some .int), Cond.methodLink RX5 117 yX6_divide, Cond.instanceMethod yX6_divide, Cond.selects RX6 yX6_divide yX6_divide]
def wsX10_nextOf_r5 : List Cond := [Cond.code yX6_divide cX6_divide 3 (some .int), Cond.methodLink RX6 17 yX6_power, Cond.instanceMethod yX6_power, Cond.selects RX6 yX6_power yX6_power, Cond.code yX6_power cX6_power 6 (some .int), Cond.methodLink RX5 120 yX6_power, Cond.code yX5_valueOfCall cX5_valueOfCall 6 (some .int), Cond.methodLink RX5 89 yX5_mayUse, Cond.static yX5_mayUse, Cond.code yX5_mayUse cX5_mayUse 2 (some .boolean), Cond.methodLink RX5 93 yX5_value, Cond.instanceMethod yX5_hingeSlope, Cond.selects RX5 yX5_hingeSlope yX5_hingeSlope, Cond.code yX5_hingeSlope cX5_hingeSlope 6 (some .int), Cond.fieldLink RX5 20 "HingeNumbers$Reckoner" "hingeSlopes" "LHingeNumbers$Table;", Cond.methodLink RX5 123 yX5_feed, Cond.instanceMethod yX5_feed, Cond.selects RX5 yX5_feed yX5_feed, Cond.code yX5_feed cX5_feed 7 (some .int), Cond.fieldLink RX5 29 "HingeNumbers$Reckoner" "nodeSlopes" "LHingeNumbers$Table;", Cond.methodLink RX5 126 yX5_hingeOfCall, Cond.instanceMethod yX5_hingeOfCall, Cond.selects RX5 yX5_hingeOfCall yX5_hingeOfCall, Cond.methodLink RX5 129 yX5_hingeOfNode]
def wsX10_nextOf_r6 : List Cond := [Cond.instanceMethod yX5_hingeOfNode, Cond.selects RX5 yX5_hingeOfNode yX5_hingeOfNode, Cond.code yX5_hingeOfNode cX5_hingeOfNode 6 (some .int), Cond.methodLink RX5 136 yX5_slopeOfNode, Cond.instanceMethod yX5_slopeOfNode, Cond.selects RX5 yX5_slopeOfNode yX5_slopeOfNode, Cond.code yX5_slopeOfNode cX5_slopeOfNode 10 (some .int), Cond.methodLink RX5 139 yX6_powerSlope, Cond.instanceMethod yX6_powerSlope, Cond.selects RX6 yX6_powerSlope yX6_powerSlope, Cond.code yX6_powerSlope cX6_powerSlope 3 (some .int), Cond.code yX5_hingeOfCall cX5_hingeOfCall 7 (some .int), Cond.methodLink RX5 133 yX5_hingeSlope, Cond.methodLink RX10 66 yX5_state, Cond.instanceMethod yX5_state, Cond.selects RX5 yX5_state yX5_state, Cond.code yX5_state cX5_state 1 (some (.object "HingeNumbers$State")), Cond.methodLink RX10 153 yX7_numbers, Cond.methodLink RX10 176 yX6_divide, Cond.methodLink RX10 179 yX6_subtract]
def wsX10_nextOf : List Cond := .code yX10_nextOf cX10_nextOf 6 (some .int) :: ((wsX10_nextOf_r1 ++ (wsX10_nextOf_r2 ++ (wsX10_nextOf_r3 ++ (wsX10_nextOf_r4 ++ (wsX10_nextOf_r5 ++ wsX10_nextOf_r6))))) ++ wsX100 ++ wsX50 ++ wsX70 ++ wsX10 ++ wsX80 ++ wsX60)
def wsX10_step_r1 : List Cond := [Cond.methodLink RX10 41 yX10_requireFunction, Cond.instanceMethod yX10_requireFunction, Cond.selects RX10 yX10_requireFunction yX10_requireFunction, Cond.initialized RX10, Cond.code yX10_requireFunction cX10_requireFunction 2 none, Cond.classLink RX10 182 "java/lang/IndexOutOfBoundsException", Cond.initialized "java/lang/IndexOutOfBoundsException", Cond.methodLink RX10 140 yX10_requireNumber, Cond.instanceMethod yX10_requireNumber, Cond.selects RX10 yX10_requireNumber yX10_requireNumber, Cond.code yX10_requireNumber cX10_requireNumber 2 none, Cond.classLink RX10 96 "java/lang/IllegalArgumentException", Cond.initialized "java/lang/IllegalArgumentException", Cond.methodLink RX10 101 yX10_prime, Cond.instanceMethod yX10_prime, Cond.selects RX10 yX10_prime yX10_prime, Cond.code yX10_prime cX10_prime 1 (some .int), Cond.fieldLink RX10 33 "HingeNumbers" "reckoner" "LHingeNumbers$Reckoner;", Cond.methodLink RX10 66 yX5_state, Cond.instanceMethod yX5_state, Cond.selects RX5 yX5_state yX5_state, Cond.initialized RX5, Cond.code yX5_state cX5_state 1 (some (.object "HingeNumbers$State")), Cond.fieldLink RX5 41 "HingeNumbers$Reckoner" "state" "LHingeNumbers$State;"]
def wsX10_step_r2 : List Cond := [Cond.methodLink RX10 153 yX7_numbers, Cond.instanceMethod yX7_numbers, Cond.selects RX7 yX7_numbers yX7_numbers, Cond.initialized RX7, Cond.code yX7_numbers cX7_numbers 1 (some (.object "HingeNumbers$Remainders")), Cond.fieldLink RX7 9 "HingeNumbers$State" "numbers" "LHingeNumbers$Remainders;", Cond.methodLink RX10 172 yX6_prime, Cond.instanceMethod yX6_prime, Cond.selects RX6 yX6_prime yX6_prime, Cond.initialized RX6, Cond.code yX6_prime cX6_prime 1 (some .int), Cond.fieldLink RX6 7 "HingeNumbers$Remainders" "prime" "I", Cond.methodLink RX10 169 yX10_nextOf, Cond.instanceMethod yX10_nextOf, Cond.selects RX10 yX10_nextOf yX10_nextOf, Cond.code yX10_nextOf cX10_nextOf 6 (some .int), Cond.instanceMethod yX5_value, Cond.selects RX5 yX5_value yX5_value, Cond.code yX5_value cX5_value 5 (some .int), Cond.fieldLink RX5 14 "HingeNumbers$Reckoner" "values" "LHingeNumbers$Table;", Cond.methodLink RX5 51 yX8_get, Cond.instanceMethod yX8_get, Cond.selects RX8 yX8_get yX8_get, Cond.initialized RX8]
def wsX10_step_r3 : List Cond := [Cond.code yX8_get cX8_get 3 (some .int), Cond.fieldLink RX8 18 "HingeNumbers$Table" "width" "I", Cond.fieldLink RX8 24 "HingeNumbers$Table" "cells" "[I", Cond.static yX10_at, Cond.code yX10_at cX10_at 2 (some .int), Cond.methodLink RX5 55 yX5_reckonValues, Cond.instanceMethod yX5_reckonValues, Cond.selects RX5 yX5_reckonValues yX5_reckonValues, Cond.methodLink RX5 58 yX8_set, Cond.instanceMethod yX8_set, Cond.selects RX8 yX8_set yX8_set, Cond.code yX8_set cX8_set 4 none, Cond.static yX10_put, Cond.code yX10_put cX10_put 3 none, Cond.code yX5_reckonValues cX5_reckonValues 6 (some .int), Cond.fieldLink RX5 26 "HingeNumbers$Reckoner" "nodeValues" "LHingeNumbers$Table;", Cond.methodLink RX5 62 yX7_expressionOf, Cond.instanceMethod yX7_expressionOf, Cond.selects RX7 yX7_expressionOf yX7_expressionOf, Cond.code yX7_expressionOf cX7_expressionOf 2 (some (.object "HingeNumbers$Expression")), Cond.fieldLink RX7 15 "HingeNumbers$State" "f" "LHingeNumbers$Expression;", Cond.fieldLink RX7 19 "HingeNumbers$State" "g" "LHingeNumbers$Expression;", Cond.fieldLink RX7 22 "HingeNumbers$State" "h" "LHingeNumbers$Expression;", Cond.fieldLink RX7 25 "HingeNumbers$State" "k" "LHingeNumbers$Expression;"]
def wsX10_step_r4 : List Cond := [Cond.methodLink RX5 66 yX1_size, Cond.instanceMethod yX1_size, Cond.selects RX1 yX1_size yX1_size, Cond.initialized RX1, Cond.code yX1_size cX1_size 1 (some .int), Cond.fieldLink RX1 9 "HingeNumbers$Expression" "kinds" "[I", Cond.methodLink RX5 72 yX1_kind, Cond.instanceMethod yX1_kind, Cond.selects RX1 yX1_kind yX1_kind, Cond.code yX1_kind cX1_kind 2 (some .int), Cond.methodLink RX5 76 yX5_valueOfCall, Cond.instanceMethod yX5_valueOfCall, Cond.selects RX5 yX5_valueOfCall yX5_valueOfCall, Cond.methodLink RX5 79 yX5_valueOfNode, Cond.instanceMethod yX5_valueOfNode, Cond.selects RX5 yX5_valueOfNode yX5_valueOfNode, Cond.code yX5_valueOfNode cX5_valueOfNode 8 (some .int), Cond.methodLink RX5 96 yX7_numbers, Cond.methodLink RX5 86 yX1_left, Cond.instanceMethod yX1_left, Cond.selects RX1 yX1_left yX1_left, Cond.code yX1_left cX1_left 2 (some .int), Cond.fieldLink RX1 18 "HingeNumbers$Expression" "lefts" "[I", Cond.methodLink RX5 100 yX1_right]
def wsX10_step_r5 : List Cond := [Cond.instanceMethod yX1_right, Cond.selects RX1 yX1_right yX1_right, Cond.code yX1_right cX1_right 2 (some .int), Cond.fieldLink RX1 21 "HingeNumbers$Expression" "rights" "[I", Cond.methodLink RX5 83 yX1_number, Cond.instanceMethod yX1_number, Cond.selects RX1 yX1_number yX1_number, Cond.code yX1_number cX1_number 2 (some .int), Cond.fieldLink RX1 15 "HingeNumbers$Expression" "numbers" "[I", Cond.methodLink RX5 103 yX6_of, Cond.instanceMethod yX6_of, Cond.selects RX6 yX6_of yX6_of, Cond.code yX6_of cX6_of 3 (some .int), Cond.methodLink RX5 108 yX6_subtract, Cond.instanceMethod yX6_subtract, Cond.selects RX6 yX6_subtract yX6_subtract, Cond.code yX6_subtract cX6_subtract 3 (some .int), Cond.methodLink RX6 13 yX6_of, Cond.methodLink RX5 111 yX6_add, Cond.instanceMethod yX6_add, Cond.selects RX6 yX6_add yX6_add, Cond.code yX6_add cX6_add 3 (some .int), Cond.methodLink RX5 114 yX6_multiply, Cond.instanceMethod yX6_multiply]
def wsX10_step_r6 : List Cond := [Cond.selects RX6 yX6_multiply yX6_multiply, Cond.code yX6_multiply cX6_multiply 3 (some .int), Cond.methodLink RX5 117 yX6_divide, Cond.instanceMethod yX6_divide, Cond.selects RX6 yX6_divide yX6_divide, Cond.code yX6_divide cX6_divide 3 (some .int), Cond.methodLink RX6 17 yX6_power, Cond.instanceMethod yX6_power, Cond.selects RX6 yX6_power yX6_power, Cond.code yX6_power cX6_power 6 (some .int), Cond.methodLink RX5 120 yX6_power, Cond.code yX5_valueOfCall cX5_valueOfCall 6 (some .int), Cond.methodLink RX5 89 yX5_mayUse, Cond.static yX5_mayUse, Cond.code yX5_mayUse cX5_mayUse 2 (some .boolean), Cond.methodLink RX5 93 yX5_value, Cond.instanceMethod yX5_hingeSlope, Cond.selects RX5 yX5_hingeSlope yX5_hingeSlope, Cond.code yX5_hingeSlope cX5_hingeSlope 6 (some .int), Cond.fieldLink RX5 20 "HingeNumbers$Reckoner" "hingeSlopes" "LHingeNumbers$Table;", Cond.methodLink RX5 123 yX5_feed, Cond.instanceMethod yX5_feed, Cond.selects RX5 yX5_feed yX5_feed, Cond.code yX5_feed cX5_feed 7 (some .int)]
def wsX10_step_r7 : List Cond := [Cond.fieldLink RX5 29 "HingeNumbers$Reckoner" "nodeSlopes" "LHingeNumbers$Table;", Cond.methodLink RX5 126 yX5_hingeOfCall, Cond.instanceMethod yX5_hingeOfCall, Cond.selects RX5 yX5_hingeOfCall yX5_hingeOfCall, Cond.methodLink RX5 129 yX5_hingeOfNode, Cond.instanceMethod yX5_hingeOfNode, Cond.selects RX5 yX5_hingeOfNode yX5_hingeOfNode, Cond.code yX5_hingeOfNode cX5_hingeOfNode 6 (some .int), Cond.methodLink RX5 136 yX5_slopeOfNode, Cond.instanceMethod yX5_slopeOfNode, Cond.selects RX5 yX5_slopeOfNode yX5_slopeOfNode, Cond.code yX5_slopeOfNode cX5_slopeOfNode 10 (some .int), Cond.methodLink RX5 139 yX6_powerSlope, Cond.instanceMethod yX6_powerSlope, Cond.selects RX6 yX6_powerSlope yX6_powerSlope, Cond.code yX6_powerSlope cX6_powerSlope 3 (some .int), Cond.code yX5_hingeOfCall cX5_hingeOfCall 7 (some .int), Cond.methodLink RX5 133 yX5_hingeSlope, Cond.methodLink RX10 176 yX6_divide, Cond.methodLink RX10 179 yX6_subtract]
def wsX10_step : List Cond := .code yX10_step cX10_step 3 (some .int) :: ((wsX10_step_r1 ++ (wsX10_step_r2 ++ (wsX10_step_r3 ++ (wsX10_step_r4 ++ (wsX10_step_r5 ++ (wsX10_step_r6 ++ wsX10_step_r7)))))) ++ wsX100 ++ wsX50 ++ wsX70 ++ wsX60 ++ wsX10 ++ wsX80 ++ (vx_atS RX10 186 "java/lang/IndexOutOfBoundsException" ["java/lang/RuntimeException", "java/lang/Exception"]).filter goodWord ++ (vx_atS RX10 100 "java/lang/IllegalArgumentException" ["java/lang/RuntimeException", "java/lang/Exception"]).filter goodWord)
def wsX10_stepsToRoot_r1 : List Cond := [Cond.fieldLink RX10 33 "HingeNumbers" "reckoner" "LHingeNumbers$Reckoner;", Cond.methodLink RX10 41 yX10_requireFunction, Cond.instanceMethod yX10_requireFunction, Cond.selects RX10 yX10_requireFunction yX10_requireFunction, Cond.initialized RX10, Cond.code yX10_requireFunction cX10_requireFunction 2 none, Cond.classLink RX10 182 "java/lang/IndexOutOfBoundsException", Cond.initialized "java/lang/IndexOutOfBoundsException", Cond.methodLink RX10 140 yX10_requireNumber, Cond.instanceMethod yX10_requireNumber, Cond.selects RX10 yX10_requireNumber yX10_requireNumber, Cond.code yX10_requireNumber cX10_requireNumber 2 none, Cond.classLink RX10 96 "java/lang/IllegalArgumentException", Cond.initialized "java/lang/IllegalArgumentException", Cond.methodLink RX10 101 yX10_prime, Cond.instanceMethod yX10_prime, Cond.selects RX10 yX10_prime yX10_prime, Cond.code yX10_prime cX10_prime 1 (some .int), Cond.methodLink RX10 66 yX5_state, Cond.instanceMethod yX5_state, Cond.selects RX5 yX5_state yX5_state, Cond.initialized RX5, Cond.code yX5_state cX5_state 1 (some (.object "HingeNumbers$State")), Cond.fieldLink RX5 41 "HingeNumbers$Reckoner" "state" "LHingeNumbers$State;"]
def wsX10_stepsToRoot_r2 : List Cond := [Cond.methodLink RX10 153 yX7_numbers, Cond.instanceMethod yX7_numbers, Cond.selects RX7 yX7_numbers yX7_numbers, Cond.initialized RX7, Cond.code yX7_numbers cX7_numbers 1 (some (.object "HingeNumbers$Remainders")), Cond.fieldLink RX7 9 "HingeNumbers$State" "numbers" "LHingeNumbers$Remainders;", Cond.methodLink RX10 172 yX6_prime, Cond.instanceMethod yX6_prime, Cond.selects RX6 yX6_prime yX6_prime, Cond.initialized RX6, Cond.code yX6_prime cX6_prime 1 (some .int), Cond.fieldLink RX6 7 "HingeNumbers$Remainders" "prime" "I", Cond.instanceMethod yX5_value, Cond.selects RX5 yX5_value yX5_value, Cond.code yX5_value cX5_value 5 (some .int), Cond.fieldLink RX5 14 "HingeNumbers$Reckoner" "values" "LHingeNumbers$Table;", Cond.methodLink RX5 51 yX8_get, Cond.instanceMethod yX8_get, Cond.selects RX8 yX8_get yX8_get, Cond.initialized RX8, Cond.code yX8_get cX8_get 3 (some .int), Cond.fieldLink RX8 18 "HingeNumbers$Table" "width" "I", Cond.fieldLink RX8 24 "HingeNumbers$Table" "cells" "[I", Cond.static yX10_at]
def wsX10_stepsToRoot_r3 : List Cond := [Cond.code yX10_at cX10_at 2 (some .int), Cond.methodLink RX5 55 yX5_reckonValues, Cond.instanceMethod yX5_reckonValues, Cond.selects RX5 yX5_reckonValues yX5_reckonValues, Cond.methodLink RX5 58 yX8_set, Cond.instanceMethod yX8_set, Cond.selects RX8 yX8_set yX8_set, Cond.code yX8_set cX8_set 4 none, Cond.static yX10_put, Cond.code yX10_put cX10_put 3 none, Cond.code yX5_reckonValues cX5_reckonValues 6 (some .int), Cond.fieldLink RX5 26 "HingeNumbers$Reckoner" "nodeValues" "LHingeNumbers$Table;", Cond.methodLink RX5 62 yX7_expressionOf, Cond.instanceMethod yX7_expressionOf, Cond.selects RX7 yX7_expressionOf yX7_expressionOf, Cond.code yX7_expressionOf cX7_expressionOf 2 (some (.object "HingeNumbers$Expression")), Cond.fieldLink RX7 15 "HingeNumbers$State" "f" "LHingeNumbers$Expression;", Cond.fieldLink RX7 19 "HingeNumbers$State" "g" "LHingeNumbers$Expression;", Cond.fieldLink RX7 22 "HingeNumbers$State" "h" "LHingeNumbers$Expression;", Cond.fieldLink RX7 25 "HingeNumbers$State" "k" "LHingeNumbers$Expression;", Cond.methodLink RX5 66 yX1_size, Cond.instanceMethod yX1_size, Cond.selects RX1 yX1_size yX1_size, Cond.initialized RX1]
def wsX10_stepsToRoot_r4 : List Cond := [Cond.code yX1_size cX1_size 1 (some .int), Cond.fieldLink RX1 9 "HingeNumbers$Expression" "kinds" "[I", Cond.methodLink RX5 72 yX1_kind, Cond.instanceMethod yX1_kind, Cond.selects RX1 yX1_kind yX1_kind, Cond.code yX1_kind cX1_kind 2 (some .int), Cond.methodLink RX5 76 yX5_valueOfCall, Cond.instanceMethod yX5_valueOfCall, Cond.selects RX5 yX5_valueOfCall yX5_valueOfCall, Cond.methodLink RX5 79 yX5_valueOfNode, Cond.instanceMethod yX5_valueOfNode, Cond.selects RX5 yX5_valueOfNode yX5_valueOfNode, Cond.code yX5_valueOfNode cX5_valueOfNode 8 (some .int), Cond.methodLink RX5 96 yX7_numbers, Cond.methodLink RX5 86 yX1_left, Cond.instanceMethod yX1_left, Cond.selects RX1 yX1_left yX1_left, Cond.code yX1_left cX1_left 2 (some .int), Cond.fieldLink RX1 18 "HingeNumbers$Expression" "lefts" "[I", Cond.methodLink RX5 100 yX1_right, Cond.instanceMethod yX1_right, Cond.selects RX1 yX1_right yX1_right, Cond.code yX1_right cX1_right 2 (some .int), Cond.fieldLink RX1 21 "HingeNumbers$Expression" "rights" "[I"]
def wsX10_stepsToRoot_r5 : List Cond := [Cond.methodLink RX5 83 yX1_number, Cond.instanceMethod yX1_number, Cond.selects RX1 yX1_number yX1_number, Cond.code yX1_number cX1_number 2 (some .int), Cond.fieldLink RX1 15 "HingeNumbers$Expression" "numbers" "[I", Cond.methodLink RX5 103 yX6_of, Cond.instanceMethod yX6_of, Cond.selects RX6 yX6_of yX6_of, Cond.code yX6_of cX6_of 3 (some .int), Cond.methodLink RX5 108 yX6_subtract, Cond.instanceMethod yX6_subtract, Cond.selects RX6 yX6_subtract yX6_subtract, Cond.code yX6_subtract cX6_subtract 3 (some .int), Cond.methodLink RX6 13 yX6_of, Cond.methodLink RX5 111 yX6_add, Cond.instanceMethod yX6_add, Cond.selects RX6 yX6_add yX6_add, Cond.code yX6_add cX6_add 3 (some .int), Cond.methodLink RX5 114 yX6_multiply, Cond.instanceMethod yX6_multiply, Cond.selects RX6 yX6_multiply yX6_multiply, Cond.code yX6_multiply cX6_multiply 3 (some .int), Cond.methodLink RX5 117 yX6_divide, Cond.instanceMethod yX6_divide]
def wsX10_stepsToRoot_r6 : List Cond := [Cond.selects RX6 yX6_divide yX6_divide, Cond.code yX6_divide cX6_divide 3 (some .int), Cond.methodLink RX6 17 yX6_power, Cond.instanceMethod yX6_power, Cond.selects RX6 yX6_power yX6_power, Cond.code yX6_power cX6_power 6 (some .int), Cond.methodLink RX5 120 yX6_power, Cond.code yX5_valueOfCall cX5_valueOfCall 6 (some .int), Cond.methodLink RX5 89 yX5_mayUse, Cond.static yX5_mayUse, Cond.code yX5_mayUse cX5_mayUse 2 (some .boolean), Cond.methodLink RX5 93 yX5_value, Cond.methodLink RX10 169 yX10_nextOf, Cond.instanceMethod yX10_nextOf, Cond.selects RX10 yX10_nextOf yX10_nextOf, Cond.code yX10_nextOf cX10_nextOf 6 (some .int), Cond.instanceMethod yX5_hingeSlope, Cond.selects RX5 yX5_hingeSlope yX5_hingeSlope, Cond.code yX5_hingeSlope cX5_hingeSlope 6 (some .int), Cond.fieldLink RX5 20 "HingeNumbers$Reckoner" "hingeSlopes" "LHingeNumbers$Table;", Cond.methodLink RX5 123 yX5_feed, Cond.instanceMethod yX5_feed, Cond.selects RX5 yX5_feed yX5_feed, Cond.code yX5_feed cX5_feed 7 (some .int)]
def wsX10_stepsToRoot_r7 : List Cond := [Cond.fieldLink RX5 29 "HingeNumbers$Reckoner" "nodeSlopes" "LHingeNumbers$Table;", Cond.methodLink RX5 126 yX5_hingeOfCall, Cond.instanceMethod yX5_hingeOfCall, Cond.selects RX5 yX5_hingeOfCall yX5_hingeOfCall, Cond.methodLink RX5 129 yX5_hingeOfNode, Cond.instanceMethod yX5_hingeOfNode, Cond.selects RX5 yX5_hingeOfNode yX5_hingeOfNode, Cond.code yX5_hingeOfNode cX5_hingeOfNode 6 (some .int), Cond.methodLink RX5 136 yX5_slopeOfNode, Cond.instanceMethod yX5_slopeOfNode, Cond.selects RX5 yX5_slopeOfNode yX5_slopeOfNode, Cond.code yX5_slopeOfNode cX5_slopeOfNode 10 (some .int), Cond.methodLink RX5 139 yX6_powerSlope, Cond.instanceMethod yX6_powerSlope, Cond.selects RX6 yX6_powerSlope yX6_powerSlope, Cond.code yX6_powerSlope cX6_powerSlope 3 (some .int), Cond.code yX5_hingeOfCall cX5_hingeOfCall 7 (some .int), Cond.methodLink RX5 133 yX5_hingeSlope, Cond.methodLink RX10 176 yX6_divide, Cond.methodLink RX10 179 yX6_subtract]
def wsX10_stepsToRoot : List Cond := .code yX10_stepsToRoot cX10_stepsToRoot 5 (some .int) :: ((wsX10_stepsToRoot_r1 ++ (wsX10_stepsToRoot_r2 ++ (wsX10_stepsToRoot_r3 ++ (wsX10_stepsToRoot_r4 ++ (wsX10_stepsToRoot_r5 ++ (wsX10_stepsToRoot_r6 ++ wsX10_stepsToRoot_r7)))))) ++ wsX100 ++ wsX50 ++ wsX70 ++ wsX60 ++ wsX10 ++ wsX80 ++ (vx_atS RX10 186 "java/lang/IndexOutOfBoundsException" ["java/lang/RuntimeException", "java/lang/Exception"]).filter goodWord ++ (vx_atS RX10 100 "java/lang/IllegalArgumentException" ["java/lang/RuntimeException", "java/lang/Exception"]).filter goodWord)
def wsJ9_max_7cf53 : List Cond := .code yJ9_max_7cf53 cJ9_max_7cf53 2 (some .int) :: ([])
def wsJ9_min_7cf53 : List Cond := .code yJ9_min_7cf53 cJ9_min_7cf53 2 (some .int) :: ([])
def wsL_cell : List Cond := .code yL_cell cL_cell 2 (some .int) :: ([.constant RL 7 (32452867), .constant RL 8 (15485863)])
def wsL_low : List Cond := .code yL_low cL_low 2 (some .int) :: ([.constant RL 9 (2147483647)])
def wsL_mod : List Cond := .code yL_mod cL_mod 3 (some .int) :: ([])
def wsL_times : List Cond := .code yL_times cL_times 6 none :: ([.methodLink RL 10 yL_mod, .static yL_mod, .initialized RL, .code yL_mod cL_mod 3 (some .int)])
def wsL_at : List Cond := .code yL_at cL_at 5 (some .int) :: ([.methodLink RL 10 yL_mod, .static yL_mod, .initialized RL, .code yL_mod cL_mod 3 (some .int)])
def wsL_slopeAt : List Cond := .code yL_slopeAt cL_slopeAt 5 (some .int) :: ([.methodLink RL 10 yL_mod, .static yL_mod, .initialized RL, .code yL_mod cL_mod 3 (some .int)])
def wsL_inverse : List Cond := .code yL_inverse cL_inverse 4 (some .int) :: ([.methodLink RL 10 yL_mod, .static yL_mod, .initialized RL, .code yL_mod cL_mod 3 (some .int)])
def wsL_term_r1 : List Cond := [Cond.arrayClass .int, Cond.methodLink RL 16 yL_low, Cond.static yL_low, Cond.initialized RL, Cond.code yL_low cL_low 2 (some .int), Cond.constant RL 9 (2147483647), Cond.methodLink RL 10 yL_mod, Cond.static yL_mod, Cond.code yL_mod cL_mod 3 (some .int), Cond.methodLink RL 19 yX10_type, Cond.instanceMethod yX10_type, Cond.selects RX10 yX10_type yX10_type, Cond.initialized RX10, Cond.code yX10_type cX10_type 2 (some .int), Cond.classLink RX10 49 "java/lang/IllegalStateException", Cond.initialized "java/lang/IllegalStateException", Cond.fieldLink RX10 10 "HingeNumbers" "text" "LHingeNumbers$Text;", Cond.methodLink RX10 108 yX9_isFull, Cond.instanceMethod yX9_isFull, Cond.selects RX9 yX9_isFull yX9_isFull, Cond.initialized RX9, Cond.code yX9_isFull cX9_isFull 1 (some .boolean), Cond.fieldLink RX9 15 "HingeNumbers$Text" "length" "I", Cond.fieldLink RX9 9 "HingeNumbers$Text" "characters" "[C"]
def wsL_term_r2 : List Cond := [Cond.methodLink RX10 114 yX9_append, Cond.instanceMethod yX9_append, Cond.selects RX9 yX9_append yX9_append, Cond.code yX9_append cX9_append 2 (some .int), Cond.methodLink RL 25 yL_times, Cond.static yL_times, Cond.code yL_times cL_times 6 none]
def wsL_term : List Cond := .code yL_term cL_term 13 (some .int) :: ((wsL_term_r1 ++ wsL_term_r2) ++ wsX100 ++ wsX90 ++ (vx_atS RX10 53 "java/lang/IllegalStateException" ["java/lang/RuntimeException", "java/lang/Exception"]).filter goodWord)
def wsL_define_r1 : List Cond := [Cond.classLink RL 33 "java/lang/IndexOutOfBoundsException", Cond.classLink RL 35 "java/lang/IllegalStateException", Cond.methodLink RL 29 yX10_define, Cond.instanceMethod yX10_define, Cond.selects RX10 yX10_define yX10_define, Cond.initialized RX10, Cond.code yX10_define cX10_define 3 (some .int), Cond.classLink RX10 49 "java/lang/IllegalStateException", Cond.initialized "java/lang/IllegalStateException", Cond.fieldLink RX10 19 "HingeNumbers" "parser" "LHingeNumbers$Parser;", Cond.fieldLink RX10 10 "HingeNumbers" "text" "LHingeNumbers$Text;", Cond.fieldLink RX10 33 "HingeNumbers" "reckoner" "LHingeNumbers$Reckoner;", Cond.methodLink RX10 41 yX10_requireFunction, Cond.instanceMethod yX10_requireFunction, Cond.selects RX10 yX10_requireFunction yX10_requireFunction, Cond.code yX10_requireFunction cX10_requireFunction 2 none, Cond.classLink RX10 182 "java/lang/IndexOutOfBoundsException", Cond.initialized "java/lang/IndexOutOfBoundsException", Cond.methodLink RX10 45 yX4_firstError, Cond.instanceMethod yX4_firstError, Cond.selects RX4 yX4_firstError yX4_firstError, Cond.initialized RX4, Cond.code yX4_firstError cX4_firstError 3 (some .int), Cond.fieldLink RX4 12 "HingeNumbers$Parser" "builder" "LHingeNumbers$Builder;"]
def wsL_define_r2 : List Cond := [Cond.fieldLink RX4 18 "HingeNumbers$Parser" "awaited" "I", Cond.fieldLink RX4 22 "HingeNumbers$Parser" "open" "I", Cond.fieldLink RX4 25 "HingeNumbers$Parser" "numberNode" "I", Cond.methodLink RX4 28 yX0_clear, Cond.instanceMethod yX0_clear, Cond.selects RX0 yX0_clear yX0_clear, Cond.initialized RX0, Cond.code yX0_clear cX0_clear 1 none, Cond.fieldLink RX0 30 "HingeNumbers$Builder" "size" "I", Cond.fieldLink RX0 34 "HingeNumbers$Builder" "leastDefinable" "I", Cond.fieldLink RX0 40 "HingeNumbers$Builder" "loose" "LHingeNumbers$NumberStack;", Cond.fieldLink RX0 44 "HingeNumbers$Builder" "waiting" "LHingeNumbers$NumberStack;", Cond.methodLink RX0 47 yX3_clear, Cond.instanceMethod yX3_clear, Cond.selects RX3 yX3_clear yX3_clear, Cond.initialized RX3, Cond.code yX3_clear cX3_clear 1 none, Cond.fieldLink RX3 15 "HingeNumbers$NumberStack" "count" "I", Cond.methodLink RX4 31 yX9_length, Cond.instanceMethod yX9_length, Cond.selects RX9 yX9_length yX9_length, Cond.initialized RX9, Cond.code yX9_length cX9_length 1 (some .int), Cond.fieldLink RX9 15 "HingeNumbers$Text" "length" "I"]
def wsL_define_r3 : List Cond := [Cond.methodLink RX4 37 yX9_characterAt, Cond.instanceMethod yX9_characterAt, Cond.selects RX9 yX9_characterAt yX9_characterAt, Cond.code yX9_characterAt cX9_characterAt 2 (some .char), Cond.fieldLink RX9 9 "HingeNumbers$Text" "characters" "[C", Cond.methodLink RX4 41 yX4_takes, Cond.instanceMethod yX4_takes, Cond.selects RX4 yX4_takes yX4_takes, Cond.code yX4_takes cX4_takes 2 (some .boolean), Cond.methodLink RX4 55 yX4_takesAtom, Cond.instanceMethod yX4_takesAtom, Cond.selects RX4 yX4_takesAtom yX4_takesAtom, Cond.code yX4_takesAtom cX4_takesAtom 2 (some .boolean), Cond.methodLink RX4 67 yX4_isDigit, Cond.static yX4_isDigit, Cond.code yX4_isDigit cX4_isDigit 1 (some .boolean), Cond.methodLink RX4 70 yX0_addNumber, Cond.instanceMethod yX0_addNumber, Cond.selects RX0 yX0_addNumber yX0_addNumber, Cond.code yX0_addNumber cX0_addNumber 3 (some .int), Cond.methodLink RX0 54 yX0_addNode, Cond.instanceMethod yX0_addNode, Cond.selects RX0 yX0_addNode yX0_addNode, Cond.code yX0_addNode cX0_addNode 5 none]
def wsL_define_r4 : List Cond := [Cond.fieldLink RX0 9 "HingeNumbers$Builder" "kinds" "[I", Cond.fieldLink RX0 15 "HingeNumbers$Builder" "numbers" "[I", Cond.fieldLink RX0 18 "HingeNumbers$Builder" "lefts" "[I", Cond.fieldLink RX0 21 "HingeNumbers$Builder" "rights" "[I", Cond.fieldLink RX0 24 "HingeNumbers$Builder" "depths" "[I", Cond.methodLink RX0 83 Lib.Math.max.name, Cond.static Lib.Math.max.name, Cond.initialized "java/lang/Math", Cond.code Lib.Math.max.name Lib.Math.max.code 2 (some .int), Cond.methodLink RX0 113 Lib.Math.min.name, Cond.static Lib.Math.min.name, Cond.code Lib.Math.min.name Lib.Math.min.code 2 (some .int), Cond.static yX10_put, Cond.code yX10_put cX10_put 3 none, Cond.static yX10_at, Cond.code yX10_at cX10_at 2 (some .int), Cond.methodLink RX0 50 yX3_push, Cond.instanceMethod yX3_push, Cond.selects RX3 yX3_push yX3_push, Cond.code yX3_push cX3_push 2 none, Cond.fieldLink RX3 9 "HingeNumbers$NumberStack" "items" "[I", Cond.methodLink RX0 58 yX0_finishAtom, Cond.instanceMethod yX0_finishAtom, Cond.selects RX0 yX0_finishAtom yX0_finishAtom]
def wsL_define_r5 : List Cond := [Cond.code yX0_finishAtom cX0_finishAtom 2 none, Cond.methodLink RX0 107 yX3_count, Cond.instanceMethod yX3_count, Cond.selects RX3 yX3_count yX3_count, Cond.code yX3_count cX3_count 1 (some .int), Cond.methodLink RX0 110 yX3_top, Cond.instanceMethod yX3_top, Cond.selects RX3 yX3_top yX3_top, Cond.code yX3_top cX3_top 1 (some .int), Cond.methodLink RX0 69 yX3_pop, Cond.instanceMethod yX3_pop, Cond.selects RX3 yX3_pop yX3_pop, Cond.code yX3_pop cX3_pop 1 (some .int), Cond.methodLink RX4 74 yX0_addX, Cond.instanceMethod yX0_addX, Cond.selects RX0 yX0_addX yX0_addX, Cond.code yX0_addX cX0_addX 1 none, Cond.methodLink RX4 77 yX0_await, Cond.instanceMethod yX0_await, Cond.selects RX0 yX0_await yX0_await, Cond.code yX0_await cX0_await 2 none, Cond.static yX10_functionOf, Cond.code yX10_functionOf cX10_functionOf 1 (some .int), Cond.methodLink RX4 58 yX4_takesOpening]
def wsL_define_r6 : List Cond := [Cond.instanceMethod yX4_takesOpening, Cond.selects RX4 yX4_takesOpening yX4_takesOpening, Cond.code yX4_takesOpening cX4_takesOpening 2 (some .boolean), Cond.methodLink RX4 61 yX4_takesExponent, Cond.instanceMethod yX4_takesExponent, Cond.selects RX4 yX4_takesExponent yX4_takesExponent, Cond.code yX4_takesExponent cX4_takesExponent 2 (some .boolean), Cond.methodLink RX4 84 yX0_addPower, Cond.instanceMethod yX0_addPower, Cond.selects RX0 yX0_addPower yX0_addPower, Cond.code yX0_addPower cX0_addPower 2 none, Cond.methodLink RX4 64 yX4_takesBehind, Cond.instanceMethod yX4_takesBehind, Cond.selects RX4 yX4_takesBehind yX4_takesBehind, Cond.code yX4_takesBehind cX4_takesBehind 2 (some .boolean), Cond.methodLink RX4 87 yX4_takesFurtherDigit, Cond.instanceMethod yX4_takesFurtherDigit, Cond.selects RX4 yX4_takesFurtherDigit yX4_takesFurtherDigit, Cond.code yX4_takesFurtherDigit cX4_takesFurtherDigit 3 (some .boolean), Cond.methodLink RX4 96 yX0_numberOf, Cond.instanceMethod yX0_numberOf, Cond.selects RX0 yX0_numberOf yX0_numberOf, Cond.code yX0_numberOf cX0_numberOf 2 (some .int), Cond.methodLink RX4 99 yX0_addDigit]
def wsL_define_r7 : List Cond := [Cond.instanceMethod yX0_addDigit, Cond.selects RX0 yX0_addDigit yX0_addDigit, Cond.code yX0_addDigit cX0_addDigit 3 none, Cond.methodLink RX4 90 yX0_close, Cond.instanceMethod yX0_close, Cond.selects RX0 yX0_close yX0_close, Cond.code yX0_close cX0_close 2 none, Cond.methodLink RX0 77 yX0_joinFrom, Cond.instanceMethod yX0_joinFrom, Cond.selects RX0 yX0_joinFrom yX0_joinFrom, Cond.code yX0_joinFrom cX0_joinFrom 4 none, Cond.methodLink RX0 73 yX0_levelOf, Cond.static yX0_levelOf, Cond.code yX0_levelOf cX0_levelOf 1 (some .int), Cond.methodLink RX4 93 yX0_addSign, Cond.instanceMethod yX0_addSign, Cond.selects RX0 yX0_addSign yX0_addSign, Cond.code yX0_addSign cX0_addSign 2 none, Cond.methodLink RX4 45 yX0_finish, Cond.instanceMethod yX0_finish, Cond.selects RX0 yX0_finish yX0_finish, Cond.code yX0_finish cX0_finish 1 none, Cond.methodLink RX10 56 yX4_leastDefinable, Cond.instanceMethod yX4_leastDefinable]
def wsL_define_r8 : List Cond := [Cond.selects RX4 yX4_leastDefinable yX4_leastDefinable, Cond.code yX4_leastDefinable cX4_leastDefinable 1 (some .int), Cond.methodLink RX4 48 yX0_leastDefinable, Cond.instanceMethod yX0_leastDefinable, Cond.selects RX0 yX0_leastDefinable yX0_leastDefinable, Cond.code yX0_leastDefinable cX0_leastDefinable 1 (some .int), Cond.methodLink RX10 62 yX4_toExpression, Cond.instanceMethod yX4_toExpression, Cond.selects RX4 yX4_toExpression yX4_toExpression, Cond.code yX4_toExpression cX4_toExpression 1 (some (.object "HingeNumbers$Expression")), Cond.methodLink RX4 51 yX0_toExpression, Cond.instanceMethod yX0_toExpression, Cond.selects RX0 yX0_toExpression yX0_toExpression, Cond.code yX0_toExpression cX0_toExpression 1 (some (.object "HingeNumbers$Expression")), Cond.classLink RX0 89 RX1, Cond.instantiable RX1 7, Cond.initialized RX1, Cond.methodLink RX0 91 yX0_filled, Cond.instanceMethod yX0_filled, Cond.selects RX0 yX0_filled yX0_filled, Cond.code yX0_filled cX0_filled 2 (some (.array .int)), Cond.methodLink RX0 101 yJ7_copyOf_59c91, Cond.static yJ7_copyOf_59c91, Cond.initialized RJ7]
def wsL_define_r9 : List Cond := [Cond.code yJ7_copyOf_59c91 cJ7_copyOf_59c91 3 (some (.array .int)), Cond.methodLink RJ7 316 ⟨"[I", "clone", "()Ljava/lang/Object;"⟩, Cond.sameMethod "[I" "java/lang/Object" "clone" "()Ljava/lang/Object;", Cond.native ⟨"java/lang/Object", "clone", "()Ljava/lang/Object;"⟩, Cond.instanceMethod ⟨"java/lang/Object", "clone", "()Ljava/lang/Object;"⟩, Cond.selects "[I" ⟨"[I", "clone", "()Ljava/lang/Object;"⟩ ⟨"java/lang/Object", "clone", "()Ljava/lang/Object;"⟩, Cond.classLink RJ7 317 "[I", Cond.arrayClass .int, Cond.methodLink RJ7 304 Lib.Math.min.name, Cond.methodLink RJ7 150 arraycopyName, Cond.native arraycopyName, Cond.static arraycopyName, Cond.initialized "java/lang/System", Cond.methodLink RX0 95 yX0_countUnlike, Cond.instanceMethod yX0_countUnlike, Cond.selects RX0 yX0_countUnlike yX0_countUnlike, Cond.code yX0_countUnlike cX0_countUnlike 4 (some .int), Cond.fieldLink RX0 27 "HingeNumbers$Builder" "likes" "[I", Cond.methodLink RX0 116 yX0_firstLike, Cond.instanceMethod yX0_firstLike, Cond.selects RX0 yX0_firstLike yX0_firstLike, Cond.code yX0_firstLike cX0_firstLike 3 (some .int), Cond.methodLink RX0 119 yX0_areAlike, Cond.instanceMethod yX0_areAlike]
def wsL_define_r10 : List Cond := [Cond.selects RX0 yX0_areAlike yX0_areAlike, Cond.code yX0_areAlike cX0_areAlike 3 (some .boolean), Cond.methodLink RX0 98 yX1_init, Cond.instanceMethod yX1_init, Cond.code yX1_init cX1_init 8 none, Cond.methodLink RX1 3 objectInit, Cond.instanceMethod objectInit, Cond.code objectInit ⟨#[0xb1]⟩ 1 none, Cond.fieldLink RX1 9 "HingeNumbers$Expression" "kinds" "[I", Cond.fieldLink RX1 15 "HingeNumbers$Expression" "numbers" "[I", Cond.fieldLink RX1 18 "HingeNumbers$Expression" "lefts" "[I", Cond.fieldLink RX1 21 "HingeNumbers$Expression" "rights" "[I", Cond.fieldLink RX1 24 "HingeNumbers$Expression" "depth" "I", Cond.fieldLink RX1 28 "HingeNumbers$Expression" "unlike" "I", Cond.fieldLink RX1 31 "HingeNumbers$Expression" "leastDefinable" "I", Cond.methodLink RX10 66 yX5_state, Cond.instanceMethod yX5_state, Cond.selects RX5 yX5_state yX5_state, Cond.initialized RX5, Cond.code yX5_state cX5_state 1 (some (.object "HingeNumbers$State")), Cond.fieldLink RX5 41 "HingeNumbers$Reckoner" "state" "LHingeNumbers$State;", Cond.methodLink RX10 70 yX7_withExpression, Cond.instanceMethod yX7_withExpression, Cond.selects RX7 yX7_withExpression yX7_withExpression]
def wsL_define_r11 : List Cond := [Cond.initialized RX7, Cond.code yX7_withExpression cX7_withExpression 3 (some (.object "HingeNumbers$State")), Cond.classLink RX7 10 RX7, Cond.instantiable RX7 5, Cond.fieldLink RX7 9 "HingeNumbers$State" "numbers" "LHingeNumbers$Remainders;", Cond.fieldLink RX7 15 "HingeNumbers$State" "f" "LHingeNumbers$Expression;", Cond.fieldLink RX7 19 "HingeNumbers$State" "g" "LHingeNumbers$Expression;", Cond.fieldLink RX7 22 "HingeNumbers$State" "h" "LHingeNumbers$Expression;", Cond.fieldLink RX7 25 "HingeNumbers$State" "k" "LHingeNumbers$Expression;", Cond.methodLink RX7 39 yX7_init, Cond.instanceMethod yX7_init, Cond.code yX7_init cX7_init 6 none, Cond.methodLink RX7 3 objectInit, Cond.methodLink RX10 76 yX10_act, Cond.instanceMethod yX10_act, Cond.selects RX10 yX10_act yX10_act, Cond.code yX10_act cX10_act 2 none, Cond.fieldLink RX10 26 "HingeNumbers" "history" "LHingeNumbers$History;", Cond.methodLink RX10 173 yX2_record, Cond.instanceMethod yX2_record, Cond.selects RX2 yX2_record yX2_record, Cond.initialized RX2, Cond.code yX2_record cX2_record 2 none, Cond.fieldLink RX2 17 "HingeNumbers$History" "count" "I"]
def wsL_define_r12 : List Cond := [Cond.fieldLink RX2 11 "HingeNumbers$History" "states" "[LHingeNumbers$State;", Cond.methodLink RX2 21 yX2_forgetOldest, Cond.instanceMethod yX2_forgetOldest, Cond.selects RX2 yX2_forgetOldest yX2_forgetOldest, Cond.code yX2_forgetOldest cX2_forgetOldest 2 none, Cond.methodLink RX10 126 yX5_moveTo, Cond.instanceMethod yX5_moveTo, Cond.selects RX5 yX5_moveTo yX5_moveTo, Cond.code yX5_moveTo cX5_moveTo 2 none, Cond.methodLink RX5 45 yX5_forget, Cond.instanceMethod yX5_forget, Cond.selects RX5 yX5_forget yX5_forget, Cond.code yX5_forget cX5_forget 1 none, Cond.fieldLink RX5 14 "HingeNumbers$Reckoner" "values" "LHingeNumbers$Table;", Cond.fieldLink RX5 20 "HingeNumbers$Reckoner" "hingeSlopes" "LHingeNumbers$Table;", Cond.fieldLink RX5 23 "HingeNumbers$Reckoner" "ruleSlopes" "LHingeNumbers$Table;", Cond.methodLink RX5 48 yX8_fill, Cond.instanceMethod yX8_fill, Cond.selects RX8 yX8_fill yX8_fill, Cond.initialized RX8, Cond.code yX8_fill cX8_fill 2 none, Cond.fieldLink RX8 24 "HingeNumbers$Table" "cells" "[I", Cond.methodLink RX8 28 yJ7_fill_53178, Cond.static yJ7_fill_53178]
def wsL_define_r13 : List Cond := [Cond.code yJ7_fill_53178 cJ7_fill_53178 4 none, Cond.methodLink RX10 80 yX1_size, Cond.instanceMethod yX1_size, Cond.selects RX1 yX1_size yX1_size, Cond.code yX1_size cX1_size 1 (some .int)]
def wsL_define : List Cond := .codeWith yL_define cL_define 3 (some .int) [(0, 5, 6, 33), (0, 5, 10, 35)] :: ((wsL_define_r1 ++ (wsL_define_r2 ++ (wsL_define_r3 ++ (wsL_define_r4 ++ (wsL_define_r5 ++ (wsL_define_r6 ++ (wsL_define_r7 ++ (wsL_define_r8 ++ (wsL_define_r9 ++ (wsL_define_r10 ++ (wsL_define_r11 ++ (wsL_define_r12 ++ wsL_define_r13)))))))))))) ++ wsX100 ++ wsX40 ++ wsX00 ++ wsX30 ++ wsX90 ++ wsX10 ++ wsX50 ++ wsX70 ++ wsX20 ++ wsX80 ++ (vx_atS RX10 53 "java/lang/IllegalStateException" ["java/lang/RuntimeException", "java/lang/Exception"]).filter goodWord ++ (vx_atS RX10 186 "java/lang/IndexOutOfBoundsException" ["java/lang/RuntimeException", "java/lang/Exception"]).filter goodWord)
def wsL_modulus_r1 : List Cond := [Cond.classLink RL 40 "java/lang/IllegalArgumentException", Cond.methodLink RL 37 yX10_setModulus, Cond.instanceMethod yX10_setModulus, Cond.selects RX10 yX10_setModulus yX10_setModulus, Cond.initialized RX10, Cond.code yX10_setModulus cX10_setModulus 3 (some .int), Cond.classLink RX10 96 "java/lang/IllegalArgumentException", Cond.initialized "java/lang/IllegalArgumentException", Cond.fieldLink RX10 33 "HingeNumbers" "reckoner" "LHingeNumbers$Reckoner;", Cond.methodLink RX10 92 yX10_isPrime, Cond.static yX10_isPrime, Cond.code yX10_isPrime cX10_isPrime 2 (some .boolean), Cond.methodLink RX10 101 yX10_prime, Cond.instanceMethod yX10_prime, Cond.selects RX10 yX10_prime yX10_prime, Cond.code yX10_prime cX10_prime 1 (some .int), Cond.methodLink RX10 66 yX5_state, Cond.instanceMethod yX5_state, Cond.selects RX5 yX5_state yX5_state, Cond.initialized RX5, Cond.code yX5_state cX5_state 1 (some (.object "HingeNumbers$State")), Cond.fieldLink RX5 41 "HingeNumbers$Reckoner" "state" "LHingeNumbers$State;", Cond.methodLink RX10 153 yX7_numbers, Cond.instanceMethod yX7_numbers]
def wsL_modulus_r2 : List Cond := [Cond.selects RX7 yX7_numbers yX7_numbers, Cond.initialized RX7, Cond.code yX7_numbers cX7_numbers 1 (some (.object "HingeNumbers$Remainders")), Cond.fieldLink RX7 9 "HingeNumbers$State" "numbers" "LHingeNumbers$Remainders;", Cond.methodLink RX10 172 yX6_prime, Cond.instanceMethod yX6_prime, Cond.selects RX6 yX6_prime yX6_prime, Cond.initialized RX6, Cond.code yX6_prime cX6_prime 1 (some .int), Cond.fieldLink RX6 7 "HingeNumbers$Remainders" "prime" "I", Cond.methodLink RX10 104 yX7_withPrime, Cond.instanceMethod yX7_withPrime, Cond.selects RX7 yX7_withPrime yX7_withPrime, Cond.code yX7_withPrime cX7_withPrime 2 (some (.object "HingeNumbers$State")), Cond.classLink RX7 10 RX7, Cond.instantiable RX7 5, Cond.classLink RX7 34 RX6, Cond.instantiable RX6 1, Cond.fieldLink RX7 15 "HingeNumbers$State" "f" "LHingeNumbers$Expression;", Cond.fieldLink RX7 19 "HingeNumbers$State" "g" "LHingeNumbers$Expression;", Cond.fieldLink RX7 22 "HingeNumbers$State" "h" "LHingeNumbers$Expression;", Cond.fieldLink RX7 25 "HingeNumbers$State" "k" "LHingeNumbers$Expression;", Cond.methodLink RX7 36 yX6_init, Cond.instanceMethod yX6_init]
def wsL_modulus_r3 : List Cond := [Cond.code yX6_init cX6_init 2 none, Cond.methodLink RX6 1 objectInit, Cond.instanceMethod objectInit, Cond.code objectInit ⟨#[0xb1]⟩ 1 none, Cond.methodLink RX7 39 yX7_init, Cond.instanceMethod yX7_init, Cond.code yX7_init cX7_init 6 none, Cond.methodLink RX7 3 objectInit, Cond.methodLink RX10 76 yX10_act, Cond.instanceMethod yX10_act, Cond.selects RX10 yX10_act yX10_act, Cond.code yX10_act cX10_act 2 none, Cond.fieldLink RX10 26 "HingeNumbers" "history" "LHingeNumbers$History;", Cond.methodLink RX10 173 yX2_record, Cond.instanceMethod yX2_record, Cond.selects RX2 yX2_record yX2_record, Cond.initialized RX2, Cond.code yX2_record cX2_record 2 none, Cond.fieldLink RX2 17 "HingeNumbers$History" "count" "I", Cond.fieldLink RX2 11 "HingeNumbers$History" "states" "[LHingeNumbers$State;", Cond.methodLink RX2 21 yX2_forgetOldest, Cond.instanceMethod yX2_forgetOldest, Cond.selects RX2 yX2_forgetOldest yX2_forgetOldest, Cond.code yX2_forgetOldest cX2_forgetOldest 2 none]
def wsL_modulus_r4 : List Cond := [Cond.methodLink RX10 126 yX5_moveTo, Cond.instanceMethod yX5_moveTo, Cond.selects RX5 yX5_moveTo yX5_moveTo, Cond.code yX5_moveTo cX5_moveTo 2 none, Cond.methodLink RX5 45 yX5_forget, Cond.instanceMethod yX5_forget, Cond.selects RX5 yX5_forget yX5_forget, Cond.code yX5_forget cX5_forget 1 none, Cond.fieldLink RX5 14 "HingeNumbers$Reckoner" "values" "LHingeNumbers$Table;", Cond.fieldLink RX5 20 "HingeNumbers$Reckoner" "hingeSlopes" "LHingeNumbers$Table;", Cond.fieldLink RX5 23 "HingeNumbers$Reckoner" "ruleSlopes" "LHingeNumbers$Table;", Cond.methodLink RX5 48 yX8_fill, Cond.instanceMethod yX8_fill, Cond.selects RX8 yX8_fill yX8_fill, Cond.initialized RX8, Cond.code yX8_fill cX8_fill 2 none, Cond.fieldLink RX8 24 "HingeNumbers$Table" "cells" "[I", Cond.methodLink RX8 28 yJ7_fill_53178, Cond.static yJ7_fill_53178, Cond.initialized RJ7, Cond.code yJ7_fill_53178 cJ7_fill_53178 4 none]
def wsL_modulus : List Cond := .codeWith yL_modulus cL_modulus 3 (some .int) [(0, 5, 6, 40)] :: ((wsL_modulus_r1 ++ (wsL_modulus_r2 ++ (wsL_modulus_r3 ++ wsL_modulus_r4))) ++ wsX100 ++ wsX50 ++ wsX70 ++ wsX60 ++ wsX20 ++ wsX80 ++ (vx_atS RX10 100 "java/lang/IllegalArgumentException" ["java/lang/RuntimeException", "java/lang/Exception"]).filter goodWord)
def wsL_same_r1 : List Cond := [Cond.methodLink RL 42 yL_at, Cond.static yL_at, Cond.initialized RL, Cond.code yL_at cL_at 5 (some .int), Cond.methodLink RL 10 yL_mod, Cond.static yL_mod, Cond.code yL_mod cL_mod 3 (some .int), Cond.methodLink RL 46 yL_slopeAt, Cond.static yL_slopeAt, Cond.code yL_slopeAt cL_slopeAt 5 (some .int), Cond.methodLink RL 49 yL_inverse, Cond.static yL_inverse, Cond.code yL_inverse cL_inverse 4 (some .int), Cond.methodLink RL 52 yX10_valueAt, Cond.instanceMethod yX10_valueAt, Cond.selects RX10 yX10_valueAt yX10_valueAt, Cond.initialized RX10, Cond.code yX10_valueAt cX10_valueAt 3 (some .int), Cond.fieldLink RX10 33 "HingeNumbers" "reckoner" "LHingeNumbers$Reckoner;", Cond.methodLink RX10 41 yX10_requireFunction, Cond.instanceMethod yX10_requireFunction, Cond.selects RX10 yX10_requireFunction yX10_requireFunction, Cond.code yX10_requireFunction cX10_requireFunction 2 none, Cond.classLink RX10 182 "java/lang/IndexOutOfBoundsException"]
def wsL_same_r2 : List Cond := [Cond.initialized "java/lang/IndexOutOfBoundsException", Cond.methodLink RX10 140 yX10_requireNumber, Cond.instanceMethod yX10_requireNumber, Cond.selects RX10 yX10_requireNumber yX10_requireNumber, Cond.code yX10_requireNumber cX10_requireNumber 2 none, Cond.classLink RX10 96 "java/lang/IllegalArgumentException", Cond.initialized "java/lang/IllegalArgumentException", Cond.methodLink RX10 101 yX10_prime, Cond.instanceMethod yX10_prime, Cond.selects RX10 yX10_prime yX10_prime, Cond.code yX10_prime cX10_prime 1 (some .int), Cond.methodLink RX10 66 yX5_state, Cond.instanceMethod yX5_state, Cond.selects RX5 yX5_state yX5_state, Cond.initialized RX5, Cond.code yX5_state cX5_state 1 (some (.object "HingeNumbers$State")), Cond.fieldLink RX5 41 "HingeNumbers$Reckoner" "state" "LHingeNumbers$State;", Cond.methodLink RX10 153 yX7_numbers, Cond.instanceMethod yX7_numbers, Cond.selects RX7 yX7_numbers yX7_numbers, Cond.initialized RX7, Cond.code yX7_numbers cX7_numbers 1 (some (.object "HingeNumbers$Remainders")), Cond.fieldLink RX7 9 "HingeNumbers$State" "numbers" "LHingeNumbers$Remainders;", Cond.methodLink RX10 172 yX6_prime]
def wsL_same_r3 : List Cond := [Cond.instanceMethod yX6_prime, Cond.selects RX6 yX6_prime yX6_prime, Cond.initialized RX6, Cond.code yX6_prime cX6_prime 1 (some .int), Cond.fieldLink RX6 7 "HingeNumbers$Remainders" "prime" "I", Cond.instanceMethod yX5_value, Cond.selects RX5 yX5_value yX5_value, Cond.code yX5_value cX5_value 5 (some .int), Cond.fieldLink RX5 14 "HingeNumbers$Reckoner" "values" "LHingeNumbers$Table;", Cond.methodLink RX5 51 yX8_get, Cond.instanceMethod yX8_get, Cond.selects RX8 yX8_get yX8_get, Cond.initialized RX8, Cond.code yX8_get cX8_get 3 (some .int), Cond.fieldLink RX8 18 "HingeNumbers$Table" "width" "I", Cond.fieldLink RX8 24 "HingeNumbers$Table" "cells" "[I", Cond.static yX10_at, Cond.code yX10_at cX10_at 2 (some .int), Cond.methodLink RX5 55 yX5_reckonValues, Cond.instanceMethod yX5_reckonValues, Cond.selects RX5 yX5_reckonValues yX5_reckonValues, Cond.methodLink RX5 58 yX8_set, Cond.instanceMethod yX8_set, Cond.selects RX8 yX8_set yX8_set]
def wsL_same_r4 : List Cond := [Cond.code yX8_set cX8_set 4 none, Cond.static yX10_put, Cond.code yX10_put cX10_put 3 none, Cond.code yX5_reckonValues cX5_reckonValues 6 (some .int), Cond.fieldLink RX5 26 "HingeNumbers$Reckoner" "nodeValues" "LHingeNumbers$Table;", Cond.methodLink RX5 62 yX7_expressionOf, Cond.instanceMethod yX7_expressionOf, Cond.selects RX7 yX7_expressionOf yX7_expressionOf, Cond.code yX7_expressionOf cX7_expressionOf 2 (some (.object "HingeNumbers$Expression")), Cond.fieldLink RX7 15 "HingeNumbers$State" "f" "LHingeNumbers$Expression;", Cond.fieldLink RX7 19 "HingeNumbers$State" "g" "LHingeNumbers$Expression;", Cond.fieldLink RX7 22 "HingeNumbers$State" "h" "LHingeNumbers$Expression;", Cond.fieldLink RX7 25 "HingeNumbers$State" "k" "LHingeNumbers$Expression;", Cond.methodLink RX5 66 yX1_size, Cond.instanceMethod yX1_size, Cond.selects RX1 yX1_size yX1_size, Cond.initialized RX1, Cond.code yX1_size cX1_size 1 (some .int), Cond.fieldLink RX1 9 "HingeNumbers$Expression" "kinds" "[I", Cond.methodLink RX5 72 yX1_kind, Cond.instanceMethod yX1_kind, Cond.selects RX1 yX1_kind yX1_kind, Cond.code yX1_kind cX1_kind 2 (some .int), Cond.methodLink RX5 76 yX5_valueOfCall]
def wsL_same_r5 : List Cond := [Cond.instanceMethod yX5_valueOfCall, Cond.selects RX5 yX5_valueOfCall yX5_valueOfCall, Cond.methodLink RX5 79 yX5_valueOfNode, Cond.instanceMethod yX5_valueOfNode, Cond.selects RX5 yX5_valueOfNode yX5_valueOfNode, Cond.code yX5_valueOfNode cX5_valueOfNode 8 (some .int), Cond.methodLink RX5 96 yX7_numbers, Cond.methodLink RX5 86 yX1_left, Cond.instanceMethod yX1_left, Cond.selects RX1 yX1_left yX1_left, Cond.code yX1_left cX1_left 2 (some .int), Cond.fieldLink RX1 18 "HingeNumbers$Expression" "lefts" "[I", Cond.methodLink RX5 100 yX1_right, Cond.instanceMethod yX1_right, Cond.selects RX1 yX1_right yX1_right, Cond.code yX1_right cX1_right 2 (some .int), Cond.fieldLink RX1 21 "HingeNumbers$Expression" "rights" "[I", Cond.methodLink RX5 83 yX1_number, Cond.instanceMethod yX1_number, Cond.selects RX1 yX1_number yX1_number, Cond.code yX1_number cX1_number 2 (some .int), Cond.fieldLink RX1 15 "HingeNumbers$Expression" "numbers" "[I", Cond.methodLink RX5 103 yX6_of, Cond.instanceMethod yX6_of]
def wsL_same_r6 : List Cond := [Cond.selects RX6 yX6_of yX6_of, Cond.code yX6_of cX6_of 3 (some .int), Cond.methodLink RX5 108 yX6_subtract, Cond.instanceMethod yX6_subtract, Cond.selects RX6 yX6_subtract yX6_subtract, Cond.code yX6_subtract cX6_subtract 3 (some .int), Cond.methodLink RX6 13 yX6_of, Cond.methodLink RX5 111 yX6_add, Cond.instanceMethod yX6_add, Cond.selects RX6 yX6_add yX6_add, Cond.code yX6_add cX6_add 3 (some .int), Cond.methodLink RX5 114 yX6_multiply, Cond.instanceMethod yX6_multiply, Cond.selects RX6 yX6_multiply yX6_multiply, Cond.code yX6_multiply cX6_multiply 3 (some .int), Cond.methodLink RX5 117 yX6_divide, Cond.instanceMethod yX6_divide, Cond.selects RX6 yX6_divide yX6_divide, Cond.code yX6_divide cX6_divide 3 (some .int), Cond.methodLink RX6 17 yX6_power, Cond.instanceMethod yX6_power, Cond.selects RX6 yX6_power yX6_power, Cond.code yX6_power cX6_power 6 (some .int), Cond.methodLink RX5 120 yX6_power]
def wsL_same_r7 : List Cond := [Cond.code yX5_valueOfCall cX5_valueOfCall 6 (some .int), Cond.methodLink RX5 89 yX5_mayUse, Cond.static yX5_mayUse, Cond.code yX5_mayUse cX5_mayUse 2 (some .boolean), Cond.methodLink RX5 93 yX5_value, Cond.methodLink RL 55 yX10_slopeByHinges, Cond.instanceMethod yX10_slopeByHinges, Cond.selects RX10 yX10_slopeByHinges yX10_slopeByHinges, Cond.code yX10_slopeByHinges cX10_slopeByHinges 3 (some .int), Cond.instanceMethod yX5_hingeSlope, Cond.selects RX5 yX5_hingeSlope yX5_hingeSlope, Cond.code yX5_hingeSlope cX5_hingeSlope 6 (some .int), Cond.fieldLink RX5 20 "HingeNumbers$Reckoner" "hingeSlopes" "LHingeNumbers$Table;", Cond.methodLink RX5 123 yX5_feed, Cond.instanceMethod yX5_feed, Cond.selects RX5 yX5_feed yX5_feed, Cond.code yX5_feed cX5_feed 7 (some .int), Cond.fieldLink RX5 29 "HingeNumbers$Reckoner" "nodeSlopes" "LHingeNumbers$Table;", Cond.methodLink RX5 126 yX5_hingeOfCall, Cond.instanceMethod yX5_hingeOfCall, Cond.selects RX5 yX5_hingeOfCall yX5_hingeOfCall, Cond.methodLink RX5 129 yX5_hingeOfNode, Cond.instanceMethod yX5_hingeOfNode, Cond.selects RX5 yX5_hingeOfNode yX5_hingeOfNode]
def wsL_same_r8 : List Cond := [Cond.code yX5_hingeOfNode cX5_hingeOfNode 6 (some .int), Cond.methodLink RX5 136 yX5_slopeOfNode, Cond.instanceMethod yX5_slopeOfNode, Cond.selects RX5 yX5_slopeOfNode yX5_slopeOfNode, Cond.code yX5_slopeOfNode cX5_slopeOfNode 10 (some .int), Cond.methodLink RX5 139 yX6_powerSlope, Cond.instanceMethod yX6_powerSlope, Cond.selects RX6 yX6_powerSlope yX6_powerSlope, Cond.code yX6_powerSlope cX6_powerSlope 3 (some .int), Cond.code yX5_hingeOfCall cX5_hingeOfCall 7 (some .int), Cond.methodLink RX5 133 yX5_hingeSlope, Cond.methodLink RL 58 yX10_slopeByRules, Cond.instanceMethod yX10_slopeByRules, Cond.selects RX10 yX10_slopeByRules yX10_slopeByRules, Cond.code yX10_slopeByRules cX10_slopeByRules 3 (some .int), Cond.instanceMethod yX5_ruleSlope, Cond.selects RX5 yX5_ruleSlope yX5_ruleSlope, Cond.code yX5_ruleSlope cX5_ruleSlope 5 (some .int), Cond.fieldLink RX5 23 "HingeNumbers$Reckoner" "ruleSlopes" "LHingeNumbers$Table;", Cond.methodLink RX5 142 yX5_sumOfWeights, Cond.instanceMethod yX5_sumOfWeights, Cond.selects RX5 yX5_sumOfWeights yX5_sumOfWeights, Cond.code yX5_leftShare cX5_leftShare 8 (some .int), Cond.methodLink RX5 155 yX5_ruleSlope]
def wsL_same_r9 : List Cond := [Cond.code yX5_passWeightOn cX5_passWeightOn 8 none, Cond.fieldLink RX5 32 "HingeNumbers$Reckoner" "nodeWeights" "LHingeNumbers$Table;", Cond.methodLink RX5 149 yX5_leftShare, Cond.instanceMethod yX5_leftShare, Cond.selects RX5 yX5_leftShare yX5_leftShare, Cond.methodLink RX5 152 yX5_rightShare, Cond.instanceMethod yX5_rightShare, Cond.selects RX5 yX5_rightShare yX5_rightShare, Cond.code yX5_rightShare cX5_rightShare 7 (some .int), Cond.code yX5_sumOfWeights cX5_sumOfWeights 6 (some .int), Cond.methodLink RX5 145 yX5_passWeightOn, Cond.instanceMethod yX5_passWeightOn, Cond.selects RX5 yX5_passWeightOn yX5_passWeightOn, Cond.methodLink RL 61 yX10_step, Cond.instanceMethod yX10_step, Cond.selects RX10 yX10_step yX10_step, Cond.code yX10_step cX10_step 3 (some .int), Cond.methodLink RX10 169 yX10_nextOf, Cond.instanceMethod yX10_nextOf, Cond.selects RX10 yX10_nextOf yX10_nextOf, Cond.code yX10_nextOf cX10_nextOf 6 (some .int), Cond.methodLink RX10 176 yX6_divide, Cond.methodLink RX10 179 yX6_subtract, Cond.methodLink RL 64 yX10_stepsToRoot]
def wsL_same_r10 : List Cond := [Cond.instanceMethod yX10_stepsToRoot, Cond.selects RX10 yX10_stepsToRoot yX10_stepsToRoot, Cond.code yX10_stepsToRoot cX10_stepsToRoot 5 (some .int), Cond.methodLink RL 67 yX10_bansOf, Cond.instanceMethod yX10_bansOf, Cond.selects RX10 yX10_bansOf yX10_bansOf, Cond.code yX10_bansOf cX10_bansOf 2 (some .int), Cond.methodLink RX10 166 yX10_countValues, Cond.instanceMethod yX10_countValues, Cond.selects RX10 yX10_countValues yX10_countValues, Cond.code yX10_countValues cX10_countValues 5 (some .int), Cond.methodLink RL 70 yX10_flatsOf, Cond.instanceMethod yX10_flatsOf, Cond.selects RX10 yX10_flatsOf yX10_flatsOf, Cond.code yX10_flatsOf cX10_flatsOf 4 (some .int), Cond.methodLink RL 73 yX10_rootsOf, Cond.instanceMethod yX10_rootsOf, Cond.selects RX10 yX10_rootsOf yX10_rootsOf, Cond.code yX10_rootsOf cX10_rootsOf 2 (some .int), Cond.methodLink RL 76 yX10_firstFlat, Cond.instanceMethod yX10_firstFlat, Cond.selects RX10 yX10_firstFlat yX10_firstFlat, Cond.code yX10_firstFlat cX10_firstFlat 3 (some .int)]
def wsL_same : List Cond := .code yL_same cL_same 19 (some .boolean) :: ((wsL_same_r1 ++ (wsL_same_r2 ++ (wsL_same_r3 ++ (wsL_same_r4 ++ (wsL_same_r5 ++ (wsL_same_r6 ++ (wsL_same_r7 ++ (wsL_same_r8 ++ (wsL_same_r9 ++ wsL_same_r10))))))))) ++ wsX100 ++ wsX50 ++ wsX70 ++ wsX60 ++ wsX10 ++ wsX80 ++ (vx_atS RX10 186 "java/lang/IndexOutOfBoundsException" ["java/lang/RuntimeException", "java/lang/Exception"]).filter goodWord ++ (vx_atS RX10 100 "java/lang/IllegalArgumentException" ["java/lang/RuntimeException", "java/lang/Exception"]).filter goodWord)
def wsL_divided : List Cond := .code yL_divided cL_divided 2 (some .boolean) :: ([])
def wsL_prime : List Cond := .code yL_prime cL_prime 2 (some .int) :: ([.methodLink RL 16 yL_low, .static yL_low, .initialized RL, .code yL_low cL_low 2 (some .int), .constant RL 9 (2147483647), .methodLink RL 79 yL_divided, .static yL_divided, .code yL_divided cL_divided 2 (some .boolean)])
def wsL_law0_r1 : List Cond := [Cond.classLink RL 20 RX10, Cond.instantiable RX10 5, Cond.initialized RX10, Cond.arrayClass .int, Cond.methodLink RL 83 yX10_init, Cond.instanceMethod yX10_init, Cond.code yX10_init cX10_init 1 none, Cond.methodLink RX10 1 objectInit, Cond.instanceMethod objectInit, Cond.code objectInit ⟨#[0xb1]⟩ 1 none, Cond.classLink RX10 7 RX9, Cond.instantiable RX9 2, Cond.initialized RX9, Cond.fieldLink RX10 10 "HingeNumbers" "text" "LHingeNumbers$Text;", Cond.classLink RX10 16 RX4, Cond.instantiable RX4 4, Cond.initialized RX4, Cond.fieldLink RX10 19 "HingeNumbers" "parser" "LHingeNumbers$Parser;", Cond.classLink RX10 23 RX2, Cond.instantiable RX2 2, Cond.initialized RX2, Cond.fieldLink RX10 26 "HingeNumbers" "history" "LHingeNumbers$History;", Cond.classLink RX10 30 RX5, Cond.instantiable RX5 7]
def wsL_law0_r2 : List Cond := [Cond.initialized RX5, Cond.fieldLink RX10 33 "HingeNumbers" "reckoner" "LHingeNumbers$Reckoner;", Cond.fieldLink RX10 37 "HingeNumbers" "snapshot" "LHingeNumbers$State;", Cond.instanceMethod yX9_init, Cond.code yX9_init cX9_init 1 none, Cond.methodLink RX9 3 objectInit, Cond.arrayClass .char, Cond.fieldLink RX9 9 "HingeNumbers$Text" "characters" "[C", Cond.fieldLink RX9 15 "HingeNumbers$Text" "length" "I", Cond.instanceMethod yX4_init, Cond.code yX4_init cX4_init 1 none, Cond.methodLink RX4 3 objectInit, Cond.classLink RX4 9 RX0, Cond.instantiable RX0 10, Cond.initialized RX0, Cond.fieldLink RX4 12 "HingeNumbers$Parser" "builder" "LHingeNumbers$Builder;", Cond.fieldLink RX4 18 "HingeNumbers$Parser" "awaited" "I", Cond.fieldLink RX4 22 "HingeNumbers$Parser" "open" "I", Cond.fieldLink RX4 25 "HingeNumbers$Parser" "numberNode" "I", Cond.instanceMethod yX0_init, Cond.code yX0_init cX0_init 1 none, Cond.methodLink RX0 3 objectInit, Cond.fieldLink RX0 9 "HingeNumbers$Builder" "kinds" "[I", Cond.fieldLink RX0 15 "HingeNumbers$Builder" "numbers" "[I"]
def wsL_law0_r3 : List Cond := [Cond.fieldLink RX0 18 "HingeNumbers$Builder" "lefts" "[I", Cond.fieldLink RX0 21 "HingeNumbers$Builder" "rights" "[I", Cond.fieldLink RX0 24 "HingeNumbers$Builder" "depths" "[I", Cond.fieldLink RX0 27 "HingeNumbers$Builder" "likes" "[I", Cond.fieldLink RX0 30 "HingeNumbers$Builder" "size" "I", Cond.fieldLink RX0 34 "HingeNumbers$Builder" "leastDefinable" "I", Cond.classLink RX0 37 RX3, Cond.instantiable RX3 2, Cond.initialized RX3, Cond.fieldLink RX0 40 "HingeNumbers$Builder" "loose" "LHingeNumbers$NumberStack;", Cond.fieldLink RX0 44 "HingeNumbers$Builder" "waiting" "LHingeNumbers$NumberStack;", Cond.instanceMethod yX3_init, Cond.code yX3_init cX3_init 1 none, Cond.methodLink RX3 3 objectInit, Cond.fieldLink RX3 9 "HingeNumbers$NumberStack" "items" "[I", Cond.fieldLink RX3 15 "HingeNumbers$NumberStack" "count" "I", Cond.instanceMethod yX2_init, Cond.code yX2_init cX2_init 1 none, Cond.methodLink RX2 3 objectInit, Cond.classLink RX2 9 RX7, Cond.fieldLink RX2 11 "HingeNumbers$History" "states" "[LHingeNumbers$State;", Cond.fieldLink RX2 17 "HingeNumbers$History" "count" "I", Cond.methodLink RX10 32 yX5_init, Cond.instanceMethod yX5_init]
def wsL_law0_r4 : List Cond := [Cond.code yX5_init cX5_init 1 none, Cond.methodLink RX5 3 objectInit, Cond.classLink RX5 9 RX8, Cond.instantiable RX8 2, Cond.initialized RX8, Cond.fieldLink RX5 14 "HingeNumbers$Reckoner" "values" "LHingeNumbers$Table;", Cond.fieldLink RX5 20 "HingeNumbers$Reckoner" "hingeSlopes" "LHingeNumbers$Table;", Cond.fieldLink RX5 23 "HingeNumbers$Reckoner" "ruleSlopes" "LHingeNumbers$Table;", Cond.fieldLink RX5 26 "HingeNumbers$Reckoner" "nodeValues" "LHingeNumbers$Table;", Cond.fieldLink RX5 29 "HingeNumbers$Reckoner" "nodeSlopes" "LHingeNumbers$Table;", Cond.fieldLink RX5 32 "HingeNumbers$Reckoner" "nodeWeights" "LHingeNumbers$Table;", Cond.fieldLink RX5 41 "HingeNumbers$Reckoner" "state" "LHingeNumbers$State;", Cond.methodLink RX5 11 yX8_init, Cond.instanceMethod yX8_init, Cond.code yX8_init cX8_init 2 none, Cond.methodLink RX8 3 objectInit, Cond.methodLink RX8 9 Lib.Math.max.name, Cond.static Lib.Math.max.name, Cond.initialized "java/lang/Math", Cond.code Lib.Math.max.name Lib.Math.max.code 2 (some .int), Cond.methodLink RX8 15 Lib.Math.min.name, Cond.static Lib.Math.min.name, Cond.code Lib.Math.min.name Lib.Math.min.code 2 (some .int), Cond.fieldLink RX8 18 "HingeNumbers$Table" "width" "I"]
def wsL_law0_r5 : List Cond := [Cond.fieldLink RX8 24 "HingeNumbers$Table" "cells" "[I", Cond.methodLink RX5 35 yX7_first, Cond.static yX7_first, Cond.initialized RX7, Cond.code yX7_first cX7_first 1 (some (.object "HingeNumbers$State")), Cond.classLink RX7 10 RX7, Cond.instantiable RX7 5, Cond.classLink RX7 34 RX6, Cond.instantiable RX6 1, Cond.initialized RX6, Cond.methodLink RX7 28 yX1_ofX, Cond.static yX1_ofX, Cond.initialized RX1, Cond.code yX1_ofX cX1_ofX 0 (some (.object "HingeNumbers$Expression")), Cond.classLink RX1 10 RX1, Cond.instantiable RX1 7, Cond.methodLink RX1 34 yX1_init, Cond.instanceMethod yX1_init, Cond.code yX1_init cX1_init 8 none, Cond.methodLink RX1 3 objectInit, Cond.fieldLink RX1 9 "HingeNumbers$Expression" "kinds" "[I", Cond.fieldLink RX1 15 "HingeNumbers$Expression" "numbers" "[I", Cond.fieldLink RX1 18 "HingeNumbers$Expression" "lefts" "[I", Cond.fieldLink RX1 21 "HingeNumbers$Expression" "rights" "[I"]
def wsL_law0_r6 : List Cond := [Cond.fieldLink RX1 24 "HingeNumbers$Expression" "depth" "I", Cond.fieldLink RX1 28 "HingeNumbers$Expression" "unlike" "I", Cond.fieldLink RX1 31 "HingeNumbers$Expression" "leastDefinable" "I", Cond.methodLink RX7 36 yX6_init, Cond.instanceMethod yX6_init, Cond.code yX6_init cX6_init 2 none, Cond.methodLink RX6 1 objectInit, Cond.fieldLink RX6 7 "HingeNumbers$Remainders" "prime" "I", Cond.methodLink RX7 39 yX7_init, Cond.instanceMethod yX7_init, Cond.code yX7_init cX7_init 6 none, Cond.methodLink RX7 3 objectInit, Cond.fieldLink RX7 9 "HingeNumbers$State" "numbers" "LHingeNumbers$Remainders;", Cond.fieldLink RX7 15 "HingeNumbers$State" "f" "LHingeNumbers$Expression;", Cond.fieldLink RX7 19 "HingeNumbers$State" "g" "LHingeNumbers$Expression;", Cond.fieldLink RX7 22 "HingeNumbers$State" "h" "LHingeNumbers$Expression;", Cond.fieldLink RX7 25 "HingeNumbers$State" "k" "LHingeNumbers$Expression;", Cond.methodLink RX5 45 yX5_forget, Cond.instanceMethod yX5_forget, Cond.selects RX5 yX5_forget yX5_forget, Cond.code yX5_forget cX5_forget 1 none, Cond.methodLink RX5 48 yX8_fill, Cond.instanceMethod yX8_fill, Cond.selects RX8 yX8_fill yX8_fill]
def wsL_law0_r7 : List Cond := [Cond.code yX8_fill cX8_fill 2 none, Cond.methodLink RX8 28 yJ7_fill_53178, Cond.static yJ7_fill_53178, Cond.initialized RJ7, Cond.code yJ7_fill_53178 cJ7_fill_53178 4 none, Cond.methodLink RL 84 yL_cell, Cond.static yL_cell, Cond.initialized RL, Cond.code yL_cell cL_cell 2 (some .int), Cond.constant RL 7 (32452867), Cond.constant RL 8 (15485863), Cond.methodLink RL 88 yL_prime, Cond.static yL_prime, Cond.code yL_prime cL_prime 2 (some .int), Cond.methodLink RL 16 yL_low, Cond.static yL_low, Cond.code yL_low cL_low 2 (some .int), Cond.constant RL 9 (2147483647), Cond.methodLink RL 79 yL_divided, Cond.static yL_divided, Cond.code yL_divided cL_divided 2 (some .boolean), Cond.methodLink RL 91 yL_modulus, Cond.static yL_modulus, Cond.codeWith yL_modulus cL_modulus 3 (some .int) [(0, 5, 6, 40)]]
def wsL_law0_r8 : List Cond := [Cond.classLink RL 40 "java/lang/IllegalArgumentException", Cond.methodLink RL 37 yX10_setModulus, Cond.instanceMethod yX10_setModulus, Cond.selects RX10 yX10_setModulus yX10_setModulus, Cond.code yX10_setModulus cX10_setModulus 3 (some .int), Cond.classLink RX10 96 "java/lang/IllegalArgumentException", Cond.initialized "java/lang/IllegalArgumentException", Cond.methodLink RX10 92 yX10_isPrime, Cond.static yX10_isPrime, Cond.code yX10_isPrime cX10_isPrime 2 (some .boolean), Cond.methodLink RX10 101 yX10_prime, Cond.instanceMethod yX10_prime, Cond.selects RX10 yX10_prime yX10_prime, Cond.code yX10_prime cX10_prime 1 (some .int), Cond.methodLink RX10 66 yX5_state, Cond.instanceMethod yX5_state, Cond.selects RX5 yX5_state yX5_state, Cond.code yX5_state cX5_state 1 (some (.object "HingeNumbers$State")), Cond.methodLink RX10 153 yX7_numbers, Cond.instanceMethod yX7_numbers, Cond.selects RX7 yX7_numbers yX7_numbers, Cond.code yX7_numbers cX7_numbers 1 (some (.object "HingeNumbers$Remainders")), Cond.methodLink RX10 172 yX6_prime, Cond.instanceMethod yX6_prime]
def wsL_law0_r9 : List Cond := [Cond.selects RX6 yX6_prime yX6_prime, Cond.code yX6_prime cX6_prime 1 (some .int), Cond.methodLink RX10 104 yX7_withPrime, Cond.instanceMethod yX7_withPrime, Cond.selects RX7 yX7_withPrime yX7_withPrime, Cond.code yX7_withPrime cX7_withPrime 2 (some (.object "HingeNumbers$State")), Cond.methodLink RX10 76 yX10_act, Cond.instanceMethod yX10_act, Cond.selects RX10 yX10_act yX10_act, Cond.code yX10_act cX10_act 2 none, Cond.methodLink RX10 173 yX2_record, Cond.instanceMethod yX2_record, Cond.selects RX2 yX2_record yX2_record, Cond.code yX2_record cX2_record 2 none, Cond.methodLink RX2 21 yX2_forgetOldest, Cond.instanceMethod yX2_forgetOldest, Cond.selects RX2 yX2_forgetOldest yX2_forgetOldest, Cond.code yX2_forgetOldest cX2_forgetOldest 2 none, Cond.methodLink RX10 126 yX5_moveTo, Cond.instanceMethod yX5_moveTo, Cond.selects RX5 yX5_moveTo yX5_moveTo, Cond.code yX5_moveTo cX5_moveTo 2 none, Cond.methodLink RL 95 yX10_clearText, Cond.instanceMethod yX10_clearText]
def wsL_law0_r10 : List Cond := [Cond.selects RX10 yX10_clearText yX10_clearText, Cond.code yX10_clearText cX10_clearText 1 (some .int), Cond.methodLink RX10 118 yX9_empty, Cond.instanceMethod yX9_empty, Cond.selects RX9 yX9_empty yX9_empty, Cond.code yX9_empty cX9_empty 2 (some .int), Cond.methodLink RL 19 yX10_type, Cond.instanceMethod yX10_type, Cond.selects RX10 yX10_type yX10_type, Cond.code yX10_type cX10_type 2 (some .int), Cond.classLink RX10 49 "java/lang/IllegalStateException", Cond.initialized "java/lang/IllegalStateException", Cond.methodLink RX10 108 yX9_isFull, Cond.instanceMethod yX9_isFull, Cond.selects RX9 yX9_isFull yX9_isFull, Cond.code yX9_isFull cX9_isFull 1 (some .boolean), Cond.methodLink RX10 114 yX9_append, Cond.instanceMethod yX9_append, Cond.selects RX9 yX9_append yX9_append, Cond.code yX9_append cX9_append 2 (some .int), Cond.methodLink RL 99 yL_term, Cond.static yL_term, Cond.code yL_term cL_term 13 (some .int), Cond.methodLink RL 10 yL_mod]
def wsL_law0_r11 : List Cond := [Cond.static yL_mod, Cond.code yL_mod cL_mod 3 (some .int), Cond.methodLink RL 25 yL_times, Cond.static yL_times, Cond.code yL_times cL_times 6 none, Cond.methodLink RL 103 yX10_textError, Cond.instanceMethod yX10_textError, Cond.selects RX10 yX10_textError yX10_textError, Cond.code yX10_textError cX10_textError 1 (some .int), Cond.methodLink RX10 45 yX4_firstError, Cond.instanceMethod yX4_firstError, Cond.selects RX4 yX4_firstError yX4_firstError, Cond.code yX4_firstError cX4_firstError 3 (some .int), Cond.methodLink RX4 28 yX0_clear, Cond.instanceMethod yX0_clear, Cond.selects RX0 yX0_clear yX0_clear, Cond.code yX0_clear cX0_clear 1 none, Cond.methodLink RX0 47 yX3_clear, Cond.instanceMethod yX3_clear, Cond.selects RX3 yX3_clear yX3_clear, Cond.code yX3_clear cX3_clear 1 none, Cond.methodLink RX4 31 yX9_length, Cond.instanceMethod yX9_length, Cond.selects RX9 yX9_length yX9_length]
def wsL_law0_r12 : List Cond := [Cond.code yX9_length cX9_length 1 (some .int), Cond.methodLink RX4 37 yX9_characterAt, Cond.instanceMethod yX9_characterAt, Cond.selects RX9 yX9_characterAt yX9_characterAt, Cond.code yX9_characterAt cX9_characterAt 2 (some .char), Cond.methodLink RX4 41 yX4_takes, Cond.instanceMethod yX4_takes, Cond.selects RX4 yX4_takes yX4_takes, Cond.code yX4_takes cX4_takes 2 (some .boolean), Cond.methodLink RX4 55 yX4_takesAtom, Cond.instanceMethod yX4_takesAtom, Cond.selects RX4 yX4_takesAtom yX4_takesAtom, Cond.code yX4_takesAtom cX4_takesAtom 2 (some .boolean), Cond.methodLink RX4 67 yX4_isDigit, Cond.static yX4_isDigit, Cond.code yX4_isDigit cX4_isDigit 1 (some .boolean), Cond.methodLink RX4 70 yX0_addNumber, Cond.instanceMethod yX0_addNumber, Cond.selects RX0 yX0_addNumber yX0_addNumber, Cond.code yX0_addNumber cX0_addNumber 3 (some .int), Cond.methodLink RX0 54 yX0_addNode, Cond.instanceMethod yX0_addNode, Cond.selects RX0 yX0_addNode yX0_addNode, Cond.code yX0_addNode cX0_addNode 5 none]
def wsL_law0_r13 : List Cond := [Cond.methodLink RX0 83 Lib.Math.max.name, Cond.methodLink RX0 113 Lib.Math.min.name, Cond.static yX10_put, Cond.code yX10_put cX10_put 3 none, Cond.static yX10_at, Cond.code yX10_at cX10_at 2 (some .int), Cond.methodLink RX0 50 yX3_push, Cond.instanceMethod yX3_push, Cond.selects RX3 yX3_push yX3_push, Cond.code yX3_push cX3_push 2 none, Cond.methodLink RX0 58 yX0_finishAtom, Cond.instanceMethod yX0_finishAtom, Cond.selects RX0 yX0_finishAtom yX0_finishAtom, Cond.code yX0_finishAtom cX0_finishAtom 2 none, Cond.methodLink RX0 107 yX3_count, Cond.instanceMethod yX3_count, Cond.selects RX3 yX3_count yX3_count, Cond.code yX3_count cX3_count 1 (some .int), Cond.methodLink RX0 110 yX3_top, Cond.instanceMethod yX3_top, Cond.selects RX3 yX3_top yX3_top, Cond.code yX3_top cX3_top 1 (some .int), Cond.methodLink RX0 69 yX3_pop, Cond.instanceMethod yX3_pop]
def wsL_law0_r14 : List Cond := [Cond.selects RX3 yX3_pop yX3_pop, Cond.code yX3_pop cX3_pop 1 (some .int), Cond.methodLink RX4 74 yX0_addX, Cond.instanceMethod yX0_addX, Cond.selects RX0 yX0_addX yX0_addX, Cond.code yX0_addX cX0_addX 1 none, Cond.methodLink RX4 77 yX0_await, Cond.instanceMethod yX0_await, Cond.selects RX0 yX0_await yX0_await, Cond.code yX0_await cX0_await 2 none, Cond.static yX10_functionOf, Cond.code yX10_functionOf cX10_functionOf 1 (some .int), Cond.methodLink RX4 58 yX4_takesOpening, Cond.instanceMethod yX4_takesOpening, Cond.selects RX4 yX4_takesOpening yX4_takesOpening, Cond.code yX4_takesOpening cX4_takesOpening 2 (some .boolean), Cond.methodLink RX4 61 yX4_takesExponent, Cond.instanceMethod yX4_takesExponent, Cond.selects RX4 yX4_takesExponent yX4_takesExponent, Cond.code yX4_takesExponent cX4_takesExponent 2 (some .boolean), Cond.methodLink RX4 84 yX0_addPower, Cond.instanceMethod yX0_addPower, Cond.selects RX0 yX0_addPower yX0_addPower, Cond.code yX0_addPower cX0_addPower 2 none]
def wsL_law0_r15 : List Cond := [Cond.methodLink RX4 64 yX4_takesBehind, Cond.instanceMethod yX4_takesBehind, Cond.selects RX4 yX4_takesBehind yX4_takesBehind, Cond.code yX4_takesBehind cX4_takesBehind 2 (some .boolean), Cond.methodLink RX4 87 yX4_takesFurtherDigit, Cond.instanceMethod yX4_takesFurtherDigit, Cond.selects RX4 yX4_takesFurtherDigit yX4_takesFurtherDigit, Cond.code yX4_takesFurtherDigit cX4_takesFurtherDigit 3 (some .boolean), Cond.methodLink RX4 96 yX0_numberOf, Cond.instanceMethod yX0_numberOf, Cond.selects RX0 yX0_numberOf yX0_numberOf, Cond.code yX0_numberOf cX0_numberOf 2 (some .int), Cond.methodLink RX4 99 yX0_addDigit, Cond.instanceMethod yX0_addDigit, Cond.selects RX0 yX0_addDigit yX0_addDigit, Cond.code yX0_addDigit cX0_addDigit 3 none, Cond.methodLink RX4 90 yX0_close, Cond.instanceMethod yX0_close, Cond.selects RX0 yX0_close yX0_close, Cond.code yX0_close cX0_close 2 none, Cond.methodLink RX0 77 yX0_joinFrom, Cond.instanceMethod yX0_joinFrom, Cond.selects RX0 yX0_joinFrom yX0_joinFrom, Cond.code yX0_joinFrom cX0_joinFrom 4 none]
def wsL_law0_r16 : List Cond := [Cond.methodLink RX0 73 yX0_levelOf, Cond.static yX0_levelOf, Cond.code yX0_levelOf cX0_levelOf 1 (some .int), Cond.methodLink RX4 93 yX0_addSign, Cond.instanceMethod yX0_addSign, Cond.selects RX0 yX0_addSign yX0_addSign, Cond.code yX0_addSign cX0_addSign 2 none, Cond.methodLink RX4 45 yX0_finish, Cond.instanceMethod yX0_finish, Cond.selects RX0 yX0_finish yX0_finish, Cond.code yX0_finish cX0_finish 1 none, Cond.methodLink RL 106 yL_define, Cond.static yL_define, Cond.codeWith yL_define cL_define 3 (some .int) [(0, 5, 6, 33), (0, 5, 10, 35)], Cond.classLink RL 33 "java/lang/IndexOutOfBoundsException", Cond.classLink RL 35 "java/lang/IllegalStateException", Cond.methodLink RL 29 yX10_define, Cond.instanceMethod yX10_define, Cond.selects RX10 yX10_define yX10_define, Cond.code yX10_define cX10_define 3 (some .int), Cond.methodLink RX10 41 yX10_requireFunction, Cond.instanceMethod yX10_requireFunction, Cond.selects RX10 yX10_requireFunction yX10_requireFunction, Cond.code yX10_requireFunction cX10_requireFunction 2 none]
def wsL_law0_r17 : List Cond := [Cond.classLink RX10 182 "java/lang/IndexOutOfBoundsException", Cond.initialized "java/lang/IndexOutOfBoundsException", Cond.methodLink RX10 56 yX4_leastDefinable, Cond.instanceMethod yX4_leastDefinable, Cond.selects RX4 yX4_leastDefinable yX4_leastDefinable, Cond.code yX4_leastDefinable cX4_leastDefinable 1 (some .int), Cond.methodLink RX4 48 yX0_leastDefinable, Cond.instanceMethod yX0_leastDefinable, Cond.selects RX0 yX0_leastDefinable yX0_leastDefinable, Cond.code yX0_leastDefinable cX0_leastDefinable 1 (some .int), Cond.methodLink RX10 62 yX4_toExpression, Cond.instanceMethod yX4_toExpression, Cond.selects RX4 yX4_toExpression yX4_toExpression, Cond.code yX4_toExpression cX4_toExpression 1 (some (.object "HingeNumbers$Expression")), Cond.methodLink RX4 51 yX0_toExpression, Cond.instanceMethod yX0_toExpression, Cond.selects RX0 yX0_toExpression yX0_toExpression, Cond.code yX0_toExpression cX0_toExpression 1 (some (.object "HingeNumbers$Expression")), Cond.classLink RX0 89 RX1, Cond.methodLink RX0 91 yX0_filled, Cond.instanceMethod yX0_filled, Cond.selects RX0 yX0_filled yX0_filled, Cond.code yX0_filled cX0_filled 2 (some (.array .int)), Cond.methodLink RX0 101 yJ7_copyOf_59c91]
def wsL_law0_r18 : List Cond := [Cond.static yJ7_copyOf_59c91, Cond.code yJ7_copyOf_59c91 cJ7_copyOf_59c91 3 (some (.array .int)), Cond.methodLink RJ7 316 ⟨"[I", "clone", "()Ljava/lang/Object;"⟩, Cond.sameMethod "[I" "java/lang/Object" "clone" "()Ljava/lang/Object;", Cond.native ⟨"java/lang/Object", "clone", "()Ljava/lang/Object;"⟩, Cond.instanceMethod ⟨"java/lang/Object", "clone", "()Ljava/lang/Object;"⟩, Cond.selects "[I" ⟨"[I", "clone", "()Ljava/lang/Object;"⟩ ⟨"java/lang/Object", "clone", "()Ljava/lang/Object;"⟩, Cond.classLink RJ7 317 "[I", Cond.methodLink RJ7 304 Lib.Math.min.name, Cond.methodLink RJ7 150 arraycopyName, Cond.native arraycopyName, Cond.static arraycopyName, Cond.initialized "java/lang/System", Cond.methodLink RX0 95 yX0_countUnlike, Cond.instanceMethod yX0_countUnlike, Cond.selects RX0 yX0_countUnlike yX0_countUnlike, Cond.code yX0_countUnlike cX0_countUnlike 4 (some .int), Cond.methodLink RX0 116 yX0_firstLike, Cond.instanceMethod yX0_firstLike, Cond.selects RX0 yX0_firstLike yX0_firstLike, Cond.code yX0_firstLike cX0_firstLike 3 (some .int), Cond.methodLink RX0 119 yX0_areAlike, Cond.instanceMethod yX0_areAlike, Cond.selects RX0 yX0_areAlike yX0_areAlike]
def wsL_law0_r19 : List Cond := [Cond.code yX0_areAlike cX0_areAlike 3 (some .boolean), Cond.methodLink RX0 98 yX1_init, Cond.methodLink RX10 70 yX7_withExpression, Cond.instanceMethod yX7_withExpression, Cond.selects RX7 yX7_withExpression yX7_withExpression, Cond.code yX7_withExpression cX7_withExpression 3 (some (.object "HingeNumbers$State")), Cond.methodLink RX10 80 yX1_size, Cond.instanceMethod yX1_size, Cond.selects RX1 yX1_size yX1_size, Cond.code yX1_size cX1_size 1 (some .int), Cond.methodLink RL 108 yX10_nodesOf, Cond.instanceMethod yX10_nodesOf, Cond.selects RX10 yX10_nodesOf yX10_nodesOf, Cond.code yX10_nodesOf cX10_nodesOf 2 (some .int), Cond.methodLink RX10 85 yX7_expressionOf, Cond.instanceMethod yX7_expressionOf, Cond.selects RX7 yX7_expressionOf yX7_expressionOf, Cond.code yX7_expressionOf cX7_expressionOf 2 (some (.object "HingeNumbers$Expression")), Cond.methodLink RL 111 yX10_unlikeNodesOf, Cond.instanceMethod yX10_unlikeNodesOf, Cond.selects RX10 yX10_unlikeNodesOf yX10_unlikeNodesOf, Cond.code yX10_unlikeNodesOf cX10_unlikeNodesOf 2 (some .int), Cond.methodLink RX10 134 yX1_unlike, Cond.instanceMethod yX1_unlike]
def wsL_law0_r20 : List Cond := [Cond.selects RX1 yX1_unlike yX1_unlike, Cond.code yX1_unlike cX1_unlike 1 (some .int), Cond.methodLink RL 114 yL_same, Cond.static yL_same, Cond.code yL_same cL_same 19 (some .boolean), Cond.methodLink RL 42 yL_at, Cond.static yL_at, Cond.code yL_at cL_at 5 (some .int), Cond.methodLink RL 46 yL_slopeAt, Cond.static yL_slopeAt, Cond.code yL_slopeAt cL_slopeAt 5 (some .int), Cond.methodLink RL 49 yL_inverse, Cond.static yL_inverse, Cond.code yL_inverse cL_inverse 4 (some .int), Cond.methodLink RL 52 yX10_valueAt, Cond.instanceMethod yX10_valueAt, Cond.selects RX10 yX10_valueAt yX10_valueAt, Cond.code yX10_valueAt cX10_valueAt 3 (some .int), Cond.methodLink RX10 140 yX10_requireNumber, Cond.instanceMethod yX10_requireNumber, Cond.selects RX10 yX10_requireNumber yX10_requireNumber, Cond.code yX10_requireNumber cX10_requireNumber 2 none, Cond.instanceMethod yX5_value, Cond.selects RX5 yX5_value yX5_value]
def wsL_law0_r21 : List Cond := [Cond.code yX5_value cX5_value 5 (some .int), Cond.methodLink RX5 51 yX8_get, Cond.instanceMethod yX8_get, Cond.selects RX8 yX8_get yX8_get, Cond.code yX8_get cX8_get 3 (some .int), Cond.methodLink RX5 55 yX5_reckonValues, Cond.instanceMethod yX5_reckonValues, Cond.selects RX5 yX5_reckonValues yX5_reckonValues, Cond.methodLink RX5 58 yX8_set, Cond.instanceMethod yX8_set, Cond.selects RX8 yX8_set yX8_set, Cond.code yX8_set cX8_set 4 none, Cond.code yX5_reckonValues cX5_reckonValues 6 (some .int), Cond.methodLink RX5 62 yX7_expressionOf, Cond.methodLink RX5 66 yX1_size, Cond.methodLink RX5 72 yX1_kind, Cond.instanceMethod yX1_kind, Cond.selects RX1 yX1_kind yX1_kind, Cond.code yX1_kind cX1_kind 2 (some .int), Cond.methodLink RX5 76 yX5_valueOfCall, Cond.instanceMethod yX5_valueOfCall, Cond.selects RX5 yX5_valueOfCall yX5_valueOfCall, Cond.methodLink RX5 79 yX5_valueOfNode, Cond.instanceMethod yX5_valueOfNode]
def wsL_law0_r22 : List Cond := [Cond.selects RX5 yX5_valueOfNode yX5_valueOfNode, Cond.code yX5_valueOfNode cX5_valueOfNode 8 (some .int), Cond.methodLink RX5 96 yX7_numbers, Cond.methodLink RX5 86 yX1_left, Cond.instanceMethod yX1_left, Cond.selects RX1 yX1_left yX1_left, Cond.code yX1_left cX1_left 2 (some .int), Cond.methodLink RX5 100 yX1_right, Cond.instanceMethod yX1_right, Cond.selects RX1 yX1_right yX1_right, Cond.code yX1_right cX1_right 2 (some .int), Cond.methodLink RX5 83 yX1_number, Cond.instanceMethod yX1_number, Cond.selects RX1 yX1_number yX1_number, Cond.code yX1_number cX1_number 2 (some .int), Cond.methodLink RX5 103 yX6_of, Cond.instanceMethod yX6_of, Cond.selects RX6 yX6_of yX6_of, Cond.code yX6_of cX6_of 3 (some .int), Cond.methodLink RX5 108 yX6_subtract, Cond.instanceMethod yX6_subtract, Cond.selects RX6 yX6_subtract yX6_subtract, Cond.code yX6_subtract cX6_subtract 3 (some .int), Cond.methodLink RX6 13 yX6_of]
def wsL_law0_r23 : List Cond := [Cond.methodLink RX5 111 yX6_add, Cond.instanceMethod yX6_add, Cond.selects RX6 yX6_add yX6_add, Cond.code yX6_add cX6_add 3 (some .int), Cond.methodLink RX5 114 yX6_multiply, Cond.instanceMethod yX6_multiply, Cond.selects RX6 yX6_multiply yX6_multiply, Cond.code yX6_multiply cX6_multiply 3 (some .int), Cond.methodLink RX5 117 yX6_divide, Cond.instanceMethod yX6_divide, Cond.selects RX6 yX6_divide yX6_divide, Cond.code yX6_divide cX6_divide 3 (some .int), Cond.methodLink RX6 17 yX6_power, Cond.instanceMethod yX6_power, Cond.selects RX6 yX6_power yX6_power, Cond.code yX6_power cX6_power 6 (some .int), Cond.methodLink RX5 120 yX6_power, Cond.code yX5_valueOfCall cX5_valueOfCall 6 (some .int), Cond.methodLink RX5 89 yX5_mayUse, Cond.static yX5_mayUse, Cond.code yX5_mayUse cX5_mayUse 2 (some .boolean), Cond.methodLink RX5 93 yX5_value, Cond.methodLink RL 55 yX10_slopeByHinges, Cond.instanceMethod yX10_slopeByHinges]
def wsL_law0_r24 : List Cond := [Cond.selects RX10 yX10_slopeByHinges yX10_slopeByHinges, Cond.code yX10_slopeByHinges cX10_slopeByHinges 3 (some .int), Cond.instanceMethod yX5_hingeSlope, Cond.selects RX5 yX5_hingeSlope yX5_hingeSlope, Cond.code yX5_hingeSlope cX5_hingeSlope 6 (some .int), Cond.methodLink RX5 123 yX5_feed, Cond.instanceMethod yX5_feed, Cond.selects RX5 yX5_feed yX5_feed, Cond.code yX5_feed cX5_feed 7 (some .int), Cond.methodLink RX5 126 yX5_hingeOfCall, Cond.instanceMethod yX5_hingeOfCall, Cond.selects RX5 yX5_hingeOfCall yX5_hingeOfCall, Cond.methodLink RX5 129 yX5_hingeOfNode, Cond.instanceMethod yX5_hingeOfNode, Cond.selects RX5 yX5_hingeOfNode yX5_hingeOfNode, Cond.code yX5_hingeOfNode cX5_hingeOfNode 6 (some .int), Cond.methodLink RX5 136 yX5_slopeOfNode, Cond.instanceMethod yX5_slopeOfNode, Cond.selects RX5 yX5_slopeOfNode yX5_slopeOfNode, Cond.code yX5_slopeOfNode cX5_slopeOfNode 10 (some .int), Cond.methodLink RX5 139 yX6_powerSlope, Cond.instanceMethod yX6_powerSlope, Cond.selects RX6 yX6_powerSlope yX6_powerSlope, Cond.code yX6_powerSlope cX6_powerSlope 3 (some .int)]
def wsL_law0_r25 : List Cond := [Cond.code yX5_hingeOfCall cX5_hingeOfCall 7 (some .int), Cond.methodLink RX5 133 yX5_hingeSlope, Cond.methodLink RL 58 yX10_slopeByRules, Cond.instanceMethod yX10_slopeByRules, Cond.selects RX10 yX10_slopeByRules yX10_slopeByRules, Cond.code yX10_slopeByRules cX10_slopeByRules 3 (some .int), Cond.instanceMethod yX5_ruleSlope, Cond.selects RX5 yX5_ruleSlope yX5_ruleSlope, Cond.code yX5_ruleSlope cX5_ruleSlope 5 (some .int), Cond.methodLink RX5 142 yX5_sumOfWeights, Cond.instanceMethod yX5_sumOfWeights, Cond.selects RX5 yX5_sumOfWeights yX5_sumOfWeights, Cond.code yX5_leftShare cX5_leftShare 8 (some .int), Cond.methodLink RX5 155 yX5_ruleSlope, Cond.code yX5_passWeightOn cX5_passWeightOn 8 none, Cond.methodLink RX5 149 yX5_leftShare, Cond.instanceMethod yX5_leftShare, Cond.selects RX5 yX5_leftShare yX5_leftShare, Cond.methodLink RX5 152 yX5_rightShare, Cond.instanceMethod yX5_rightShare, Cond.selects RX5 yX5_rightShare yX5_rightShare, Cond.code yX5_rightShare cX5_rightShare 7 (some .int), Cond.code yX5_sumOfWeights cX5_sumOfWeights 6 (some .int), Cond.methodLink RX5 145 yX5_passWeightOn]
def wsL_law0_r26 : List Cond := [Cond.instanceMethod yX5_passWeightOn, Cond.selects RX5 yX5_passWeightOn yX5_passWeightOn, Cond.methodLink RL 61 yX10_step, Cond.instanceMethod yX10_step, Cond.selects RX10 yX10_step yX10_step, Cond.code yX10_step cX10_step 3 (some .int), Cond.methodLink RX10 169 yX10_nextOf, Cond.instanceMethod yX10_nextOf, Cond.selects RX10 yX10_nextOf yX10_nextOf, Cond.code yX10_nextOf cX10_nextOf 6 (some .int), Cond.methodLink RX10 176 yX6_divide, Cond.methodLink RX10 179 yX6_subtract, Cond.methodLink RL 64 yX10_stepsToRoot, Cond.instanceMethod yX10_stepsToRoot, Cond.selects RX10 yX10_stepsToRoot yX10_stepsToRoot, Cond.code yX10_stepsToRoot cX10_stepsToRoot 5 (some .int), Cond.methodLink RL 67 yX10_bansOf, Cond.instanceMethod yX10_bansOf, Cond.selects RX10 yX10_bansOf yX10_bansOf, Cond.code yX10_bansOf cX10_bansOf 2 (some .int), Cond.methodLink RX10 166 yX10_countValues, Cond.instanceMethod yX10_countValues, Cond.selects RX10 yX10_countValues yX10_countValues, Cond.code yX10_countValues cX10_countValues 5 (some .int)]
def wsL_law0_r27 : List Cond := [Cond.methodLink RL 70 yX10_flatsOf, Cond.instanceMethod yX10_flatsOf, Cond.selects RX10 yX10_flatsOf yX10_flatsOf, Cond.code yX10_flatsOf cX10_flatsOf 4 (some .int), Cond.methodLink RL 73 yX10_rootsOf, Cond.instanceMethod yX10_rootsOf, Cond.selects RX10 yX10_rootsOf yX10_rootsOf, Cond.code yX10_rootsOf cX10_rootsOf 2 (some .int), Cond.methodLink RL 76 yX10_firstFlat, Cond.instanceMethod yX10_firstFlat, Cond.selects RX10 yX10_firstFlat yX10_firstFlat, Cond.code yX10_firstFlat cX10_firstFlat 3 (some .int)]
def wsL_law0 : List Cond := (wsL_law0_r1 ++ (wsL_law0_r2 ++ (wsL_law0_r3 ++ (wsL_law0_r4 ++ (wsL_law0_r5 ++ (wsL_law0_r6 ++ (wsL_law0_r7 ++ (wsL_law0_r8 ++ (wsL_law0_r9 ++ (wsL_law0_r10 ++ (wsL_law0_r11 ++ (wsL_law0_r12 ++ (wsL_law0_r13 ++ (wsL_law0_r14 ++ (wsL_law0_r15 ++ (wsL_law0_r16 ++ (wsL_law0_r17 ++ (wsL_law0_r18 ++ (wsL_law0_r19 ++ (wsL_law0_r20 ++ (wsL_law0_r21 ++ (wsL_law0_r22 ++ (wsL_law0_r23 ++ (wsL_law0_r24 ++ (wsL_law0_r25 ++ (wsL_law0_r26 ++ wsL_law0_r27)))))))))))))))))))))))))) ++ wsX100 ++ wsX90 ++ wsX40 ++ wsX20 ++ wsX50 ++ wsX00 ++ wsX30 ++ wsX80 ++ wsX70 ++ wsX60 ++ wsX10 ++ ([] : List Cond)
def wsL_law : List Cond := wsL_law0 ++ (vx_atS RX10 100 "java/lang/IllegalArgumentException" ["java/lang/RuntimeException", "java/lang/Exception"]).filter goodWord ++ (vx_atS RX10 53 "java/lang/IllegalStateException" ["java/lang/RuntimeException", "java/lang/Exception"]).filter goodWord ++ (vx_atS RX10 186 "java/lang/IndexOutOfBoundsException" ["java/lang/RuntimeException", "java/lang/Exception"]).filter goodWord
end
section
/-! own layer: ints as integers, worlds in one bundle, contracts that return (qMet), contracts that only read (qPure) -/
abbrev vwCl : List vw_C := [(RX0, TX0, 10), (RX1, TX1, 7), (RX2, TX2, 2), (RX3, TX3, 2), (RX4, TX4, 4), (RX5, TX5, 7), (RX6, TX6, 1), (RX7, TX7, 5), (RX8, TX8, 2), (RX9, TX9, 2), (RX10, TX10, 5)]
section QNUM
/-- the integer z as an int, and as a long -/
def iI (z : Int) : Int32 := Int32.ofInt z
def lI (z : Int) : Int64 := Int64.ofInt z
theorem iI_add (a b : Int) : iI a + iI b = iI (a + b) := (Int32.ofInt_add a b).symm
theorem iI_sub (a b : Int) : iI a - iI b = iI (a - b) := (Int32.ofInt_sub a b).symm
theorem iI_mul (a b : Int) : iI a * iI b = iI (a * b) := (Int32.ofInt_mul a b).symm
theorem iI_neg (a : Int) : -iI a = iI (-a) := (Int32.ofInt_neg a).symm
theorem iI_t {z : Int} (h1 : -2147483648 ≤ z) (h2 : z < 2147483648) : (iI z).toInt = z := Int32.toInt_ofInt_of_le (by omega) (by omega)
theorem iI_lt {a b : Int} (h : (-2147483648 ≤ a ∧ a < 2147483648) ∧ (-2147483648 ≤ b ∧ b < 2147483648)) : iI a < iI b ↔ a < b := by
  rw [Int32.lt_iff_toInt_lt, iI_t h.1.1 h.1.2, iI_t h.2.1 h.2.2]
theorem iI_le {a b : Int} (h : (-2147483648 ≤ a ∧ a < 2147483648) ∧ (-2147483648 ≤ b ∧ b < 2147483648)) : iI a ≤ iI b ↔ a ≤ b := by
  rw [Int32.le_iff_toInt_le, iI_t h.1.1 h.1.2, iI_t h.2.1 h.2.2]
theorem iI_eq {a b : Int} (h : (-2147483648 ≤ a ∧ a < 2147483648) ∧ (-2147483648 ≤ b ∧ b < 2147483648)) : iI a = iI b ↔ a = b := by
  rw [← Int32.toInt_inj, iI_t h.1.1 h.1.2, iI_t h.2.1 h.2.2]
theorem iI_0 : (0 : Int32) = iI 0 := rfl
theorem iI_of (x : Int32) : x = iI x.toInt := (Int32.ofInt_toInt x).symm
theorem iI_rng (x : Int32) : -2147483648 ≤ x.toInt ∧ x.toInt < 2147483648 := ⟨by have := x.le_toInt; omega, by have := x.toInt_lt; omega⟩
theorem iI_cl {z : Int} (h1 : 0 ≤ z) (h2 : z < 2147483648) : (iI z).toNatClampNeg = z.toNat := Int32.toNatClampNeg_ofInt_of_le (by omega) (by omega)
theorem iI_in {z : Int} {n : Nat} (h1 : 0 ≤ z) (h2 : z < n) (h3 : z < 2147483648) : vp_in (iI z) n := by
  intro q
  rcases q with q | q
  · rw [iI_0, iI_lt ⟨⟨by omega, h3⟩, by decide⟩] at q
    omega
  · rw [iI_cl h1 h3] at q
    omega
theorem iI_nat (n : Nat) : Int32.ofNat n = iI (n : Int) := by
  apply Int32.toBitVec.inj
  simp [iI]
theorem iI_div {a b : Int} (ha : -2147483648 ≤ a ∧ a < 2147483648) (hb : 0 < b ∧ b < 2147483648) : iI a / iI b = iI (a.tdiv b) :=
  (Int32.ofInt_tdiv (by show (-2147483648 : Int) ≤ a; omega) (by show a ≤ (2147483647 : Int); omega) (by show (-2147483648 : Int) ≤ b; omega) (by show b ≤ (2147483647 : Int); omega)).symm
theorem iI_rem {a b : Int} (ha : -2147483648 ≤ a ∧ a < 2147483648) (hb : 0 < b ∧ b < 2147483648) : iI a - iI a / iI b * iI b = iI (a.tmod b) := by
  rw [iI_div ha hb, iI_mul, iI_sub, Int.tmod_def, Int.mul_comm]
end QNUM
section QCELL
/-- where the classes lie, and the arrays' classes: int, char, State, long -/
abbrev GG : Type := va_G × ClassId × ClassId × ClassId × ClassId
def gT (g : GG) : List (ClassId × FieldType) := [(g.2.1, .int), (g.2.2.1, .char), (g.2.2.2.1, .object "HingeNumbers$State"), (g.2.2.2.2, .long)]
def gI (g : GG) (n : Nat) (f : Nat → Int) : va_E := .inl (g.2.1, n, .inl (fun j => iI (f j)))
def gC (g : GG) (n : Nat) (f : Nat → Int) : va_E := .inl (g.2.2.1, n, .inl (fun j => iI (f j)))
def gR (g : GG) (n : Nat) (f : Nat → Option Nat) : va_E := .inl (g.2.2.2.1, n, .inr (.inr (.inr (.inr f))))
def gJ (g : GG) (n : Nat) (f : Nat → Int) : va_E := .inl (g.2.2.2.2, n, .inr (.inl (fun j => lI (f j))))
/-- a function with one place changed -/
def up {α : Type} (f : Nat → α) (k : Nat) (v : α) : Nat → α := fun j => if j = k then v else f j
theorem up_s {α : Type} {f : Nat → α} {k : Nat} {v : α} : up f k v k = v := if_pos rfl
theorem up_n {α : Type} {f : Nat → α} {k j : Nat} {v : α} (h : j ≠ k) : up f k v j = f j := if_neg h
theorem up_upd (f : Nat → Int) (k : Nat) (v : Int) : upd (fun j => iI (f j)) k (iI v) = fun j => iI (up f k v j) := by
  funext j
  by_cases h : j = k <;> simp [upd, up, h]
/-- the links across the nest -/
def nestW : List Cond := [.methodLinkNest RX8 38 yX10_put "HingeNumbers", .methodLinkNest RX8 34 yX10_at "HingeNumbers", .methodLinkNest RX4 81 yX10_functionOf "HingeNumbers", .methodLinkNest RX4 11 yX0_init "HingeNumbers", .methodLinkNest RX1 37 yX10_at "HingeNumbers", .methodLinkNest RX0 80 yX10_functionOf "HingeNumbers", .methodLinkNest RX0 65 yX10_put "HingeNumbers", .methodLinkNest RX0 61 yX10_at "HingeNumbers", .methodLinkNest RX0 39 yX3_init "HingeNumbers", .methodLinkNest RX10 9 yX9_init "HingeNumbers", .methodLinkNest RX10 25 yX2_init "HingeNumbers", .methodLinkNest RX10 18 yX4_init "HingeNumbers", .methodLinkNest RX10 150 yX5_ruleSlope "HingeNumbers", .methodLinkNest RX10 147 yX5_hingeSlope "HingeNumbers", .methodLinkNest RX10 143 yX5_value "HingeNumbers", .castable "[I" "java/lang/Cloneable"]
/-- the classes as the tables have them, and the nest's links -/
def gK (g : GG) (U : State) : Prop := va_K g.1 vwCl (gT g) U ∧ (∀ (k : Nat) (w : Cond), nestW[k]? = some w → va_Nw w U) ∧ va_AO "HingeNumbers$State" U
theorem nest_tab : ∀ w ∈ nestW, w.onTables = true := by
  intro w h
  simp only [nestW, List.mem_cons, List.not_mem_nil, or_false] at h
  rcases h with h | h | h | h | h | h | h | h | h | h | h | h | h | h | h | h <;> subst h <;> rfl
theorem nest_warm {s U : State} (hW : s.WarmedH U.vm) : ∀ w ∈ nestW, va_Nw w s → va_Nw w U := by
  intro w h
  simp only [nestW, List.mem_cons, List.not_mem_nil, or_false] at h
  rcases h with h | h | h | h | h | h | h | h | h | h | h | h | h | h | h | h <;> subst h <;> first | exact va_Nw.warmM hW | exact va_Nw.warmC hW
theorem gK.warm {g : GG} {s U : State} (h : gK g s) (hW : s.WarmedH U.vm) : gK g U := ⟨va_K.moved hW.alike h.1, fun k w hk => nest_warm hW w (List.mem_of_getElem? hk) (h.2.1 k w hk), h.2.2.moved hW.alike⟩
theorem gK.same {g : GG} {s U : State} (h : gK g s) (e : s.vm = U.vm) : gK g U := ⟨va_K.moved (u := s) (U := U) (by rw [e]; exact Vm.Alike.refl U.vm) h.1, fun k w hk => (h.2.1 k w hk).same (nest_tab w (List.mem_of_getElem? hk)) e, h.2.2.moved (by rw [e]; exact Vm.Alike.refl U.vm)⟩
/-- the world: its cells, apart, and what was not touched -/
def gW (g : GG) (A : Nat → Prop) (H0 H : Heap) (locs : List Loc) (ws : va_W) : Prop := va_P g.1 vwCl ws H ∧ va_D A ws ∧ va_S A H0 H locs
theorem sub_place {ws ws' : va_W} {is : List Nat} (hs : is.map (fun i => ws[i]?) = ws'.map some) {k : Nat} {q : Nat × va_E} (hk : ws'[k]? = some q) : ∃ i : Nat, is[k]? = some i ∧ ws[i]? = some q := by
  have h : (is.map (fun i => ws[i]?))[k]? = some (some q) := by rw [hs, List.getElem?_map, hk]; rfl
  rw [List.getElem?_map] at h
  cases hi : is[k]? with
  | none => rw [hi] at h; cases h
  | some i => rw [hi] at h; exact ⟨i, rfl, Option.some.inj h⟩
theorem subP {D : va_G} {cl : List vw_C} {ws ws' : va_W} {H : Heap} (h : va_P D cl ws H) (is : List Nat) (hs : is.map (fun i => ws[i]?) = ws'.map some) : va_P D cl ws' H := fun k q hk => by
  obtain ⟨i, -, hi⟩ := sub_place hs hk
  exact h i q hi
theorem gW.sub {g : GG} {A : Nat → Prop} {H0 H : Heap} {locs : List Loc} {ws ws' : va_W} (h : gW g A H0 H locs ws) (is : List Nat) (hn : va_nd is = true) (hs : is.map (fun i => ws[i]?) = ws'.map some) : gW g A H0 H locs ws' := ⟨subP h.1 is hs, h.2.1.sub is hn hs, h.2.2⟩
theorem gW.to {g : GG} {A : Nat → Prop} {H0 H : Heap} {locs : List Loc} {ws ws' : va_W} (h : gW g A H0 H locs ws) (e : ws = ws') : gW g A H0 H locs ws' := e ▸ h
end QCELL
section QMET
/-- a method that writes its world's cells, and may make new ones; X: what else of the heap it asks; Z: what its cells' places are not -/
def qPre (g : GG) (av : List Value) (ws : va_W) (Z : Nat → Prop) (X : Heap → Prop) (sz : Nat) : Array Value → State → Prop := va_Pc av (fun U => U.heap.size = sz ∧ va_P g.1 vwCl ws U.heap ∧ gK g U ∧ va_D Z ws ∧ X U.heap)
def qPost {S : Type} (g : GG) (res : S → Option Value) (w : S → va_W) (post : S → Prop) (A : Nat → Prop) : Array Value → State → Outcome → State → Prop := fun _ st oc t => (∃ u : S, post u ∧ oc = .returned (res u) ∧ va_P g.1 vwCl (w u) t.heap ∧ va_D A (w u)) ∧ va_F A st t
def qMet (l : Launch) (y : MethodName) (Ts : List Cond) (rm : Room) (g : GG) (av : List Value) (ws : va_W) (Z : Nat → Prop) (X : Heap → Prop) {S : Type} (res : S → Option Value) (w : S → va_W) (post : S → Prop) (mc ms : Nat) : Prop :=
  ∀ sz : Nat, Met l y Ts rm (qPre g av ws Z X sz) (qPost g res w post (va_A ws sz)) mc ms (va_A ws sz)
/-- a method that only reads -/
def qPreP (g : GG) (av : List Value) (ws : va_W) (X : Heap → Prop) : Array Value → State → Prop := va_Pc av (fun U => va_P g.1 vwCl ws U.heap ∧ gK g U ∧ X U.heap)
def qPostP (v : Option Value) : Array Value → State → Outcome → State → Prop := fun _ st oc t => oc = .returned v ∧ t.heap = st.heap
def qPure (l : Launch) (y : MethodName) (Ts : List Cond) (rm : Room) (g : GG) (av : List Value) (ws : va_W) (X : Heap → Prop) (v : Option Value) : Prop :=
  Met l y Ts rm (qPreP g av ws X) (qPostP v) 0 0 (fun _ => False)
theorem blind_qPre {g : GG} {av : List Value} {ws : va_W} {Z : Nat → Prop} {X : Heap → Prop} {sz : Nat} : FrameBlind (qPre g av ws Z X sz) := fun a U f mk q => by
  obtain ⟨q0, q1, qP, qK, qD, qX⟩ := q
  exact ⟨q0, q1, qP, qK.same rfl, qD, qX⟩
theorem blind_qPreP {g : GG} {av : List Value} {ws : va_W} {X : Heap → Prop} : FrameBlind (qPreP g av ws X) := fun a U f mk q => by
  obtain ⟨q0, qP, qK, qX⟩ := q
  exact ⟨q0, qP, qK.same rfl, qX⟩
variable {p : Program} {l : Launch} {e : Env} {R : Room} {s : State} {m : MethodId} {args : Array Value} {below : List Frame} {meth : Method} {c : Code} {H : Heap} {locs : List Loc} {cells slots : Nat} {Q : State → Prop}
variable {y : MethodName} {bytes cc : ByteArray} {maxL nL mc ms n index pc : Nat} {ret : Option FieldType} {wsY Ts : List Cond} {rm : Room} {own C host : String} {b : Addr} {As rest st0 : List Value} {ls : Array Slot} {a : Array Value}
variable {g : GG} {A0 : Nat → Prop} {ws wc wr : va_W} {Z : Nat → Prop} {X : Heap → Prop} {S : Type} {res : S → Option Value} {w : S → va_W} {post : S → Prop} {v : Option Value}
/-- behind a call that writes -/
theorem q_call (hr : va_Run p l e R s m args below meth c H locs cells slots mc ms (F0 m pc ls st0) rest (qPost g res w post (va_A wc H.size) a) (va_A wc H.size))
    (hW : gW g A0 s.heap H locs ws) (hA : ∀ q, s.heap.size ≤ q → A0 q) (isC isR : List Nat) (hC : isC.map (fun i => ws[i]?) = wc.map some) (hR : isR.map (fun i => ws[i]?) = wr.map some) (hn : va_nd isR = true) (hdis : ∀ i ∈ isR, i ∉ isC)
    (kk : ∀ (u : S) (H1 : Heap) (locs1 : List Loc), post u → gW g A0 s.heap H1 locs1 (wr ++ w u) → W p l e R s m args below meth c H1 locs1 (cells + mc) (slots + ms) Q (F0 m (pc + 3) ls ((res u).toList ++ rest))) : W p l e R s m args below meth c H locs cells slots Q (F0 m pc ls st0) := by
  intro T hT X9
  obtain ⟨v, st₀, t, T', L, h0, X', hL, e1, e2, ⟨⟨u, hp, hv, hP1, hD1⟩, hF⟩, st⟩ := hr T hT X9
  obtain ⟨hP, hD, hS⟩ := hW
  have hFr := va_free (wc := wc) hD hS hA isC hC
  obtain ⟨k1, k2, k3⟩ := vx_keep h0 e1 hS (fun q _ h => hFr q h) (fun q h => hFr q h) hL hF
  rw [e1] at k2
  obtain ⟨hPn, hDn⟩ := va_join (wr := wr) (w1 := w u) hP hD isC isR hC hR hn hdis k2 hFr hP1 hD1
  cases hv
  obtain ⟨t2, a1, b1⟩ := kk u T'.heap (locs ++ L) hp ⟨by rw [e1]; exact hPn, hDn, k3⟩ T' rfl X'
  exact ⟨t2, st t2 a1, b1⟩
/-- behind a call that only reads -/
theorem q_callP (hr : va_Run p l e R s m args below meth c H locs cells slots 0 0 (F0 m pc ls st0) rest (qPostP v a) (fun _ => False))
    (kk : W p l e R s m args below meth c H locs cells slots Q (F0 m (pc + 3) ls (v.toList ++ rest))) : W p l e R s m args below meth c H locs cells slots Q (F0 m pc ls st0) := by
  intro T hT X9
  obtain ⟨v1, st₀, t, T', L, h0, X', hL, e1, e2, ⟨hv, hh⟩, st⟩ := hr T hT X9
  cases hv
  obtain ⟨t2, a1, b1⟩ := kk T' (by rw [e1, hh, h0]) (Stand.forget X' (fun q h => (hL q h).elim))
  exact ⟨t2, st t2 a1, b1⟩
theorem q_preS (hK : gK g s) (hP : va_P g.1 vwCl wc H) (hD : va_D Z wc) (hX : X H) : PreS s H (qPre g As wc Z X H.size) As := ⟨blind_qPre, fun U hU hW => ⟨rfl, by rw [hU], by rw [hU]; exact hP, hK.warm hW, hD, by rw [hU]; exact hX⟩⟩
theorem q_preV (hK : gK g s) (hP : va_P g.1 vwCl wc H) (hD : va_D Z wc) (hX : X H) (hrec : ∃ cell : Cell, H[b]? = some cell ∧ cell.vm.isStatics = false ∧ s.vm.findClass C = some cell.cls) : PreV s H C b (qPre g (.ref b :: As) wc Z X H.size) As := ⟨blind_qPre, hrec, fun U hU hW => ⟨rfl, by rw [hU], by rw [hU]; exact hP, hK.warm hW, hD, by rw [hU]; exact hX⟩⟩
theorem q_prePS (hK : gK g s) (hP : va_P g.1 vwCl wc H) (hX : X H) : PreS s H (qPreP g As wc X) As := ⟨blind_qPreP, fun U hU hW => ⟨rfl, by rw [hU]; exact hP, hK.warm hW, by rw [hU]; exact hX⟩⟩
theorem q_prePV (hK : gK g s) (hP : va_P g.1 vwCl wc H) (hX : X H) (hrec : ∃ cell : Cell, H[b]? = some cell ∧ cell.vm.isStatics = false ∧ s.vm.findClass C = some cell.cls) : PreV s H C b (qPreP g (.ref b :: As) wc X) As := ⟨blind_qPreP, hrec, fun U hU hW => ⟨rfl, by rw [hU]; exact hP, hK.warm hW, by rw [hU]; exact hX⟩⟩
/-- a method's body, from its entry -/
theorem q_ofW {ws' : List Cond} {av : List Value} (hM : ∀ sz, va_D Z ws → va_D (va_A ws sz) ws) (hy : plainName y.cls = true) (hw : Ts = Cond.code y cc maxL ret :: ws') (hlen : (lg_sl av).length ≤ maxL)
    (body : ∀ (p : Program) (e : Env) (s : State) (m : MethodId) (args : Array Value) (below : List Frame) (meth : Method) (c : Code) (A : Nat → Prop) (ls : Array Slot), CallFix p m c cc maxL s args Ts y.cls → meth.sig.returnType = ret → meth.locks = false → meth.name = y.name → gK g s → (∀ q, s.heap.size ≤ q → A q) → A = va_A ws s.heap.size → gW g A s.heap s.heap [] ws → va_D Z ws → X s.heap → lv_has ls maxL (lv_args 0 av) →
      W p l e rm s m args below meth c s.heap [] 0 0 (MQ below (qPost g res w post A) args s mc ms A) (F0 m 0 ls [])) : qMet l y Ts rm g av ws Z X res w post mc ms := by
  intro sz
  refine Met.ofW (cc := cc) (maxL := maxL) (ret := ret) hy hw ?_
  intro p e s m args below meth c s₁ B hml hv
  obtain ⟨rfl, hsz, hP, hK, hD0, hX⟩ := hv
  subst hsz
  rw [lg_entry_eq]
  exact body p e s m _ below meth c _ _ ⟨B.exec, B.bytes, hml, findClass_of_methodNamed B.named, atoms_spec (ws := Ts) B.pre⟩ B.returns B.notSynchronized (name_of_methodNamed B.named B.method).1 hK (fun q h => Or.inr h) rfl ⟨hP, hM _ hD0, va_S.rf⟩ hD0 hX (lv_entry av hlen)
theorem q_ofP {ws' : List Cond} {av : List Value} (hy : plainName y.cls = true) (hw : Ts = Cond.code y cc maxL ret :: ws') (hlen : (lg_sl av).length ≤ maxL)
    (body : ∀ (p : Program) (e : Env) (s : State) (m : MethodId) (args : Array Value) (below : List Frame) (meth : Method) (c : Code) (ls : Array Slot), CallFix p m c cc maxL s args Ts y.cls → meth.sig.returnType = ret → meth.locks = false → gK g s → va_P g.1 vwCl ws s.heap → X s.heap → lv_has ls maxL (lv_args 0 av) →
      W p l e rm s m args below meth c s.heap [] 0 0 (MQ below (qPostP v) args s 0 0 (fun _ => False)) (F0 m 0 ls [])) : qPure l y Ts rm g av ws X v := by
  refine Met.ofW (cc := cc) (maxL := maxL) (ret := ret) hy hw ?_
  intro p e s m args below meth c s₁ B hml hv
  obtain ⟨rfl, hP, hK, hX⟩ := hv
  rw [lg_entry_eq]
  exact body p e s m _ below meth c _ ⟨B.exec, B.bytes, hml, findClass_of_methodNamed B.named, atoms_spec (ws := Ts) B.pre⟩ B.returns B.notSynchronized hK hP hX (lv_entry av hlen)
end QMET
end
section
/-! own layer: the kit's rows over integers and bundled worlds -/
section QROWS
variable {p : Program} {l : Launch} {e : Env} {R : Room} {s : State} {m : MethodId} {args : Array Value} {below : List Frame} {meth : Method} {c : Code} {H : Heap} {locs : List Loc} {cells slots : Nat} {Q : State → Prop}
variable {cc : ByteArray} {nL pc : Nat} {Ts : List Cond} {own : String} {ls : Array Slot} {rest : List Value}
theorem q_iadd (S0 : CallFix p m c cc nL s args Ts own) {a b : Int} (hdg : decode cc pc = .ok (.iadd, 1)) (k : W p l e R s m args below meth c H locs cells slots Q (F0 m (pc + 1) ls (.int (iI (a + b)) :: rest))) : W p l e R s m args below meth c H locs cells slots Q (F0 m pc ls (.int (iI b) :: .int (iI a) :: rest)) := lv_iadd S0.1 S0.2.1 hdg (by rw [iI_add]; exact k)
theorem q_isub (S0 : CallFix p m c cc nL s args Ts own) {a b : Int} (hdg : decode cc pc = .ok (.isub, 1)) (k : W p l e R s m args below meth c H locs cells slots Q (F0 m (pc + 1) ls (.int (iI (a - b)) :: rest))) : W p l e R s m args below meth c H locs cells slots Q (F0 m pc ls (.int (iI b) :: .int (iI a) :: rest)) := lv_isub S0.1 S0.2.1 hdg (by rw [iI_sub]; exact k)
theorem q_imul (S0 : CallFix p m c cc nL s args Ts own) {a b : Int} (hdg : decode cc pc = .ok (.imul, 1)) (k : W p l e R s m args below meth c H locs cells slots Q (F0 m (pc + 1) ls (.int (iI (a * b)) :: rest))) : W p l e R s m args below meth c H locs cells slots Q (F0 m pc ls (.int (iI b) :: .int (iI a) :: rest)) := lv_imul S0.1 S0.2.1 hdg (by rw [iI_mul]; exact k)
theorem q_ineg (S0 : CallFix p m c cc nL s args Ts own) {a : Int} (hdg : decode cc pc = .ok (.ineg, 1)) (k : W p l e R s m args below meth c H locs cells slots Q (F0 m (pc + 1) ls (.int (iI (-a)) :: rest))) : W p l e R s m args below meth c H locs cells slots Q (F0 m pc ls (.int (iI a) :: rest)) := lv_ineg S0.1 S0.2.1 hdg (by rw [iI_neg]; exact k)
theorem q_irem (S0 : CallFix p m c cc nL s args Ts own) {a b : Int} (ha : -2147483648 ≤ a ∧ a < 2147483648) (hb : 0 < b ∧ b < 2147483648) (hdg : decode cc pc = .ok (.irem, 1)) (k : W p l e R s m args below meth c H locs cells slots Q (F0 m (pc + 1) ls (.int (iI (a.tmod b)) :: rest))) : W p l e R s m args below meth c H locs cells slots Q (F0 m pc ls (.int (iI b) :: .int (iI a) :: rest)) := lv_irem S0.1 S0.2.1 hdg (by rw [iI_0, iI_eq ⟨⟨by omega, hb.2⟩, by decide⟩]; omega) (by rw [iI_rem ha hb]; exact k)
theorem q_idiv (S0 : CallFix p m c cc nL s args Ts own) {a b : Int} (ha : -2147483648 ≤ a ∧ a < 2147483648) (hb : 0 < b ∧ b < 2147483648) (hdg : decode cc pc = .ok (.idiv, 1)) (k : W p l e R s m args below meth c H locs cells slots Q (F0 m (pc + 1) ls (.int (iI (a.tdiv b)) :: rest))) : W p l e R s m args below meth c H locs cells slots Q (F0 m pc ls (.int (iI b) :: .int (iI a) :: rest)) := lv_idiv S0.1 S0.2.1 hdg (by rw [iI_0, iI_eq ⟨⟨by omega, hb.2⟩, by decide⟩]; omega) (by rw [iI_div ha hb]; exact k)
theorem bip_val {n : Int} (h : -128 ≤ n ∧ n < 128) : (Int8.ofInt n).toInt32 = iI n := by
  rw [← Int32.toInt_inj, iI_t (by omega) (by omega), Int8.toInt_toInt32, Int8.toInt_ofInt_of_le (by omega) (by omega)]
theorem sip_val {n : Int} (h : -32768 ≤ n ∧ n < 32768) : (Int16.ofInt n).toInt32 = iI n := by
  rw [← Int32.toInt_inj, iI_t (by omega) (by omega), Int16.toInt_toInt32, Int16.toInt_ofInt_of_le (by omega) (by omega)]
theorem q_iconst (S0 : CallFix p m c cc nL s args Ts own) {n : Int} (hdg : decode cc pc = .ok (.iconst n, 1)) (k : W p l e R s m args below meth c H locs cells slots Q (F0 m (pc + 1) ls (.int (iI n) :: rest))) : W p l e R s m args below meth c H locs cells slots Q (F0 m pc ls rest) := lv_iconst S0.1 S0.2.1 hdg rfl k
theorem q_bipush (S0 : CallFix p m c cc nL s args Ts own) {n : Int} (h : -128 ≤ n ∧ n < 128) (hdg : decode cc pc = .ok (.bipush n, 2)) (k : W p l e R s m args below meth c H locs cells slots Q (F0 m (pc + 2) ls (.int (iI n) :: rest))) : W p l e R s m args below meth c H locs cells slots Q (F0 m pc ls rest) := lv_bipush S0.1 S0.2.1 hdg (bip_val h) k
theorem q_sipush (S0 : CallFix p m c cc nL s args Ts own) {n : Int} (h : -32768 ≤ n ∧ n < 32768) (hdg : decode cc pc = .ok (.sipush n, 3)) (k : W p l e R s m args below meth c H locs cells slots Q (F0 m (pc + 3) ls (.int (iI n) :: rest))) : W p l e R s m args below meth c H locs cells slots Q (F0 m pc ls rest) := lv_sipush S0.1 S0.2.1 hdg (sip_val h) k
theorem q_iinc (S0 : CallFix p m c cc nL s args Ts own) {i k : Nat} {n a : Int} {lv lv' : List (Nat × Value)} (hdg : decode cc pc = .ok (.iinc i n, 3)) (h : lv_has ls nL lv) (hk : lv[k]? = some (i, .int (iI a))) (hn : i < nL) (hl : (i, Value.int (iI (a + n))) :: lv.filter (fun q => !(q.1 == i) && !(q.1 + 1 == i && q.2.category == 2)) = lv')
    (kk : ∀ ls' : Array Slot, lv_has ls' nL lv' → W p l e R s m args below meth c H locs cells slots Q (F0 m (pc + 3) ls' rest)) : W p l e R s m args below meth c H locs cells slots Q (F0 m pc ls rest) := lv_iinc S0.1 S0.2.1 hdg h hk (iI_add a n) hn hl kk
theorem q_top {v w : Value} (h : v = w) (k : W p l e R s m args below meth c H locs cells slots Q (F0 m pc ls (w :: rest))) : W p l e R s m args below meth c H locs cells slots Q (F0 m pc ls (v :: rest)) := h ▸ k
theorem q_topI {a b : Int} (h : a = b) (k : W p l e R s m args below meth c H locs cells slots Q (F0 m pc ls (.int (iI b) :: rest))) : W p l e R s m args below meth c H locs cells slots Q (F0 m pc ls (.int (iI a) :: rest)) := h ▸ k
theorem q_nm {a : Int} (k : ∀ z : Int, z = a → W p l e R s m args below meth c H locs cells slots Q (F0 m pc ls (.int (iI z) :: rest))) : W p l e R s m args below meth c H locs cells slots Q (F0 m pc ls (.int (iI a) :: rest)) := k a rfl
theorem q_icmp_eq (S0 : CallFix p m c cc nL s args Ts own) {a b : Int} (h : (-2147483648 ≤ a ∧ a < 2147483648) ∧ (-2147483648 ≤ b ∧ b < 2147483648)) {off : Int} {tgt : Nat} (hdg : decode cc pc = .ok (.if_icmp .eq off, 3)) (ht : (pc : Int) + off = (tgt : Int)) (kt : a = b → W p l e R s m args below meth c H locs cells slots Q (F0 m tgt ls rest)) (kf : ¬ a = b → W p l e R s m args below meth c H locs cells slots Q (F0 m (pc + 3) ls rest)) : W p l e R s m args below meth c H locs cells slots Q (F0 m pc ls (.int (iI b) :: .int (iI a) :: rest)) := lv_icmp_eq S0.1 S0.2.1 hdg ht (fun q => kt ((iI_eq h).mp q)) (fun q => kf (fun z => q ((iI_eq h).mpr z)))
theorem q_icmp_ne (S0 : CallFix p m c cc nL s args Ts own) {a b : Int} (h : (-2147483648 ≤ a ∧ a < 2147483648) ∧ (-2147483648 ≤ b ∧ b < 2147483648)) {off : Int} {tgt : Nat} (hdg : decode cc pc = .ok (.if_icmp .ne off, 3)) (ht : (pc : Int) + off = (tgt : Int)) (kt : ¬ a = b → W p l e R s m args below meth c H locs cells slots Q (F0 m tgt ls rest)) (kf : a = b → W p l e R s m args below meth c H locs cells slots Q (F0 m (pc + 3) ls rest)) : W p l e R s m args below meth c H locs cells slots Q (F0 m pc ls (.int (iI b) :: .int (iI a) :: rest)) := lv_icmp_ne S0.1 S0.2.1 hdg ht (fun q => kt (fun z => q ((iI_eq h).mpr z))) (fun q => kf ((iI_eq h).mp q))
theorem q_icmp_lt (S0 : CallFix p m c cc nL s args Ts own) {a b : Int} (h : (-2147483648 ≤ a ∧ a < 2147483648) ∧ (-2147483648 ≤ b ∧ b < 2147483648)) {off : Int} {tgt : Nat} (hdg : decode cc pc = .ok (.if_icmp .lt off, 3)) (ht : (pc : Int) + off = (tgt : Int)) (kt : a < b → W p l e R s m args below meth c H locs cells slots Q (F0 m tgt ls rest)) (kf : ¬ a < b → W p l e R s m args below meth c H locs cells slots Q (F0 m (pc + 3) ls rest)) : W p l e R s m args below meth c H locs cells slots Q (F0 m pc ls (.int (iI b) :: .int (iI a) :: rest)) := lv_icmp_lt S0.1 S0.2.1 hdg ht (fun q => kt ((iI_lt h).mp q)) (fun q => kf (fun z => q ((iI_lt h).mpr z)))
theorem q_icmp_ge (S0 : CallFix p m c cc nL s args Ts own) {a b : Int} (h : (-2147483648 ≤ a ∧ a < 2147483648) ∧ (-2147483648 ≤ b ∧ b < 2147483648)) {off : Int} {tgt : Nat} (hdg : decode cc pc = .ok (.if_icmp .ge off, 3)) (ht : (pc : Int) + off = (tgt : Int)) (kt : b ≤ a → W p l e R s m args below meth c H locs cells slots Q (F0 m tgt ls rest)) (kf : ¬ b ≤ a → W p l e R s m args below meth c H locs cells slots Q (F0 m (pc + 3) ls rest)) : W p l e R s m args below meth c H locs cells slots Q (F0 m pc ls (.int (iI b) :: .int (iI a) :: rest)) := lv_icmp_ge S0.1 S0.2.1 hdg ht (fun q => kt ((iI_le ⟨h.2, h.1⟩).mp q)) (fun q => kf (fun z => q ((iI_le ⟨h.2, h.1⟩).mpr z)))
theorem q_icmp_gt (S0 : CallFix p m c cc nL s args Ts own) {a b : Int} (h : (-2147483648 ≤ a ∧ a < 2147483648) ∧ (-2147483648 ≤ b ∧ b < 2147483648)) {off : Int} {tgt : Nat} (hdg : decode cc pc = .ok (.if_icmp .gt off, 3)) (ht : (pc : Int) + off = (tgt : Int)) (kt : b < a → W p l e R s m args below meth c H locs cells slots Q (F0 m tgt ls rest)) (kf : ¬ b < a → W p l e R s m args below meth c H locs cells slots Q (F0 m (pc + 3) ls rest)) : W p l e R s m args below meth c H locs cells slots Q (F0 m pc ls (.int (iI b) :: .int (iI a) :: rest)) := lv_icmp_gt S0.1 S0.2.1 hdg ht (fun q => kt ((iI_lt ⟨h.2, h.1⟩).mp q)) (fun q => kf (fun z => q ((iI_lt ⟨h.2, h.1⟩).mpr z)))
theorem q_icmp_le (S0 : CallFix p m c cc nL s args Ts own) {a b : Int} (h : (-2147483648 ≤ a ∧ a < 2147483648) ∧ (-2147483648 ≤ b ∧ b < 2147483648)) {off : Int} {tgt : Nat} (hdg : decode cc pc = .ok (.if_icmp .le off, 3)) (ht : (pc : Int) + off = (tgt : Int)) (kt : a ≤ b → W p l e R s m args below meth c H locs cells slots Q (F0 m tgt ls rest)) (kf : ¬ a ≤ b → W p l e R s m args below meth c H locs cells slots Q (F0 m (pc + 3) ls rest)) : W p l e R s m args below meth c H locs cells slots Q (F0 m pc ls (.int (iI b) :: .int (iI a) :: rest)) := lv_icmp_le S0.1 S0.2.1 hdg ht (fun q => kt ((iI_le h).mp q)) (fun q => kf (fun z => q ((iI_le h).mpr z)))
theorem q_if_eq (S0 : CallFix p m c cc nL s args Ts own) {a : Int} (h : -2147483648 ≤ a ∧ a < 2147483648) {off : Int} {tgt : Nat} (hdg : decode cc pc = .ok (.ifCond .eq off, 3)) (ht : (pc : Int) + off = (tgt : Int)) (kt : a = 0 → W p l e R s m args below meth c H locs cells slots Q (F0 m tgt ls rest)) (kf : ¬ a = 0 → W p l e R s m args below meth c H locs cells slots Q (F0 m (pc + 3) ls rest)) : W p l e R s m args below meth c H locs cells slots Q (F0 m pc ls (.int (iI a) :: rest)) := lv_if_eq S0.1 S0.2.1 hdg ht (fun q => kt ((iI_eq ⟨h, by decide⟩).mp q)) (fun q => kf (fun z => q ((iI_eq ⟨h, by decide⟩).mpr z)))
theorem q_if_ne (S0 : CallFix p m c cc nL s args Ts own) {a : Int} (h : -2147483648 ≤ a ∧ a < 2147483648) {off : Int} {tgt : Nat} (hdg : decode cc pc = .ok (.ifCond .ne off, 3)) (ht : (pc : Int) + off = (tgt : Int)) (kt : ¬ a = 0 → W p l e R s m args below meth c H locs cells slots Q (F0 m tgt ls rest)) (kf : a = 0 → W p l e R s m args below meth c H locs cells slots Q (F0 m (pc + 3) ls rest)) : W p l e R s m args below meth c H locs cells slots Q (F0 m pc ls (.int (iI a) :: rest)) := lv_if_ne S0.1 S0.2.1 hdg ht (fun q => kt (fun z => q ((iI_eq ⟨h, by decide⟩).mpr z))) (fun q => kf ((iI_eq ⟨h, by decide⟩).mp q))
theorem q_if_lt (S0 : CallFix p m c cc nL s args Ts own) {a : Int} (h : -2147483648 ≤ a ∧ a < 2147483648) {off : Int} {tgt : Nat} (hdg : decode cc pc = .ok (.ifCond .lt off, 3)) (ht : (pc : Int) + off = (tgt : Int)) (kt : a < 0 → W p l e R s m args below meth c H locs cells slots Q (F0 m tgt ls rest)) (kf : ¬ a < 0 → W p l e R s m args below meth c H locs cells slots Q (F0 m (pc + 3) ls rest)) : W p l e R s m args below meth c H locs cells slots Q (F0 m pc ls (.int (iI a) :: rest)) := lv_if_lt S0.1 S0.2.1 hdg ht (fun q => kt ((iI_lt ⟨h, by decide⟩).mp q)) (fun q => kf (fun z => q ((iI_lt ⟨h, by decide⟩).mpr z)))
theorem q_if_ge (S0 : CallFix p m c cc nL s args Ts own) {a : Int} (h : -2147483648 ≤ a ∧ a < 2147483648) {off : Int} {tgt : Nat} (hdg : decode cc pc = .ok (.ifCond .ge off, 3)) (ht : (pc : Int) + off = (tgt : Int)) (kt : 0 ≤ a → W p l e R s m args below meth c H locs cells slots Q (F0 m tgt ls rest)) (kf : ¬ 0 ≤ a → W p l e R s m args below meth c H locs cells slots Q (F0 m (pc + 3) ls rest)) : W p l e R s m args below meth c H locs cells slots Q (F0 m pc ls (.int (iI a) :: rest)) := lv_if_ge S0.1 S0.2.1 hdg ht (fun q => kt ((iI_le ⟨by decide, h⟩).mp q)) (fun q => kf (fun z => q ((iI_le ⟨by decide, h⟩).mpr z)))
theorem q_if_gt (S0 : CallFix p m c cc nL s args Ts own) {a : Int} (h : -2147483648 ≤ a ∧ a < 2147483648) {off : Int} {tgt : Nat} (hdg : decode cc pc = .ok (.ifCond .gt off, 3)) (ht : (pc : Int) + off = (tgt : Int)) (kt : 0 < a → W p l e R s m args below meth c H locs cells slots Q (F0 m tgt ls rest)) (kf : ¬ 0 < a → W p l e R s m args below meth c H locs cells slots Q (F0 m (pc + 3) ls rest)) : W p l e R s m args below meth c H locs cells slots Q (F0 m pc ls (.int (iI a) :: rest)) := lv_if_gt S0.1 S0.2.1 hdg ht (fun q => kt ((iI_lt ⟨by decide, h⟩).mp q)) (fun q => kf (fun z => q ((iI_lt ⟨by decide, h⟩).mpr z)))
theorem q_if_le (S0 : CallFix p m c cc nL s args Ts own) {a : Int} (h : -2147483648 ≤ a ∧ a < 2147483648) {off : Int} {tgt : Nat} (hdg : decode cc pc = .ok (.ifCond .le off, 3)) (ht : (pc : Int) + off = (tgt : Int)) (kt : a ≤ 0 → W p l e R s m args below meth c H locs cells slots Q (F0 m tgt ls rest)) (kf : ¬ a ≤ 0 → W p l e R s m args below meth c H locs cells slots Q (F0 m (pc + 3) ls rest)) : W p l e R s m args below meth c H locs cells slots Q (F0 m pc ls (.int (iI a) :: rest)) := lv_if_le S0.1 S0.2.1 hdg ht (fun q => kt ((iI_le ⟨h, by decide⟩).mp q)) (fun q => kf (fun z => q ((iI_le ⟨h, by decide⟩).mpr z)))
/-- a truth on the stack -/
theorem pI_rng (P : Prop) [Decidable P] : -2147483648 ≤ (if P then (1 : Int) else 0) ∧ (if P then (1 : Int) else 0) < 2147483648 := by split <;> decide
theorem q_if_eqP (S0 : CallFix p m c cc nL s args Ts own) {P : Prop} [Decidable P] {off : Int} {tgt : Nat} (hdg : decode cc pc = .ok (.ifCond .eq off, 3)) (ht : (pc : Int) + off = (tgt : Int)) (kt : ¬ P → W p l e R s m args below meth c H locs cells slots Q (F0 m tgt ls rest)) (kf : P → W p l e R s m args below meth c H locs cells slots Q (F0 m (pc + 3) ls rest)) : W p l e R s m args below meth c H locs cells slots Q (F0 m pc ls (.int (iI (if P then (1 : Int) else 0)) :: rest)) := q_if_eq S0 (pI_rng P) hdg ht (fun q => kt (fun h => by rw [if_pos h] at q; cases q)) (fun q => kf (Classical.byContradiction fun h => q (if_neg h)))
theorem q_if_neP (S0 : CallFix p m c cc nL s args Ts own) {P : Prop} [Decidable P] {off : Int} {tgt : Nat} (hdg : decode cc pc = .ok (.ifCond .ne off, 3)) (ht : (pc : Int) + off = (tgt : Int)) (kt : P → W p l e R s m args below meth c H locs cells slots Q (F0 m tgt ls rest)) (kf : ¬ P → W p l e R s m args below meth c H locs cells slots Q (F0 m (pc + 3) ls rest)) : W p l e R s m args below meth c H locs cells slots Q (F0 m pc ls (.int (iI (if P then (1 : Int) else 0)) :: rest)) := q_if_ne S0 (pI_rng P) hdg ht (fun q => kt (Classical.byContradiction fun h => q (if_neg h))) (fun q => kf (fun h => by rw [if_pos h] at q; cases q))
variable {g : GG} {A : Nat → Prop} {H0 : Heap} {ws : va_W} {a : Nat}
theorem q_get (S0 : CallFix p m c cc nL s args Ts own) (hK : gK g s) (hP : va_P g.1 vwCl ws H) {C : String} {T : u_T} {N ci index : Nat} (hin : ∀ w ∈ u_ws C T N, w ∈ Ts) (q0 : Nat) {fs : List Value} (he : ws[q0]? = some (a, .inr (ci, fs))) (hc : vwCl[ci]? = some (C, T, N)) (k : Nat) (hk : k < N) (hlink : Cond.fieldLink own index C (T k).2.1 (T k).2.2.1 ∈ Ts) (hsame : (T k).1 = C) {v : Value} (hv : fs[k]? = some v) (hdg : decode cc pc = .ok (.getfield index, 3)) (kk : W p l e R s m args below meth c H locs cells slots Q (F0 m (pc + 3) ls (v :: rest))) : W p l e R s m args below meth c H locs cells slots Q (F0 m pc ls (.ref a :: rest)) :=
  va_get (D := g.1) (cl := vwCl) (tys := gT g) S0.1 S0.2.1 S0.2.2.2.2 hin S0.2.2.2.1 hK.1 hP q0 he hc k hk (S0.2.2.2.2 _ hlink) (fun x h => by rw [← hsame]; exact h) hv hdg kk
theorem q_put (S0 : CallFix p m c cc nL s args Ts own) (hK : gK g s) (hW : gW g A H0 H locs ws) {C : String} {T : u_T} {N ci index : Nat} (hin : ∀ w ∈ u_ws C T N, w ∈ Ts) {ty : Nat → FieldType} (hty : ∀ k, k < N → parseFieldDescriptor (T k).2.2.1 = some (ty k)) (hnm : ∀ a, a < N → ∀ b, b < N → a ≠ b → (T a).2.1 ≠ (T b).2.1) (q0 : Nat) {fs : List Value} (he : ws[q0]? = some (a, .inr (ci, fs))) (hc : vwCl[ci]? = some (C, T, N)) (k : Nat) (hk : k < N) (hlink : Cond.fieldLink own index C (T k).2.1 (T k).2.2.1 ∈ Ts) (hsame : (T k).1 = C) (hfin : (T k).2.2.2 = false) {v : Value} (hn : narrow (ty k) v = v) (hfit : fits (ty k) v = true) (hl : k < fs.length) (hdg : decode cc pc = .ok (.putfield index, 3)) (kk : ∀ (H1 : Heap) (locs1 : List Loc), gW g A H0 H1 locs1 (ws.set q0 (a, .inr (ci, fs.set k v))) → W p l e R s m args below meth c H1 locs1 cells slots Q (F0 m (pc + 3) ls rest)) : W p l e R s m args below meth c H locs cells slots Q (F0 m pc ls (v :: .ref a :: rest)) :=
  va_put (D := g.1) (cl := vwCl) (tys := gT g) S0.1 S0.2.1 S0.2.2.2.2 hin ty hty hnm S0.2.2.2.1 hK.1 hW.1 hW.2.1 hW.2.2 q0 he hc k hk (S0.2.2.2.2 _ hlink) (fun x h => by rw [← hsame]; exact h) hfin (hty k hk) hn hfit hl hdg (fun H1 locs1 h1 h2 h3 => kk H1 locs1 ⟨h1, h2, h3⟩)
theorem q_putF (S0 : CallFix p m c cc nL s args Ts own) (hnme : meth.name = "<init>") (hK : gK g s) (hW : gW g A H0 H locs ws) {C : String} {T : u_T} {N ci index : Nat} (hin : ∀ w ∈ u_ws C T N, w ∈ Ts) {ty : Nat → FieldType} (hty : ∀ k, k < N → parseFieldDescriptor (T k).2.2.1 = some (ty k)) (hnm : ∀ a, a < N → ∀ b, b < N → a ≠ b → (T a).2.1 ≠ (T b).2.1) (q0 : Nat) {fs : List Value} (he : ws[q0]? = some (a, .inr (ci, fs))) (hc : vwCl[ci]? = some (C, T, N)) (k : Nat) (hk : k < N) (hlink : Cond.fieldLink own index C (T k).2.1 (T k).2.2.1 ∈ Ts) (hsame : (T k).1 = C) (hown : C = own) (hfin : (T k).2.2.2 = true) {v : Value} (hn : narrow (ty k) v = v) (hfit : fits (ty k) v = true) (hl : k < fs.length) (hdg : decode cc pc = .ok (.putfield index, 3)) (kk : ∀ (H1 : Heap) (locs1 : List Loc), gW g A H0 H1 locs1 (ws.set q0 (a, .inr (ci, fs.set k v))) → W p l e R s m args below meth c H1 locs1 cells slots Q (F0 m (pc + 3) ls rest)) : W p l e R s m args below meth c H locs cells slots Q (F0 m pc ls (v :: .ref a :: rest)) :=
  va_putF (D := g.1) (cl := vwCl) (tys := gT g) S0.1 S0.2.1 S0.2.2.2.2 hin ty hty hnm S0.2.2.2.1 hK.1 hW.1 hW.2.1 hW.2.2 q0 he hc k hk (S0.2.2.2.2 _ hlink) (fun x h => by rw [← hsame]; exact h) hfin hnme (hsame.trans hown) (hty k hk) hn hfit hl hdg (fun H1 locs1 h1 h2 h3 => kk H1 locs1 ⟨h1, h2, h3⟩)
theorem q_iald (S0 : CallFix p m c cc nL s args Ts own) (hK : gK g s) (hP : va_P g.1 vwCl ws H) (q0 : Nat) {n : Nat} {f : Nat → Int} (he : ws[q0]? = some (a, gI g n f)) {z : Int} (hz : 0 ≤ z ∧ z < n ∧ z < 2147483648) (hdg : decode cc pc = .ok (.iaload, 1)) (kk : W p l e R s m args below meth c H locs cells slots Q (F0 m (pc + 1) ls (.int (iI (f z.toNat)) :: rest))) : W p l e R s m args below meth c H locs cells slots Q (F0 m pc ls (.int (iI z) :: .ref a :: rest)) :=
  va_iald (D := g.1) (cl := vwCl) (tys := gT g) S0.1 S0.2.1 hK.1 hP q0 0 he rfl (iI_in hz.1 hz.2.1 hz.2.2) hdg (by rw [iI_cl hz.1 hz.2.2]; exact kk)
theorem q_cald (S0 : CallFix p m c cc nL s args Ts own) (hK : gK g s) (hP : va_P g.1 vwCl ws H) (q0 : Nat) {n : Nat} {f : Nat → Int} (he : ws[q0]? = some (a, gC g n f)) {z : Int} (hz : 0 ≤ z ∧ z < n ∧ z < 2147483648) (hdg : decode cc pc = .ok (.caload, 1)) (kk : W p l e R s m args below meth c H locs cells slots Q (F0 m (pc + 1) ls (.int (iI (f z.toNat)) :: rest))) : W p l e R s m args below meth c H locs cells slots Q (F0 m pc ls (.int (iI z) :: .ref a :: rest)) :=
  va_cald (D := g.1) (cl := vwCl) (tys := gT g) S0.1 S0.2.1 hK.1 hP q0 1 he rfl (iI_in hz.1 hz.2.1 hz.2.2) hdg (by rw [iI_cl hz.1 hz.2.2]; exact kk)
theorem q_lald (S0 : CallFix p m c cc nL s args Ts own) (hK : gK g s) (hP : va_P g.1 vwCl ws H) (q0 : Nat) {n : Nat} {f : Nat → Int} (he : ws[q0]? = some (a, gJ g n f)) {z : Int} (hz : 0 ≤ z ∧ z < n ∧ z < 2147483648) (hdg : decode cc pc = .ok (.laload, 1)) (kk : W p l e R s m args below meth c H locs cells slots Q (F0 m (pc + 1) ls (.long (lI (f z.toNat)) :: rest))) : W p l e R s m args below meth c H locs cells slots Q (F0 m pc ls (.int (iI z) :: .ref a :: rest)) :=
  va_lald (D := g.1) (cl := vwCl) (tys := gT g) S0.1 S0.2.1 hK.1 hP q0 3 he rfl (iI_in hz.1 hz.2.1 hz.2.2) hdg (by rw [iI_cl hz.1 hz.2.2]; exact kk)
theorem q_aald (S0 : CallFix p m c cc nL s args Ts own) (hK : gK g s) (hP : va_P g.1 vwCl ws H) (q0 : Nat) {n : Nat} {f : Nat → Option Nat} (he : ws[q0]? = some (a, gR g n f)) {z : Int} (hz : 0 ≤ z ∧ z < n ∧ z < 2147483648) (hdg : decode cc pc = .ok (.aaload, 1)) (kk : W p l e R s m args below meth c H locs cells slots Q (F0 m (pc + 1) ls (va_rf (f z.toNat) :: rest))) : W p l e R s m args below meth c H locs cells slots Q (F0 m pc ls (.int (iI z) :: .ref a :: rest)) :=
  va_aldq (D := g.1) (cl := vwCl) (tys := gT g) S0.1 S0.2.1 hK.1 hP q0 2 he rfl (iI_in hz.1 hz.2.1 hz.2.2) hdg (by rw [iI_cl hz.1 hz.2.2]; exact kk)
theorem q_iast (S0 : CallFix p m c cc nL s args Ts own) (hK : gK g s) (hW : gW g A H0 H locs ws) (q0 : Nat) {n : Nat} {f : Nat → Int} (he : ws[q0]? = some (a, gI g n f)) {z x : Int} (hz : 0 ≤ z ∧ z < n ∧ z < 2147483648) (hdg : decode cc pc = .ok (.iastore, 1)) (kk : ∀ (H1 : Heap) (locs1 : List Loc), gW g A H0 H1 locs1 (ws.set q0 (a, gI g n (up f z.toNat x))) → W p l e R s m args below meth c H1 locs1 cells slots Q (F0 m (pc + 1) ls rest)) : W p l e R s m args below meth c H locs cells slots Q (F0 m pc ls (.int (iI x) :: .int (iI z) :: .ref a :: rest)) :=
  va_iast (D := g.1) (cl := vwCl) (tys := gT g) S0.1 S0.2.1 hK.1 hW.1 hW.2.1 hW.2.2 q0 0 he rfl (iI_in hz.1 hz.2.1 hz.2.2) hdg (fun H1 locs1 h1 h2 h3 => kk H1 locs1 (by
    rw [iI_cl hz.1 hz.2.2, up_upd] at h1 h2
    exact ⟨h1, h2, h3⟩))
theorem nar_char {x : Int} (hx : 0 ≤ x ∧ x < 65536) : vp_nar .char (iI x) = iI x := by
  obtain ⟨n, rfl⟩ := Int.eq_ofNat_of_zero_le hx.1
  have h := (pk_charN (q := n) (by omega)).1
  have e : iI (n : Int) = nI n := (iI_nat n).symm
  show vp_nar .char (iI (n : Int)) = iI (n : Int)
  rw [e]
  unfold vp_nar
  rw [h]
theorem q_cast (S0 : CallFix p m c cc nL s args Ts own) (hK : gK g s) (hW : gW g A H0 H locs ws) (q0 : Nat) {n : Nat} {f : Nat → Int} (he : ws[q0]? = some (a, gC g n f)) {z x : Int} (hz : 0 ≤ z ∧ z < n ∧ z < 2147483648) (hx : 0 ≤ x ∧ x < 65536) (hdg : decode cc pc = .ok (.castore, 1)) (kk : ∀ (H1 : Heap) (locs1 : List Loc), gW g A H0 H1 locs1 (ws.set q0 (a, gC g n (up f z.toNat x))) → W p l e R s m args below meth c H1 locs1 cells slots Q (F0 m (pc + 1) ls rest)) : W p l e R s m args below meth c H locs cells slots Q (F0 m pc ls (.int (iI x) :: .int (iI z) :: .ref a :: rest)) :=
  va_cast (D := g.1) (cl := vwCl) (tys := gT g) S0.1 S0.2.1 hK.1 hW.1 hW.2.1 hW.2.2 q0 1 he rfl (iI_in hz.1 hz.2.1 hz.2.2) hdg (fun H1 locs1 h1 h2 h3 => kk H1 locs1 (by
    rw [iI_cl hz.1 hz.2.2, nar_char hx, up_upd] at h1 h2
    exact ⟨h1, h2, h3⟩))
theorem up_updL (f : Nat → Int) (k : Nat) (v : Int) : vp_updL (fun j => lI (f j)) k (lI v) = fun j => lI (up f k v j) := by
  funext j
  by_cases h : j = k <;> simp [vp_updL, up, h]
theorem q_last (S0 : CallFix p m c cc nL s args Ts own) (hK : gK g s) (hW : gW g A H0 H locs ws) (q0 : Nat) {n : Nat} {f : Nat → Int} (he : ws[q0]? = some (a, gJ g n f)) {z x : Int} (hz : 0 ≤ z ∧ z < n ∧ z < 2147483648) (hdg : decode cc pc = .ok (.lastore, 1)) (kk : ∀ (H1 : Heap) (locs1 : List Loc), gW g A H0 H1 locs1 (ws.set q0 (a, gJ g n (up f z.toNat x))) → W p l e R s m args below meth c H1 locs1 cells slots Q (F0 m (pc + 1) ls rest)) : W p l e R s m args below meth c H locs cells slots Q (F0 m pc ls (.long (lI x) :: .int (iI z) :: .ref a :: rest)) :=
  va_last (D := g.1) (cl := vwCl) (tys := gT g) S0.1 S0.2.1 hK.1 hW.1 hW.2.1 hW.2.2 q0 3 he rfl (iI_in hz.1 hz.2.1 hz.2.2) hdg (fun H1 locs1 h1 h2 h3 => kk H1 locs1 (by
    rw [iI_cl hz.1 hz.2.2, up_updL] at h1 h2
    exact ⟨h1, h2, h3⟩))
theorem q_alen (S0 : CallFix p m c cc nL s args Ts own) (hK : gK g s) (hP : va_P g.1 vwCl ws H) (q0 : Nat) {n : Nat} {f : Nat → Int} (he : ws[q0]? = some (a, gI g n f)) {z : Int} (hz : (n : Int) = z) (hdg : decode cc pc = .ok (.arraylength, 1)) (kk : W p l e R s m args below meth c H locs cells slots Q (F0 m (pc + 1) ls (.int (iI z) :: rest))) : W p l e R s m args below meth c H locs cells slots Q (F0 m pc ls (.ref a :: rest)) :=
  va_alen (D := g.1) (cl := vwCl) (tys := gT g) S0.1 S0.2.1 hK.1 hP q0 0 (x := (n, .inl (fun j => iI (f j)))) he rfl (by rw [← hz]; exact iI_nat n) hdg kk
theorem q_clen (S0 : CallFix p m c cc nL s args Ts own) (hK : gK g s) (hP : va_P g.1 vwCl ws H) (q0 : Nat) {n : Nat} {f : Nat → Int} (he : ws[q0]? = some (a, gC g n f)) {z : Int} (hz : (n : Int) = z) (hdg : decode cc pc = .ok (.arraylength, 1)) (kk : W p l e R s m args below meth c H locs cells slots Q (F0 m (pc + 1) ls (.int (iI z) :: rest))) : W p l e R s m args below meth c H locs cells slots Q (F0 m pc ls (.ref a :: rest)) :=
  va_alen (D := g.1) (cl := vwCl) (tys := gT g) S0.1 S0.2.1 hK.1 hP q0 1 (x := (n, .inl (fun j => iI (f j)))) he rfl (by rw [← hz]; exact iI_nat n) hdg kk
theorem q_rlen (S0 : CallFix p m c cc nL s args Ts own) (hK : gK g s) (hP : va_P g.1 vwCl ws H) (q0 : Nat) {n : Nat} {f : Nat → Option Nat} (he : ws[q0]? = some (a, gR g n f)) {z : Int} (hz : (n : Int) = z) (hdg : decode cc pc = .ok (.arraylength, 1)) (kk : W p l e R s m args below meth c H locs cells slots Q (F0 m (pc + 1) ls (.int (iI z) :: rest))) : W p l e R s m args below meth c H locs cells slots Q (F0 m pc ls (.ref a :: rest)) :=
  va_alen (D := g.1) (cl := vwCl) (tys := gT g) S0.1 S0.2.1 hK.1 hP q0 2 (x := (n, .inr (.inr (.inr (.inr f))))) he rfl (by rw [← hz]; exact iI_nat n) hdg kk
theorem q_new (S0 : CallFix p m c cc nL s args Ts own) (hK : gK g s) (hA : ∀ q, H0.size ≤ q → A q) (hW : gW g A H0 H locs ws) {C : String} {T : u_T} {N ci index : Nat} (hin : ∀ w ∈ u_ws C T N, w ∈ Ts) {ty : Nat → FieldType} (hty : ∀ k, k < N → parseFieldDescriptor (T k).2.2.1 = some (ty k)) (hcl : Cond.classLink own index C ∈ Ts) (hinst : Cond.instantiable C N ∈ Ts) (hini : Cond.initialized C ∈ Ts) (hc : vwCl[ci]? = some (C, T, N)) {fs : List Value} (hfs : ∀ j, j < N → defaultValue (ty j) = vp_V fs j) (hcells : cells + 1 ≤ R.cells) (hslots : slots + N ≤ R.slots) (hdg : decode cc pc = .ok (.new index, 3))
    (kk : ∀ (q : Nat) (H1 : Heap), gW g A H0 H1 locs (ws ++ [(q, .inr (ci, fs))]) → W p l e R s m args below meth c H1 locs (cells + 1) (slots + N) Q (F0 m (pc + 3) ls (.ref q :: rest))) : W p l e R s m args below meth c H locs cells slots Q (F0 m pc ls rest) :=
  va_new (D := g.1) (cl := vwCl) (tys := gT g) S0.1 S0.2.1 S0.2.2.2.2 hin ty hty S0.2.2.2.1 (S0.2.2.2.2 _ hcl) (S0.2.2.2.2 _ hinst) (S0.2.2.2.2 _ hini) hK.1 hW.1 hW.2.1 hW.2.2 hA hc hfs hcells hslots hdg (fun q H1 h1 h2 h3 => kk q H1 ⟨h1, h2, h3⟩)
end QROWS
end
section
/-! own layer: new arrays, calls, returns -/
section QCALLS
variable {p : Program} {l : Launch} {e : Env} {R : Room} {s : State} {m : MethodId} {args : Array Value} {below : List Frame} {meth : Method} {c : Code} {H : Heap} {locs : List Loc} {cells slots : Nat} {Q : State → Prop}
variable {y : MethodName} {bytes cc : ByteArray} {maxL nL mc ms n index pc : Nat} {ret : Option FieldType} {wsY ws' Ts : List Cond} {rm : Room} {own C host : String} {b : Addr} {As rest st0 : List Value} {ls : Array Slot}
variable {g : GG} {A A0 : Nat → Prop} {H0 : Heap} {ws wc wr : va_W} {Z : Nat → Prop} {X : Heap → Prop} {S : Type} {res : S → Option Value} {w : S → va_W} {post : S → Prop} {v : Option Value}
theorem va_RA_same {U : State} {a b : ClassId} {ty : FieldType} (h1 : va_RA U a ty) (h2 : va_RA U b ty) : a = b := by
  cases ty with
  | object C =>
    obtain ⟨_, _, _, _, _, h1⟩ := h1
    obtain ⟨_, _, _, _, _, h2⟩ := h2
    exact Option.some.inj (h1.symm.trans h2)
  | _ => exact Option.some.inj (Eq.trans (Eq.symm h1) h2)
theorem q_newI (S0 : CallFix p m c cc nL s args Ts own) (hK : gK g s) (hA : ∀ q, H0.size ≤ q → A q) (hW : gW g A H0 H locs ws) (harr : Cond.arrayClass .int ∈ Ts) {N : Nat} {z : Int} (hz : z = N ∧ z < 100000) (hcells : cells + 1 ≤ R.cells) (hslots : slots + N ≤ R.slots) (hdg : decode cc pc = .ok (.newarray .int, 2))
    (kk : ∀ (q : Nat) (H1 : Heap), gW g A H0 H1 locs (ws ++ [(q, gI g N (fun _ => 0))]) → W p l e R s m args below meth c H1 locs (cells + 1) (slots + N) Q (F0 m (pc + 2) ls (.ref q :: rest))) : W p l e R s m args below meth c H locs cells slots Q (F0 m pc ls (.int (iI z) :: rest)) := by
  obtain ⟨rfl, hz⟩ := hz
  refine va_newa (D := g.1) (cl := vwCl) (tys := gT g) (atype := .int) (ty := .int) S0.1 S0.2.1 (S0.2.2.2.2 _ harr) rfl hK.1 hW.1 hW.2.1 hW.2.2 hA (N' := N) (a0 := (N, .inl (fun _ => iI 0))) (fun cA => rfl) ?_ (by rw [iI_cl (by omega) (by omega)]; omega) (by show N * 4 ≤ 536870912; omega) hcells hslots hdg ?_
  · rw [iI_0, iI_lt ⟨⟨by omega, by omega⟩, by decide⟩]; omega
  · intro q cA H1 hK1 hP1 hD1 hS1
    have e : cA = g.2.1 := va_RA_same (hK1.2 4 (cA, .int) rfl).2 (hK.1.2 0 _ rfl).2
    subst e
    exact kk q H1 ⟨hP1, hD1, hS1⟩
theorem q_newC (S0 : CallFix p m c cc nL s args Ts own) (hK : gK g s) (hA : ∀ q, H0.size ≤ q → A q) (hW : gW g A H0 H locs ws) (harr : Cond.arrayClass .char ∈ Ts) {N : Nat} {z : Int} (hz : z = N ∧ z < 100000) (hcells : cells + 1 ≤ R.cells) (hslots : slots + N ≤ R.slots) (hdg : decode cc pc = .ok (.newarray .char, 2))
    (kk : ∀ (q : Nat) (H1 : Heap), gW g A H0 H1 locs (ws ++ [(q, gC g N (fun _ => 0))]) → W p l e R s m args below meth c H1 locs (cells + 1) (slots + N) Q (F0 m (pc + 2) ls (.ref q :: rest))) : W p l e R s m args below meth c H locs cells slots Q (F0 m pc ls (.int (iI z) :: rest)) := by
  obtain ⟨rfl, hz⟩ := hz
  refine va_newa (D := g.1) (cl := vwCl) (tys := gT g) (atype := .char) (ty := .char) S0.1 S0.2.1 (S0.2.2.2.2 _ harr) rfl hK.1 hW.1 hW.2.1 hW.2.2 hA (N' := N) (a0 := (N, .inl (fun _ => iI 0))) (fun cA => rfl) ?_ (by rw [iI_cl (by omega) (by omega)]; omega) (by show N * 2 ≤ 536870912; omega) hcells hslots hdg ?_
  · rw [iI_0, iI_lt ⟨⟨by omega, by omega⟩, by decide⟩]; omega
  · intro q cA H1 hK1 hP1 hD1 hS1
    have e : cA = g.2.2.1 := va_RA_same (hK1.2 4 (cA, .char) rfl).2 (hK.1.2 1 _ rfl).2
    subst e
    exact kk q H1 ⟨hP1, hD1, hS1⟩
theorem q_newJ (S0 : CallFix p m c cc nL s args Ts own) (hK : gK g s) (hA : ∀ q, H0.size ≤ q → A q) (hW : gW g A H0 H locs ws) (harr : Cond.arrayClass .long ∈ Ts) {N : Nat} {z : Int} (hz : z = N ∧ z < 100000) (hcells : cells + 1 ≤ R.cells) (hslots : slots + N ≤ R.slots) (hdg : decode cc pc = .ok (.newarray .long, 2))
    (kk : ∀ (q : Nat) (H1 : Heap), gW g A H0 H1 locs (ws ++ [(q, gJ g N (fun _ => 0))]) → W p l e R s m args below meth c H1 locs (cells + 1) (slots + N) Q (F0 m (pc + 2) ls (.ref q :: rest))) : W p l e R s m args below meth c H locs cells slots Q (F0 m pc ls (.int (iI z) :: rest)) := by
  obtain ⟨rfl, hz⟩ := hz
  refine va_newa (D := g.1) (cl := vwCl) (tys := gT g) (atype := .long) (ty := .long) S0.1 S0.2.1 (S0.2.2.2.2 _ harr) rfl hK.1 hW.1 hW.2.1 hW.2.2 hA (N' := N) (a0 := (N, .inr (.inl (fun _ => lI 0)))) (fun cA => rfl) ?_ (by rw [iI_cl (by omega) (by omega)]; omega) (by show N * 8 ≤ 536870912; omega) hcells hslots hdg ?_
  · rw [iI_0, iI_lt ⟨⟨by omega, by omega⟩, by decide⟩]; omega
  · intro q cA H1 hK1 hP1 hD1 hS1
    have e : cA = g.2.2.2.2 := va_RA_same (hK1.2 4 (cA, .long) rfl).2 (hK.1.2 3 _ rfl).2
    subst e
    exact kk q H1 ⟨hP1, hD1, hS1⟩
theorem q_newR (S0 : CallFix p m c cc nL s args Ts own) (hK : gK g s) (hA : ∀ q, H0.size ≤ q → A q) (hW : gW g A H0 H locs ws) (hcl : Cond.classLink own index "HingeNumbers$State" ∈ Ts) {N : Nat} {z : Int} (hz : z = N ∧ z < 100000) (hcells : cells + 1 ≤ R.cells) (hslots : slots + N ≤ R.slots) (hdg : decode cc pc = .ok (.anewarray index, 3))
    (kk : ∀ (q : Nat) (H1 : Heap), gW g A H0 H1 locs (ws ++ [(q, gR g N (fun _ => none))]) → W p l e R s m args below meth c H1 locs (cells + 1) (slots + N) Q (F0 m (pc + 3) ls (.ref q :: rest))) : W p l e R s m args below meth c H locs cells slots Q (F0 m pc ls (.int (iI z) :: rest)) := by
  obtain ⟨rfl, hz⟩ := hz
  refine va_newq (D := g.1) (cl := vwCl) (tys := gT g) S0.1 S0.2.1 S0.2.2.2.1 (S0.2.2.2.2 _ hcl) hK.2.2 hK.1 hW.1 hW.2.1 hW.2.2 hA (N' := N) ?_ (by rw [iI_cl (by omega) (by omega)]; omega) (by show N * 4 ≤ 536870912; omega) hcells hslots hdg ?_
  · rw [iI_0, iI_lt ⟨⟨by omega, by omega⟩, by decide⟩]; omega
  · intro q cA H1 hK1 hP1 hD1 hS1
    have e : cA = g.2.2.2.1 := va_RA_same (hK1.2 4 (cA, .object "HingeNumbers$State") rfl).2 (hK.1.2 2 _ rfl).2
    subst e
    exact kk q H1 ⟨hP1, hD1, hS1⟩
theorem q_obj (S0 : CallFix p m c cc nL s args Ts own) {a : Nat} (h1 : Cond.methodLink own index objectInit ∈ Ts) (h2 : Cond.instanceMethod objectInit ∈ Ts) (h3 : Cond.code objectInit ⟨#[0xb1]⟩ 1 none ∈ Ts) (hsize : ls.size = nL) (hdg : decode cc pc = .ok (.invokespecial index, 3)) (hfr : 1 ≤ R.frames) (hlo : 2 * (F0 m pc ls (.ref a :: rest)).monitorRoom + (rest.map fun v => v.category).sum + 12 ≤ R.locals)
    (kk : W p l e R s m args below meth c H locs cells slots Q (F0 m (pc + 3) ls rest)) : W p l e R s m args below meth c H locs cells slots Q (F0 m pc ls (.ref a :: rest)) :=
  W.objInit S0.1 S0.2.1 S0.2.2.2.1 (S0.2.2.2.2 _ h1) (S0.2.2.2.2 _ h2) (S0.2.2.2.2 _ h3) rfl (hsize.trans S0.2.2.1.symm) rfl hdg hfr hlo kk
theorem hD_of (hD : va_D A0 ws) (isC : List Nat) (hC : isC.map (fun i => ws[i]?) = wc.map some) (hnC : va_nd isC = true) (hZ : ∀ q, A0 q → Z q) : va_D Z wc := (hD.sub isC hnC hC).weaken (fun _ q _ h => hZ _ h)
/-- calls of methods that write: virtual, virtual across the nest, static, static across the nest, constructor, constructor across the nest -/
theorem q_cV (S0 : CallFix p m c cc nL s args Ts own) (hK : gK g s) (hA : ∀ q, s.heap.size ≤ q → A0 q) (hW : gW g A0 s.heap H locs ws) (hM : qMet l y wsY rm g (.ref b :: As) wc Z X res w post mc ms) (hG : GoodIn Ts (wsV own index C y wsY)) (hw : wsY = Cond.code y bytes maxL ret :: ws') (hrc : rm.cells = mc) (hrs : rm.slots = ms)
    (hd : y.cls = C ∧ y.cls ≠ "java/lang/invoke/MethodHandle" ∧ y.cls ≠ "java/lang/invoke/VarHandle" ∧ (parseMethodDescriptor y.desc).map (fun d => d.parameters.length) = some n) (hR : rm.frames + 1 ≤ R.frames ∧ 8 + (maxL + 11) + rm.locals ≤ R.locals)
    (isC isR : List Nat) (hC : isC.map (fun i => ws[i]?) = wc.map some) (hnC : va_nd isC = true) (hR2 : isR.map (fun i => ws[i]?) = wr.map some) (hn : va_nd isR = true) (hdis : ∀ i ∈ isR, i ∉ isC)
    (hrec : ∃ cell : Cell, H[b]? = some cell ∧ cell.vm.isStatics = false ∧ s.vm.findClass C = some cell.cls) (hZ : ∀ q, A0 q → Z q) (hX : X H) (hst : st0 = As.reverse ++ .ref b :: rest) (hnA : As.length = n) (hsize : ls.size = nL) (hcat : (rest.map fun v => v.category).sum ≤ 8) (hf : cells + mc ≤ R.cells ∧ slots + ms ≤ R.slots) (hdg : decode cc pc = .ok (.invokevirtual index, 3))
    (kk : ∀ (u : S) (H1 : Heap) (locs1 : List Loc), post u → gW g A0 s.heap H1 locs1 (wr ++ w u) → W p l e R s m args below meth c H1 locs1 (cells + mc) (slots + ms) Q (F0 m (pc + 3) ls ((res u).toList ++ rest))) : W p l e R s m args below meth c H locs cells slots Q (F0 m pc ls st0) :=
  q_call (va_runV S0 (hM H.size) (cwV n S0.2.2.2.2 hG hw hrc hrs hd hR) (q_preV hK (subP hW.1 isC hC) (hD_of hW.2.1 isC hC hnC hZ) hX hrec) rfl hnA hsize hst (lv_room hcat) hdg hf) hW hA isC isR hC hR2 hn hdis kk
theorem q_cVN (S0 : CallFix p m c cc nL s args Ts own) (hK : gK g s) (hA : ∀ q, s.heap.size ≤ q → A0 q) (hW : gW g A0 s.heap H locs ws) (hM : qMet l y wsY rm g (.ref b :: As) wc Z X res w post mc ms) (hG : GoodIn Ts wsY) (hw : wsY = Cond.code y bytes maxL ret :: ws') (hrc : rm.cells = mc) (hrs : rm.slots = ms) (k0 : Nat) (hl : nestW[k0]? = some (.methodLinkNest own index y host)) (hini : Cond.initialized y.cls ∈ Ts) (hin : Cond.instanceMethod y ∈ Ts) (hse : Cond.selects C y y ∈ Ts)
    (hd : y.cls ≠ "java/lang/invoke/MethodHandle" ∧ y.cls ≠ "java/lang/invoke/VarHandle" ∧ (parseMethodDescriptor y.desc).map (fun d => d.parameters.length) = some n) (hR : rm.frames + 1 ≤ R.frames ∧ 8 + (maxL + 11) + rm.locals ≤ R.locals)
    (isC isR : List Nat) (hC : isC.map (fun i => ws[i]?) = wc.map some) (hnC : va_nd isC = true) (hR2 : isR.map (fun i => ws[i]?) = wr.map some) (hn : va_nd isR = true) (hdis : ∀ i ∈ isR, i ∉ isC)
    (hrec : ∃ cell : Cell, H[b]? = some cell ∧ cell.vm.isStatics = false ∧ s.vm.findClass C = some cell.cls) (hZ : ∀ q, A0 q → Z q) (hX : X H) (hst : st0 = As.reverse ++ .ref b :: rest) (hnA : As.length = n) (hsize : ls.size = nL) (hcat : (rest.map fun v => v.category).sum ≤ 8) (hf : cells + mc ≤ R.cells ∧ slots + ms ≤ R.slots) (hdg : decode cc pc = .ok (.invokevirtual index, 3))
    (kk : ∀ (u : S) (H1 : Heap) (locs1 : List Loc), post u → gW g A0 s.heap H1 locs1 (wr ++ w u) → W p l e R s m args below meth c H1 locs1 (cells + mc) (slots + ms) Q (F0 m (pc + 3) ls ((res u).toList ++ rest))) : W p l e R s m args below meth c H locs cells slots Q (F0 m pc ls st0) :=
  q_call (va_runVN S0 (hM H.size) ⟨va_cnB n S0.2.2.2.2 hG hw hrc hrs (hK.2.1 k0 _ hl) (S0.2.2.2.2 _ hini) hd hR, S0.2.2.2.2 _ hin, S0.2.2.2.2 _ hse⟩ (q_preV hK (subP hW.1 isC hC) (hD_of hW.2.1 isC hC hnC hZ) hX hrec) rfl hnA hsize hst (lv_room hcat) hdg hf) hW hA isC isR hC hR2 hn hdis kk
theorem q_cS (S0 : CallFix p m c cc nL s args Ts own) (hK : gK g s) (hA : ∀ q, s.heap.size ≤ q → A0 q) (hW : gW g A0 s.heap H locs ws) (hM : qMet l y wsY rm g As wc Z X res w post mc ms) (hG : GoodIn Ts (va_wsS own index y wsY)) (hw : wsY = Cond.code y bytes maxL ret :: ws') (hrc : rm.cells = mc) (hrs : rm.slots = ms)
    (hd : y.cls ≠ "java/lang/invoke/MethodHandle" ∧ y.cls ≠ "java/lang/invoke/VarHandle" ∧ (parseMethodDescriptor y.desc).map (fun d => d.parameters.length) = some n) (hR : rm.frames + 1 ≤ R.frames ∧ 8 + (maxL + 11) + rm.locals ≤ R.locals)
    (isC isR : List Nat) (hC : isC.map (fun i => ws[i]?) = wc.map some) (hnC : va_nd isC = true) (hR2 : isR.map (fun i => ws[i]?) = wr.map some) (hn : va_nd isR = true) (hdis : ∀ i ∈ isR, i ∉ isC)
    (hZ : ∀ q, A0 q → Z q) (hX : X H) (hst : st0 = As.reverse ++ rest) (hnA : As.length = n) (hsize : ls.size = nL) (hcat : (rest.map fun v => v.category).sum ≤ 8) (hf : cells + mc ≤ R.cells ∧ slots + ms ≤ R.slots) (hdg : decode cc pc = .ok (.invokestatic index, 3))
    (kk : ∀ (u : S) (H1 : Heap) (locs1 : List Loc), post u → gW g A0 s.heap H1 locs1 (wr ++ w u) → W p l e R s m args below meth c H1 locs1 (cells + mc) (slots + ms) Q (F0 m (pc + 3) ls ((res u).toList ++ rest))) : W p l e R s m args below meth c H locs cells slots Q (F0 m pc ls st0) :=
  q_call (va_runS S0 (hM H.size) (va_cwS n S0.2.2.2.2 hG hw hrc hrs hd hR) (q_preS hK (subP hW.1 isC hC) (hD_of hW.2.1 isC hC hnC hZ) hX) rfl hnA hsize hst (lv_room hcat) hdg hf) hW hA isC isR hC hR2 hn hdis kk
theorem q_cSN (S0 : CallFix p m c cc nL s args Ts own) (hK : gK g s) (hA : ∀ q, s.heap.size ≤ q → A0 q) (hW : gW g A0 s.heap H locs ws) (hM : qMet l y wsY rm g As wc Z X res w post mc ms) (hG : GoodIn Ts wsY) (hw : wsY = Cond.code y bytes maxL ret :: ws') (hrc : rm.cells = mc) (hrs : rm.slots = ms) (k0 : Nat) (hl : nestW[k0]? = some (.methodLinkNest own index y host)) (hini : Cond.initialized y.cls ∈ Ts) (hin : Cond.static y ∈ Ts)
    (hd : y.cls ≠ "java/lang/invoke/MethodHandle" ∧ y.cls ≠ "java/lang/invoke/VarHandle" ∧ (parseMethodDescriptor y.desc).map (fun d => d.parameters.length) = some n) (hR : rm.frames + 1 ≤ R.frames ∧ 8 + (maxL + 11) + rm.locals ≤ R.locals)
    (isC isR : List Nat) (hC : isC.map (fun i => ws[i]?) = wc.map some) (hnC : va_nd isC = true) (hR2 : isR.map (fun i => ws[i]?) = wr.map some) (hn : va_nd isR = true) (hdis : ∀ i ∈ isR, i ∉ isC)
    (hZ : ∀ q, A0 q → Z q) (hX : X H) (hst : st0 = As.reverse ++ rest) (hnA : As.length = n) (hsize : ls.size = nL) (hcat : (rest.map fun v => v.category).sum ≤ 8) (hf : cells + mc ≤ R.cells ∧ slots + ms ≤ R.slots) (hdg : decode cc pc = .ok (.invokestatic index, 3))
    (kk : ∀ (u : S) (H1 : Heap) (locs1 : List Loc), post u → gW g A0 s.heap H1 locs1 (wr ++ w u) → W p l e R s m args below meth c H1 locs1 (cells + mc) (slots + ms) Q (F0 m (pc + 3) ls ((res u).toList ++ rest))) : W p l e R s m args below meth c H locs cells slots Q (F0 m pc ls st0) :=
  q_call (va_runSN S0 (hM H.size) ⟨va_cnB n S0.2.2.2.2 hG hw hrc hrs (hK.2.1 k0 _ hl) (S0.2.2.2.2 _ hini) hd hR, S0.2.2.2.2 _ hin, trivial⟩ (q_preS hK (subP hW.1 isC hC) (hD_of hW.2.1 isC hC hnC hZ) hX) rfl hnA hsize hst (lv_room hcat) hdg hf) hW hA isC isR hC hR2 hn hdis kk
theorem q_cI (S0 : CallFix p m c cc nL s args Ts own) (hK : gK g s) (hA : ∀ q, s.heap.size ≤ q → A0 q) (hW : gW g A0 s.heap H locs ws) (hM : qMet l y wsY rm g (.ref b :: As) wc Z X res w post mc ms) (hG : GoodIn Ts wsY) (hw : wsY = Cond.code y bytes maxL none :: ws') (hrc : rm.cells = mc) (hrs : rm.slots = ms) (hl : Cond.methodLink own index y ∈ Ts) (hini : Cond.initialized y.cls ∈ Ts) (hin : Cond.instanceMethod y ∈ Ts) (hy1 : y.name = "<init>")
    (hd : y.cls ≠ "java/lang/invoke/MethodHandle" ∧ y.cls ≠ "java/lang/invoke/VarHandle" ∧ (parseMethodDescriptor y.desc).map (fun d => d.parameters.length) = some n) (hR : rm.frames + 1 ≤ R.frames ∧ 8 + (maxL + 11) + rm.locals ≤ R.locals)
    (isC isR : List Nat) (hC : isC.map (fun i => ws[i]?) = wc.map some) (hnC : va_nd isC = true) (hR2 : isR.map (fun i => ws[i]?) = wr.map some) (hn : va_nd isR = true) (hdis : ∀ i ∈ isR, i ∉ isC)
    (hZ : ∀ q, A0 q → Z q) (hX : X H) (hst : st0 = As.reverse ++ .ref b :: rest) (hnA : As.length = n) (hsize : ls.size = nL) (hcat : (rest.map fun v => v.category).sum ≤ 8) (hf : cells + mc ≤ R.cells ∧ slots + ms ≤ R.slots) (hdg : decode cc pc = .ok (.invokespecial index, 3))
    (kk : ∀ (u : S) (H1 : Heap) (locs1 : List Loc), post u → gW g A0 s.heap H1 locs1 (wr ++ w u) → W p l e R s m args below meth c H1 locs1 (cells + mc) (slots + ms) Q (F0 m (pc + 3) ls ((res u).toList ++ rest))) : W p l e R s m args below meth c H locs cells slots Q (F0 m pc ls st0) :=
  q_call (va_runI S0 (hM H.size) (cwI n S0.2.2.2.2 hG hw hrc hrs (S0.2.2.2.2 _ hini) (S0.2.2.2.2 _ hl) (S0.2.2.2.2 _ hin) hy1 hd hR) (q_preS hK (subP hW.1 isC hC) (hD_of hW.2.1 isC hC hnC hZ) hX) rfl hnA hsize hst (lv_room hcat) hdg hf) hW hA isC isR hC hR2 hn hdis kk
theorem q_cIN (S0 : CallFix p m c cc nL s args Ts own) (hK : gK g s) (hA : ∀ q, s.heap.size ≤ q → A0 q) (hW : gW g A0 s.heap H locs ws) (hM : qMet l y wsY rm g (.ref b :: As) wc Z X res w post mc ms) (hG : GoodIn Ts wsY) (hw : wsY = Cond.code y bytes maxL none :: ws') (hrc : rm.cells = mc) (hrs : rm.slots = ms) (k0 : Nat) (hl : nestW[k0]? = some (.methodLinkNest own index y host)) (hini : Cond.initialized y.cls ∈ Ts) (hin : Cond.instanceMethod y ∈ Ts) (hy1 : y.name = "<init>")
    (hd : y.cls ≠ "java/lang/invoke/MethodHandle" ∧ y.cls ≠ "java/lang/invoke/VarHandle" ∧ (parseMethodDescriptor y.desc).map (fun d => d.parameters.length) = some n) (hR : rm.frames + 1 ≤ R.frames ∧ 8 + (maxL + 11) + rm.locals ≤ R.locals)
    (isC isR : List Nat) (hC : isC.map (fun i => ws[i]?) = wc.map some) (hnC : va_nd isC = true) (hR2 : isR.map (fun i => ws[i]?) = wr.map some) (hn : va_nd isR = true) (hdis : ∀ i ∈ isR, i ∉ isC)
    (hZ : ∀ q, A0 q → Z q) (hX : X H) (hst : st0 = As.reverse ++ .ref b :: rest) (hnA : As.length = n) (hsize : ls.size = nL) (hcat : (rest.map fun v => v.category).sum ≤ 8) (hf : cells + mc ≤ R.cells ∧ slots + ms ≤ R.slots) (hdg : decode cc pc = .ok (.invokespecial index, 3))
    (kk : ∀ (u : S) (H1 : Heap) (locs1 : List Loc), post u → gW g A0 s.heap H1 locs1 (wr ++ w u) → W p l e R s m args below meth c H1 locs1 (cells + mc) (slots + ms) Q (F0 m (pc + 3) ls ((res u).toList ++ rest))) : W p l e R s m args below meth c H locs cells slots Q (F0 m pc ls st0) :=
  q_call (va_runIN S0 (hM H.size) ⟨va_cnB n S0.2.2.2.2 hG hw hrc hrs (hK.2.1 k0 _ hl) (S0.2.2.2.2 _ hini) hd hR, hy1, S0.2.2.2.2 _ hin⟩ (q_preS hK (subP hW.1 isC hC) (hD_of hW.2.1 isC hC hnC hZ) hX) rfl hnA hsize hst (lv_room hcat) hdg hf) hW hA isC isR hC hR2 hn hdis kk
/-- calls of methods that only read -/
theorem q_pV (S0 : CallFix p m c cc nL s args Ts own) (hK : gK g s) (hM : qPure l y wsY rm g (.ref b :: As) wc X v) (hP : va_P g.1 vwCl wc H) (hX : X H) (hG : GoodIn Ts (wsV own index C y wsY)) (hw : wsY = Cond.code y bytes maxL ret :: ws') (hrc : rm.cells = 0) (hrs : rm.slots = 0)
    (hd : y.cls = C ∧ y.cls ≠ "java/lang/invoke/MethodHandle" ∧ y.cls ≠ "java/lang/invoke/VarHandle" ∧ (parseMethodDescriptor y.desc).map (fun d => d.parameters.length) = some n) (hR : rm.frames + 1 ≤ R.frames ∧ 8 + (maxL + 11) + rm.locals ≤ R.locals)
    (hrec : ∃ cell : Cell, H[b]? = some cell ∧ cell.vm.isStatics = false ∧ s.vm.findClass C = some cell.cls) (hst : st0 = As.reverse ++ .ref b :: rest) (hnA : As.length = n) (hsize : ls.size = nL) (hcat : (rest.map fun v => v.category).sum ≤ 8) (hf : cells + 0 ≤ R.cells ∧ slots + 0 ≤ R.slots) (hdg : decode cc pc = .ok (.invokevirtual index, 3))
    (kk : W p l e R s m args below meth c H locs cells slots Q (F0 m (pc + 3) ls (v.toList ++ rest))) : W p l e R s m args below meth c H locs cells slots Q (F0 m pc ls st0) :=
  q_callP (va_runV S0 hM (cwV n S0.2.2.2.2 hG hw hrc hrs hd hR) (q_prePV hK hP hX hrec) rfl hnA hsize hst (lv_room hcat) hdg hf) kk
theorem q_pVN (S0 : CallFix p m c cc nL s args Ts own) (hK : gK g s) (hM : qPure l y wsY rm g (.ref b :: As) wc X v) (hP : va_P g.1 vwCl wc H) (hX : X H) (hG : GoodIn Ts wsY) (hw : wsY = Cond.code y bytes maxL ret :: ws') (hrc : rm.cells = 0) (hrs : rm.slots = 0) (k0 : Nat) (hl : nestW[k0]? = some (.methodLinkNest own index y host)) (hini : Cond.initialized y.cls ∈ Ts) (hin : Cond.instanceMethod y ∈ Ts) (hse : Cond.selects C y y ∈ Ts)
    (hd : y.cls ≠ "java/lang/invoke/MethodHandle" ∧ y.cls ≠ "java/lang/invoke/VarHandle" ∧ (parseMethodDescriptor y.desc).map (fun d => d.parameters.length) = some n) (hR : rm.frames + 1 ≤ R.frames ∧ 8 + (maxL + 11) + rm.locals ≤ R.locals)
    (hrec : ∃ cell : Cell, H[b]? = some cell ∧ cell.vm.isStatics = false ∧ s.vm.findClass C = some cell.cls) (hst : st0 = As.reverse ++ .ref b :: rest) (hnA : As.length = n) (hsize : ls.size = nL) (hcat : (rest.map fun v => v.category).sum ≤ 8) (hf : cells + 0 ≤ R.cells ∧ slots + 0 ≤ R.slots) (hdg : decode cc pc = .ok (.invokevirtual index, 3))
    (kk : W p l e R s m args below meth c H locs cells slots Q (F0 m (pc + 3) ls (v.toList ++ rest))) : W p l e R s m args below meth c H locs cells slots Q (F0 m pc ls st0) :=
  q_callP (va_runVN S0 hM ⟨va_cnB n S0.2.2.2.2 hG hw hrc hrs (hK.2.1 k0 _ hl) (S0.2.2.2.2 _ hini) hd hR, S0.2.2.2.2 _ hin, S0.2.2.2.2 _ hse⟩ (q_prePV hK hP hX hrec) rfl hnA hsize hst (lv_room hcat) hdg hf) kk
theorem q_pS (S0 : CallFix p m c cc nL s args Ts own) (hK : gK g s) (hM : qPure l y wsY rm g As wc X v) (hP : va_P g.1 vwCl wc H) (hX : X H) (hG : GoodIn Ts (va_wsS own index y wsY)) (hw : wsY = Cond.code y bytes maxL ret :: ws') (hrc : rm.cells = 0) (hrs : rm.slots = 0)
    (hd : y.cls ≠ "java/lang/invoke/MethodHandle" ∧ y.cls ≠ "java/lang/invoke/VarHandle" ∧ (parseMethodDescriptor y.desc).map (fun d => d.parameters.length) = some n) (hR : rm.frames + 1 ≤ R.frames ∧ 8 + (maxL + 11) + rm.locals ≤ R.locals)
    (hst : st0 = As.reverse ++ rest) (hnA : As.length = n) (hsize : ls.size = nL) (hcat : (rest.map fun v => v.category).sum ≤ 8) (hf : cells + 0 ≤ R.cells ∧ slots + 0 ≤ R.slots) (hdg : decode cc pc = .ok (.invokestatic index, 3))
    (kk : W p l e R s m args below meth c H locs cells slots Q (F0 m (pc + 3) ls (v.toList ++ rest))) : W p l e R s m args below meth c H locs cells slots Q (F0 m pc ls st0) :=
  q_callP (va_runS S0 hM (va_cwS n S0.2.2.2.2 hG hw hrc hrs hd hR) (q_prePS hK hP hX) rfl hnA hsize hst (lv_room hcat) hdg hf) kk
theorem q_pSN (S0 : CallFix p m c cc nL s args Ts own) (hK : gK g s) (hM : qPure l y wsY rm g As wc X v) (hP : va_P g.1 vwCl wc H) (hX : X H) (hG : GoodIn Ts wsY) (hw : wsY = Cond.code y bytes maxL ret :: ws') (hrc : rm.cells = 0) (hrs : rm.slots = 0) (k0 : Nat) (hl : nestW[k0]? = some (.methodLinkNest own index y host)) (hini : Cond.initialized y.cls ∈ Ts) (hin : Cond.static y ∈ Ts)
    (hd : y.cls ≠ "java/lang/invoke/MethodHandle" ∧ y.cls ≠ "java/lang/invoke/VarHandle" ∧ (parseMethodDescriptor y.desc).map (fun d => d.parameters.length) = some n) (hR : rm.frames + 1 ≤ R.frames ∧ 8 + (maxL + 11) + rm.locals ≤ R.locals)
    (hst : st0 = As.reverse ++ rest) (hnA : As.length = n) (hsize : ls.size = nL) (hcat : (rest.map fun v => v.category).sum ≤ 8) (hf : cells + 0 ≤ R.cells ∧ slots + 0 ≤ R.slots) (hdg : decode cc pc = .ok (.invokestatic index, 3))
    (kk : W p l e R s m args below meth c H locs cells slots Q (F0 m (pc + 3) ls (v.toList ++ rest))) : W p l e R s m args below meth c H locs cells slots Q (F0 m pc ls st0) :=
  q_callP (va_runSN S0 hM ⟨va_cnB n S0.2.2.2.2 hG hw hrc hrs (hK.2.1 k0 _ hl) (S0.2.2.2.2 _ hini) hd hR, S0.2.2.2.2 _ hin, trivial⟩ (q_prePS hK hP hX) rfl hnA hsize hst (lv_room hcat) hdg hf) kk
theorem q_recv (hK : gK g s) (hP : va_P g.1 vwCl ws H) {a ci q0 : Nat} {q : vw_C} {fs : List Value} (hc : vwCl[ci]? = some q) (he : ws[q0]? = some (a, .inr (ci, fs))) : ∃ cell : Cell, H[a]? = some cell ∧ cell.vm.isStatics = false ∧ s.vm.findClass q.1 = some cell.cls := va_recv hK.1 hP hc he
/-- ends of methods that write -/
theorem q_iret (S0 : CallFix p m c cc nL s args Ts own) (hr : meth.sig.returnType = some .int) (hlocks : meth.locks = false) (u : S) (hp : post u) {x : Int32} (hres : res u = some (.int x)) (hW : gW g A s.heap H locs (w u)) (hc : cells ≤ mc) (hs : slots ≤ ms) (hdg : decode cc pc = .ok (.ireturn, 1)) : W p l e R s m args below meth c H locs cells slots (MQ below (qPost g res w post A) args s mc ms A) (F0 m pc ls [.int x]) :=
  W.widen hc hs (W.iret S0.1 S0.2.1 hr (fun t ht _ => ⟨⟨u, hp, by rw [hres], by rw [ht]; exact hW.1, hW.2.1⟩, hW.2.2.F ht⟩) hW.2.2.2.2 hdg hlocks)
theorem q_zret (S0 : CallFix p m c cc nL s args Ts own) (hr : meth.sig.returnType = some .boolean) (hlocks : meth.locks = false) (u : S) (hp : post u) {z : Int} (hz : z = 0 ∨ z = 1) (hres : res u = some (.int (iI z))) (hW : gW g A s.heap H locs (w u)) (hc : cells ≤ mc) (hs : slots ≤ ms) (hdg : decode cc pc = .ok (.ireturn, 1)) : W p l e R s m args below meth c H locs cells slots (MQ below (qPost g res w post A) args s mc ms A) (F0 m pc ls [.int (iI z)]) :=
  W.widen hc hs (W.zret S0.1 S0.2.1 hr (by rcases hz with rfl | rfl <;> rfl) (fun t ht _ => ⟨⟨u, hp, by rw [hres], by rw [ht]; exact hW.1, hW.2.1⟩, hW.2.2.F ht⟩) hW.2.2.2.2 hdg hlocks)
theorem q_vret (S0 : CallFix p m c cc nL s args Ts own) (hr : meth.sig.returnType = none) (hlocks : meth.locks = false) (u : S) (hp : post u) (hres : res u = none) (hW : gW g A s.heap H locs (w u)) (hc : cells ≤ mc) (hs : slots ≤ ms) (hdg : decode cc pc = .ok (.return_, 1)) : W p l e R s m args below meth c H locs cells slots (MQ below (qPost g res w post A) args s mc ms A) (F0 m pc ls []) :=
  W.widen hc hs (W.vret S0.1 S0.2.1 hr (fun t ht _ => ⟨⟨u, hp, by rw [hres], by rw [ht]; exact hW.1, hW.2.1⟩, hW.2.2.F ht⟩) hW.2.2.2.2 hdg hlocks)
theorem q_aret (S0 : CallFix p m c cc nL s args Ts own) {rt : FieldType} (hr : meth.sig.returnType = some rt) (hrt : (∃ n, rt = .object n) ∨ ∃ t, rt = .array t) (hlocks : meth.locks = false) (u : S) (hp : post u) {x : Value} (hx : x = .null ∨ ∃ a, x = .ref a) (hres : res u = some x) (hW : gW g A s.heap H locs (w u)) (hc : cells ≤ mc) (hs : slots ≤ ms) (hdg : decode cc pc = .ok (.areturn, 1)) : W p l e R s m args below meth c H locs cells slots (MQ below (qPost g res w post A) args s mc ms A) (F0 m pc ls [x]) :=
  W.widen hc hs (W.aret S0.1 S0.2.1 hr hrt hx (fun t ht _ => ⟨⟨u, hp, by rw [hres], by rw [ht]; exact hW.1, hW.2.1⟩, hW.2.2.F ht⟩) hW.2.2.2.2 hdg hlocks)
/-- ends of methods that only read -/
theorem qp_iret (S0 : CallFix p m c cc nL s args Ts own) (hr : meth.sig.returnType = some .int) (hlocks : meth.locks = false) {x : Int32} (hres : v = some (.int x)) (hdg : decode cc pc = .ok (.ireturn, 1)) : W p l e R s m args below meth c s.heap [] 0 0 (MQ below (qPostP v) args s 0 0 (fun _ => False)) (F0 m pc ls [.int x]) :=
  W.iret S0.1 S0.2.1 hr (fun t ht _ => ⟨by rw [hres], ht⟩) (fun q h => by cases h) hdg hlocks
theorem qp_zret (S0 : CallFix p m c cc nL s args Ts own) (hr : meth.sig.returnType = some .boolean) (hlocks : meth.locks = false) {z : Int} (hz : z = 0 ∨ z = 1) (hres : v = some (.int (iI z))) (hdg : decode cc pc = .ok (.ireturn, 1)) : W p l e R s m args below meth c s.heap [] 0 0 (MQ below (qPostP v) args s 0 0 (fun _ => False)) (F0 m pc ls [.int (iI z)]) :=
  W.zret S0.1 S0.2.1 hr (by rcases hz with rfl | rfl <;> rfl) (fun t ht _ => ⟨by rw [hres], ht⟩) (fun q h => by cases h) hdg hlocks
theorem qp_cret (S0 : CallFix p m c cc nL s args Ts own) (hr : meth.sig.returnType = some .char) (hlocks : meth.locks = false) {z : Int} (hz : 0 ≤ z ∧ z < 65536) (hres : v = some (.int (iI z))) (hdg : decode cc pc = .ok (.ireturn, 1)) : W p l e R s m args below meth c s.heap [] 0 0 (MQ below (qPostP v) args s 0 0 (fun _ => False)) (F0 m pc ls [.int (iI z)]) :=
  W.zret S0.1 S0.2.1 hr (by
    obtain ⟨n, rfl⟩ := Int.eq_ofNat_of_zero_le hz.1
    have h := (pk_charN (q := n) (by omega)).1
    rw [show nI n = iI (n : Int) from iI_nat n] at h
    exact h) (fun t ht _ => ⟨by rw [hres], ht⟩) (fun q h => by cases h) hdg hlocks
theorem qp_aret (S0 : CallFix p m c cc nL s args Ts own) {rt : FieldType} (hr : meth.sig.returnType = some rt) (hrt : (∃ n, rt = .object n) ∨ ∃ t, rt = .array t) (hlocks : meth.locks = false) {x : Value} (hx : x = .null ∨ ∃ a, x = .ref a) (hres : v = some x) (hdg : decode cc pc = .ok (.areturn, 1)) : W p l e R s m args below meth c s.heap [] 0 0 (MQ below (qPostP v) args s 0 0 (fun _ => False)) (F0 m pc ls [x]) :=
  W.aret S0.1 S0.2.1 hr hrt hx (fun t ht _ => ⟨by rw [hres], ht⟩) (fun q h => by cases h) hdg hlocks
end QCALLS
end
section
/-! own layer: joins, loops, the library's max and min -/
section QLOOPS
variable {p : Program} {l : Launch} {e : Env} {R : Room} {s : State} {m : MethodId} {args : Array Value} {below : List Frame} {meth : Method} {c : Code} {H : Heap} {locs : List Loc} {cells slots : Nat} {Q : State → Prop}
variable {cc : ByteArray} {nL pc index : Nat} {Ts : List Cond} {own : String} {ls : Array Slot} {rest : List Value} {g : GG} {A : Nat → Prop} {H0 : Heap}
theorem q_cut {α : Type} (F : α → JFrame) (P : α → Prop) (cont : ∀ z, P z → W p l e R s m args below meth c H locs cells slots Q (F z)) {gf : JFrame} (br : (∀ z, P z → W p l e R s m args below meth c H locs cells slots Q (F z)) → W p l e R s m args below meth c H locs cells slots Q gf) : W p l e R s m args below meth c H locs cells slots Q gf := br cont
/-- a join behind which world and locals may differ -/
theorem q_cutW {α : Type} (pc1 : Nat) (st1 : α → List Value) (P : α → Prop) (Wd : α → va_W) (Lv : α → List (Nat × Value)) (cont : ∀ a, P a → ∀ (H : Heap) (locs : List Loc) (ls : Array Slot), gW g A H0 H locs (Wd a) → lv_has ls nL (Lv a) → W p l e R s m args below meth c H locs cells slots Q (F0 m pc1 ls (st1 a))) {gf : JFrame} (br : (∀ a, P a → ∀ (H : Heap) (locs : List Loc) (ls : Array Slot), gW g A H0 H locs (Wd a) → lv_has ls nL (Lv a) → W p l e R s m args below meth c H locs cells slots Q (F0 m pc1 ls (st1 a))) → W p l e R s m args below meth c H locs cells slots Q gf) : W p l e R s m args below meth c H locs cells slots Q gf := br cont
theorem q_loop {α : Type} (Inv : α → Prop) (meas : α → Nat) (Wd : α → va_W) (Lv : α → List (Nat × Value))
    (step : ∀ a, Inv a → (∀ (b : α) (H : Heap) (locs : List Loc) (ls : Array Slot), Inv b → meas b < meas a → gW g A H0 H locs (Wd b) → lv_has ls nL (Lv b) → W p l e R s m args below meth c H locs cells slots Q (F0 m pc ls [])) → ∀ (H : Heap) (locs : List Loc) (ls : Array Slot), gW g A H0 H locs (Wd a) → lv_has ls nL (Lv a) → W p l e R s m args below meth c H locs cells slots Q (F0 m pc ls []))
    (a : α) (h0 : Inv a) (hW : gW g A H0 H locs (Wd a)) (hl : lv_has ls nL (Lv a)) : W p l e R s m args below meth c H locs cells slots Q (F0 m pc ls []) := by
  have key : ∀ (n : Nat) (a : α), meas a < n → Inv a → ∀ (H : Heap) (locs : List Loc) (ls : Array Slot), gW g A H0 H locs (Wd a) → lv_has ls nL (Lv a) → W p l e R s m args below meth c H locs cells slots Q (F0 m pc ls []) := by
    intro n
    induction n with
    | zero => intro a h; exact absurd h (Nat.not_lt_zero _)
    | succ n ih => intro a h hi; exact step a hi (fun b H locs ls hb hm hw hl => ih b (by omega) hb H locs ls hw hl)
  exact key (meas a + 1) a (Nat.lt_succ_self _) h0 H locs ls hW hl
theorem q_loopP {α : Type} (Inv : α → Prop) (meas : α → Nat) (Lv : α → List (Nat × Value))
    (step : ∀ a, Inv a → (∀ (b : α) (ls : Array Slot), Inv b → meas b < meas a → lv_has ls nL (Lv b) → W p l e R s m args below meth c H locs cells slots Q (F0 m pc ls [])) → ∀ (ls : Array Slot), lv_has ls nL (Lv a) → W p l e R s m args below meth c H locs cells slots Q (F0 m pc ls []))
    (a : α) (h0 : Inv a) (hl : lv_has ls nL (Lv a)) : W p l e R s m args below meth c H locs cells slots Q (F0 m pc ls []) := by
  have key : ∀ (n : Nat) (a : α), meas a < n → Inv a → ∀ (ls : Array Slot), lv_has ls nL (Lv a) → W p l e R s m args below meth c H locs cells slots Q (F0 m pc ls []) := by
    intro n
    induction n with
    | zero => intro a h; exact absurd h (Nat.not_lt_zero _)
    | succ n ih => intro a h hi; exact step a hi (fun b ls hb hm hl => ih b (by omega) hb ls hl)
  exact key (meas a + 1) a (Nat.lt_succ_self _) h0 ls hl
theorem iI_max {a b : Int} (h : (-2147483648 ≤ a ∧ a < 2147483648) ∧ (-2147483648 ≤ b ∧ b < 2147483648)) : (if iI a < iI b then iI b else iI a) = iI (max a b) := by
  by_cases hc : a < b
  · rw [if_pos ((iI_lt h).mpr hc), Int.max_eq_right (by omega)]
  · rw [if_neg (fun q => hc ((iI_lt h).mp q)), Int.max_eq_left (by omega)]
theorem iI_min {a b : Int} (h : (-2147483648 ≤ a ∧ a < 2147483648) ∧ (-2147483648 ≤ b ∧ b < 2147483648)) : (if iI b < iI a then iI b else iI a) = iI (min a b) := by
  by_cases hc : b < a
  · rw [if_pos ((iI_lt ⟨h.2, h.1⟩).mpr hc), Int.min_eq_right (by omega)]
  · rw [if_neg (fun q => hc ((iI_lt ⟨h.2, h.1⟩).mp q)), Int.min_eq_left (by omega)]
theorem q_mmax (S0 : CallFix p m c cc nL s args Ts own) {a b : Int} (h : (-2147483648 ≤ a ∧ a < 2147483648) ∧ (-2147483648 ≤ b ∧ b < 2147483648)) (h1 : Cond.methodLink own index Lib.Math.max.name ∈ Ts) (h2 : Cond.static Lib.Math.max.name ∈ Ts) (h3 : Cond.initialized "java/lang/Math" ∈ Ts) (h4 : Cond.code Lib.Math.max.name Lib.Math.max.code 2 (some .int) ∈ Ts) (hsize : ls.size = nL) (hfr : 1 ≤ R.frames) (hlo : (rest.map fun v => v.category).sum + 13 ≤ R.locals) (hc : cells ≤ R.cells) (hs : slots ≤ R.slots) (hdg : decode cc pc = .ok (.invokestatic index, 3))
    (kk : W p l e R s m args below meth c H locs cells slots Q (F0 m (pc + 3) ls (.int (iI (max a b)) :: rest))) : W p l e R s m args below meth c H locs cells slots Q (F0 m pc ls (.int (iI b) :: .int (iI a) :: rest)) :=
  va_mmax S0.1 S0.2.1 (S0.2.2.1.trans hsize.symm) S0.2.2.2.1 (S0.2.2.2.2 _ h1) (S0.2.2.2.2 _ h2) (S0.2.2.2.2 _ h3) (S0.2.2.2.2 _ h4) hfr hlo hc hs hdg (by rw [iI_max h]; exact kk)
theorem q_mmin (S0 : CallFix p m c cc nL s args Ts own) {a b : Int} (h : (-2147483648 ≤ a ∧ a < 2147483648) ∧ (-2147483648 ≤ b ∧ b < 2147483648)) (h1 : Cond.methodLink own index Lib.Math.min.name ∈ Ts) (h2 : Cond.static Lib.Math.min.name ∈ Ts) (h3 : Cond.initialized "java/lang/Math" ∈ Ts) (h4 : Cond.code Lib.Math.min.name Lib.Math.min.code 2 (some .int) ∈ Ts) (hsize : ls.size = nL) (hfr : 1 ≤ R.frames) (hlo : (rest.map fun v => v.category).sum + 13 ≤ R.locals) (hc : cells ≤ R.cells) (hs : slots ≤ R.slots) (hdg : decode cc pc = .ok (.invokestatic index, 3))
    (kk : W p l e R s m args below meth c H locs cells slots Q (F0 m (pc + 3) ls (.int (iI (min a b)) :: rest))) : W p l e R s m args below meth c H locs cells slots Q (F0 m pc ls (.int (iI b) :: .int (iI a) :: rest)) :=
  va_mmin S0.1 S0.2.1 (S0.2.2.1.trans hsize.symm) S0.2.2.2.1 (S0.2.2.2.2 _ h1) (S0.2.2.2.2 _ h2) (S0.2.2.2.2 _ h3) (S0.2.2.2.2 _ h4) hfr hlo hc hs hdg (by rw [iI_min h]; exact kk)
end QLOOPS
section QARR
variable {p : Program} {l : Launch} {e : Env} {R : Room} {s : State} {m : MethodId} {args : Array Value} {below : List Frame} {meth : Method} {c : Code} {H : Heap} {locs : List Loc} {cells slots : Nat} {Q : State → Prop}
variable {cc : ByteArray} {nL pc index : Nat} {Ts : List Cond} {own : String} {ls : Array Slot} {rest : List Value} {g : GG} {A : Nat → Prop} {H0 : Heap} {ws : va_W} {a a0 : Nat}
theorem q_cloneI (S0 : CallFix p m c cc nL s args Ts own) (hK : gK g s) (hA : ∀ q, H0.size ≤ q → A q) (hW : gW g A H0 H locs ws) (h1 : Cond.methodLink own index ⟨"[I", "clone", "()Ljava/lang/Object;"⟩ ∈ Ts) (h2 : Cond.sameMethod "[I" "java/lang/Object" "clone" "()Ljava/lang/Object;" ∈ Ts) (h3 : Cond.native ⟨"java/lang/Object", "clone", "()Ljava/lang/Object;"⟩ ∈ Ts) (h4 : Cond.instanceMethod ⟨"java/lang/Object", "clone", "()Ljava/lang/Object;"⟩ ∈ Ts) (h5 : Cond.selects "[I" ⟨"[I", "clone", "()Ljava/lang/Object;"⟩ ⟨"java/lang/Object", "clone", "()Ljava/lang/Object;"⟩ ∈ Ts)
    (q0 : Nat) {n : Nat} {f : Nat → Int} (he : ws[q0]? = some (a, gI g n f)) (hsize : ls.size = nL) (hfr : 1 ≤ R.frames) (hlo : (rest.map fun v => v.category).sum + 14 ≤ R.locals) (hc : cells + 1 ≤ R.cells) (hs : slots + n ≤ R.slots) (hdg : decode cc pc = .ok (.invokevirtual index, 3))
    (kk : ∀ (q : Nat) (H1 : Heap), gW g A H0 H1 locs (ws ++ [(q, gI g n f)]) → W p l e R s m args below meth c H1 locs (cells + 1) (slots + n) Q (F0 m (pc + 3) ls (.ref q :: rest))) : W p l e R s m args below meth c H locs cells slots Q (F0 m pc ls (.ref a :: rest)) :=
  va_clone (D := g.1) (cl := vwCl) (tys := gT g) S0.1 S0.2.1 (S0.2.2.1.trans hsize.symm) S0.2.2.2.1 (S0.2.2.2.2 _ h1) (S0.2.2.2.2 _ h2) (S0.2.2.2.2 _ h3) (S0.2.2.2.2 _ h4) (S0.2.2.2.2 _ h5) (hK.2.1 15 _ rfl) hK.1 hW.1 hW.2.1 hW.2.2 hA q0 0 (x := (n, .inl (fun j => iI (f j)))) he rfl (hK.1.2 0 _ rfl).2 (fun i v hv => by
    have hi : i < n := by
      have := (Array.getElem?_eq_some_iff.mp hv).1
      rw [vp_cell_i, arrV_size] at this
      exact this
    rw [vp_cell_i, arrV_read _ _ hi] at hv
    cases hv
    rfl) hfr hlo hc hs hdg (fun q H1 _ h1 h2 h3 => kk q H1 ⟨h1, h2, h3⟩)
theorem cell_cut (g : GG) (n : Nat) (f h : Nat → Int) (e : ∀ j, j < n → f j = h j) {D : va_G} {cl : List vw_C} {a : Nat} {H : Heap} (hh : va_at D cl (a, gI g n f) H) : va_at D cl (a, gI g n h) H := by
  have e2 : vp_cell g.2.1 (n, .inl (fun j => iI (f j))) = vp_cell g.2.1 (n, .inl (fun j => iI (h j))) := by
    rw [vp_cell_i, vp_cell_i]
    unfold arrV
    congr 1
    apply Array.ext
    · simp
    · intro i h1 h2
      simp at h1 h2 ⊢
      rw [e i h1]
  show H[a]? = some (vp_cell g.2.1 (n, .inl (fun j => iI (h j))))
  rw [← e2]
  exact hh
/-- a row's content may be told otherwise, where it doesn't differ -/
theorem gW.cut {locs : List Loc} (hW : gW g A H0 H locs ws) (k : Nat) {n : Nat} {f : Nat → Int} (hk : ws[k]? = some (a, gI g n f)) (h : Nat → Int) (e : ∀ j, j < n → f j = h j) : gW g A H0 H locs (ws.set k (a, gI g n h)) := by
  refine ⟨fun j q hj => ?_, hW.2.1.set hk, hW.2.2⟩
  rcases Nat.lt_or_ge k ws.length with hlt | hge
  · by_cases hjk : k = j
    · subst hjk
      rw [List.getElem?_set_self hlt] at hj
      cases hj
      exact cell_cut g n f h e (hW.1 k _ hk)
    · rw [List.getElem?_set_ne hjk] at hj
      exact hW.1 j q hj
  · rw [List.getElem?_eq_none hge] at hk
    cases hk
theorem q_copyI (S0 : CallFix p m c cc nL s args Ts own) (hK : gK g s) (hW : gW g A H0 H locs ws) (h1 : Cond.methodLink own index arraycopyName ∈ Ts) (h2 : Cond.native arraycopyName ∈ Ts) (h3 : Cond.static arraycopyName ∈ Ts) (h4 : Cond.initialized "java/lang/System" ∈ Ts)
    (q0 q1 : Nat) {n0 n1 : Nat} {f h : Nat → Int} (he0 : ws[q0]? = some (a0, gI g n0 f)) (he1 : ws[q1]? = some (a, gI g n1 h)) {z : Int} (hz : 0 ≤ z ∧ z ≤ n0 ∧ z ≤ n1 ∧ z < 2147483648) (hsize : ls.size = nL) (hfr : 1 ≤ R.frames) (hlo : (rest.map fun v => v.category).sum + (nativeFrameWords "java/lang/System" "arraycopy" 5 + 11) ≤ R.locals) (hdg : decode cc pc = .ok (.invokestatic index, 3))
    (kk : ∀ (H1 : Heap) (locs1 : List Loc), gW g A H0 H1 locs1 (ws.set q1 (a, gI g n1 (fun j => if j < z.toNat then f j else h j))) → W p l e R s m args below meth c H1 locs1 cells slots Q (F0 m (pc + 3) ls rest)) : W p l e R s m args below meth c H locs cells slots Q (F0 m pc ls (.int (iI z) :: .int (iI 0) :: .ref a :: .int (iI 0) :: .ref a0 :: rest)) := by
  have c0 : (iI 0).toNatClampNeg = 0 := iI_cl (by decide) (by decide)
  have cz : (iI z).toNatClampNeg = z.toNat := iI_cl hz.1 hz.2.2.2
  have n0' : ¬ iI 0 < 0 := by rw [iI_0, iI_lt (by decide)]; omega
  have nz' : ¬ iI z < 0 := by rw [iI_0, iI_lt ⟨⟨by omega, hz.2.2.2⟩, by decide⟩]; omega
  refine va_copyi (D := g.1) (cl := vwCl) (tys := gT g) S0.1 S0.2.1 (S0.2.2.1.trans hsize.symm) S0.2.2.2.1 (S0.2.2.2.2 _ h1) (S0.2.2.2.2 _ h2) (S0.2.2.2.2 _ h3) (S0.2.2.2.2 _ h4) hK.1 hW.1 hW.2.1 hW.2.2 q0 q1 0 0 he0 he1 rfl rfl rfl n0' n0' nz' (by rw [c0, cz]; omega) (by rw [c0, cz]; omega) (fun i _ => rfl) hfr hlo hdg (fun H1 locs1 k1 k2 k3 => kk H1 locs1 ?_)
  rw [c0, cz] at k1 k2
  have e : va_cpy (fun j => iI (f j)) (fun j => iI (h j)) 0 0 z.toNat = fun j => iI ((fun j => if j < z.toNat then f j else h j) j) := by
    funext j
    unfold va_cpy
    by_cases hj : j < z.toNat
    · rw [if_pos ⟨Nat.zero_le _, by omega⟩]; simp [hj]
    · rw [if_neg (by omega)]; simp [hj]
  rw [e] at k1 k2
  exact ⟨k1, k2, k3⟩
theorem q_castI (S0 : CallFix p m c cc nL s args Ts own) (hK : gK g s) (hP : va_P g.1 vwCl ws H) (h1 : Cond.classLink own index "[I" ∈ Ts) (q0 : Nat) {n : Nat} {f : Nat → Int} (he : ws[q0]? = some (a, gI g n f)) (hdg : decode cc pc = .ok (.checkcast index, 3))
    (k : W p l e R s m args below meth c H locs cells slots Q (F0 m (pc + 3) ls (.ref a :: rest))) : W p l e R s m args below meth c H locs cells slots Q (F0 m pc ls (.ref a :: rest)) :=
  va_castA (D := g.1) (cl := vwCl) S0.1 S0.2.1 S0.2.2.2.1 (S0.2.2.2.2 _ h1) hP q0 (x := (n, .inl (fun j => iI (f j)))) he (hK.1.2 0 _ rfl).2 hdg k
end QARR
end
section
/-! plain facts -/
theorem tmod_pos {z p : Int} (hp : 0 < p) (h : ¬ z.tmod p < 0) : z.tmod p = z % p := by
  have h1 := Int.mul_tdiv_add_tmod z p
  have h2 := Int.tmod_lt_of_pos z hp
  have h3 : (p * z.tdiv p + z.tmod p) % p = z.tmod p := by
    rw [Int.add_comm, Int.add_mul_emod_self_left, Int.emod_eq_of_lt (by omega) h2]
  rw [h1] at h3
  exact h3.symm
theorem tmod_neg {z p : Int} (hp : 0 < p) (h : z.tmod p < 0) : z.tmod p + p = z % p := by
  have h1 := Int.mul_tdiv_add_tmod z p
  have h2 := Int.lt_tmod_of_pos z hp
  have h3 : (p * z.tdiv p + z.tmod p) % p = z.tmod p + p := by
    rw [Int.add_comm, Int.add_mul_emod_self_left, ← Int.add_emod_right, Int.emod_eq_of_lt (by omega) (by omega)]
  rw [h1] at h3
  exact h3.symm
theorem tmod_rng {z p : Int} (hp : 0 < p) : -p < z.tmod p ∧ z.tmod p < p := ⟨Int.lt_tmod_of_pos z hp, Int.tmod_lt_of_pos z hp⟩
theorem emod_rng (z : Int) {p : Int} (hp : 0 < p) : 0 ≤ z % p ∧ z % p < p := ⟨Int.emod_nonneg z (by omega), Int.emod_lt_of_pos z hp⟩
theorem mul_rng {a b : Int} {n k : Int} (ha : 0 ≤ a ∧ a ≤ n) (hb : 0 ≤ b ∧ b ≤ k) : 0 ≤ a * b ∧ a * b ≤ n * k :=
  ⟨Int.mul_nonneg ha.1 hb.1, Int.mul_le_mul ha.2 hb.2 hb.1 (by omega)⟩
theorem iI_and1 {z : Int} (h : 0 ≤ z ∧ z < 2147483648) : iI z &&& iI 1 = iI (z % 2) := by
  obtain ⟨n, rfl⟩ := Int.eq_ofNat_of_zero_le h.1
  have e1 : iI ((n : Nat) : Int) = nI n := (iI_nat n).symm
  have e2 : iI (((n : Nat) : Int) % 2) = nI (n % 2) := by
    have := iI_nat (n % 2)
    rw [Int.natCast_emod] at this
    exact this.symm
  rw [e1, e2]
  exact pk_andN (k := 1) (by omega) rfl
theorem pow_mod (a p : Int) (k : Nat) : (a % p) ^ k % p = a ^ k % p := by
  induction k with
  | zero => simp
  | succ k ih => rw [Int.pow_succ, Int.pow_succ, Int.mul_emod, ih, Int.emod_emod, ← Int.mul_emod]
/-- a row with its first n places all x -/
def fillf (n : Nat) (x : Int) (f : Nat → Int) : Nat → Int := fun j => if j < n then x else f j
theorem fillf_0 (x : Int) (f : Nat → Int) : fillf 0 x f = f := by funext j; simp [fillf]
theorem fillf_up (k : Nat) (x : Int) (f : Nat → Int) : up (fillf k x f) k x = fillf (k + 1) x f := by
  funext j
  unfold up fillf
  by_cases h1 : j = k
  · rw [if_pos h1, if_pos (by omega)]
  · rw [if_neg h1]
    by_cases h2 : j < k
    · rw [if_pos h2, if_pos (by omega)]
    · rw [if_neg h2, if_neg (by omega)]
/-- a row's place, 0 outside; a row with a place changed -/
def at0 (n : Nat) (f : Nat → Int) (i : Int) : Int := if 0 ≤ i ∧ i < n then f i.toNat else 0
def put0 (n : Nat) (f : Nat → Int) (i x : Int) : Nat → Int := if 0 ≤ i ∧ i < n then up f i.toNat x else f
theorem pw_even {p rs sq lf : Int} (h : 0 < lf) (ho : ¬ lf % 2 = 1) : rs * (sq * sq % p) ^ (lf / 2).toNat % p = rs * sq ^ lf.toNat % p := by
  have e : lf.toNat = (lf / 2).toNat + (lf / 2).toNat := by omega
  rw [Int.mul_emod, pow_mod, ← Int.mul_emod, e, Int.pow_add, Int.mul_pow]
theorem pw_odd {p rs sq lf : Int} (h : 0 < lf) (ho : lf % 2 = 1) : rs * sq % p * (sq * sq % p) ^ (lf / 2).toNat % p = rs * sq ^ lf.toNat % p := by
  have e : lf.toNat = (lf / 2).toNat + (lf / 2).toNat + 1 := by omega
  rw [Int.mul_emod, Int.emod_emod, pow_mod, ← Int.mul_emod, e, Int.pow_succ, Int.pow_add, Int.mul_pow]
  congr 1
  rw [Int.mul_assoc, Int.mul_assoc, Int.mul_comm sq]
  simp only [Int.mul_assoc]
/-- one of four -/
def sel4 (u : Int) (a b c d : Nat) : Nat := if u = 0 then a else if u = 1 then b else if u = 2 then c else d
end
section
/-! the Builder as a value: kinds, numbers, lefts, rights, depths, likes, size, leastDefinable, loose (count, items), waiting (count, items) -/
def pN (n : Int) : Int := if n < 40 then n + 1 else n
def pF (n : Int) (f : Nat → Int) (x : Int) : Nat → Int := if n < 40 then up f n.toNat x else f
def oN (n : Int) : Int := if 0 < n then n - 1 else n
def tp (n : Int) (f : Nat → Int) : Int := if 0 < n then f (n - 1).toNat else -1
abbrev BT : Type := (Nat → Int) × (Nat → Int) × (Nat → Int) × (Nat → Int) × (Nat → Int) × (Nat → Int) × Int × Int × Int × (Nat → Int) × Int × (Nat → Int)
def bK (B : BT) : Nat → Int := B.1
def bU (B : BT) : Nat → Int := B.2.1
def bL (B : BT) : Nat → Int := B.2.2.1
def bV (B : BT) : Nat → Int := B.2.2.2.1
def bD (B : BT) : Nat → Int := B.2.2.2.2.1
def bE (B : BT) : Nat → Int := B.2.2.2.2.2.1
def bN (B : BT) : Int := B.2.2.2.2.2.2.1
def bZ (B : BT) : Int := B.2.2.2.2.2.2.2.1
def lP (B : BT) : Int := B.2.2.2.2.2.2.2.2.1
def lQ (B : BT) : Nat → Int := B.2.2.2.2.2.2.2.2.2.1
def wP (B : BT) : Int := B.2.2.2.2.2.2.2.2.2.2.1
def wQ (B : BT) : Nat → Int := B.2.2.2.2.2.2.2.2.2.2.2
def mkB (K U L V D E : Nat → Int) (n z lp : Int) (lq : Nat → Int) (wp : Int) (wq : Nat → Int) : BT := (K, U, L, V, D, E, n, z, lp, lq, wp, wq)
section BT
variable {K U L V D E : Nat → Int} {n z lp : Int} {lq : Nat → Int} {wp : Int} {wq : Nat → Int}
theorem bK_mk : bK (mkB K U L V D E n z lp lq wp wq) = K := rfl
theorem bU_mk : bU (mkB K U L V D E n z lp lq wp wq) = U := rfl
theorem bL_mk : bL (mkB K U L V D E n z lp lq wp wq) = L := rfl
theorem bV_mk : bV (mkB K U L V D E n z lp lq wp wq) = V := rfl
theorem bD_mk : bD (mkB K U L V D E n z lp lq wp wq) = D := rfl
theorem bE_mk : bE (mkB K U L V D E n z lp lq wp wq) = E := rfl
theorem bN_mk : bN (mkB K U L V D E n z lp lq wp wq) = n := rfl
theorem bZ_mk : bZ (mkB K U L V D E n z lp lq wp wq) = z := rfl
theorem lP_mk : lP (mkB K U L V D E n z lp lq wp wq) = lp := rfl
theorem lQ_mk : lQ (mkB K U L V D E n z lp lq wp wq) = lq := rfl
theorem wP_mk : wP (mkB K U L V D E n z lp lq wp wq) = wp := rfl
theorem wQ_mk : wQ (mkB K U L V D E n z lp lq wp wq) = wq := rfl
end BT
def bnd (f : Nat → Int) : Prop := ∀ j : Nat, -1 ≤ f j ∧ f j ≤ 65535
def WFB (B : BT) : Prop := (0 ≤ bN B ∧ 0 ≤ lP B ∧ lP B ≤ bN B ∧ 0 ≤ wP B ∧ bN B + wP B ≤ 40 ∧ 0 ≤ bZ B ∧ bZ B ≤ 4) ∧ (∀ i : Nat, (i : Int) < lP B → 0 ≤ lQ B i ∧ lQ B i < bN B) ∧ (∀ j : Nat, 0 ≤ bD B j ∧ bD B j ≤ j + 1) ∧ (∀ j : Nat, 0 ≤ bU B j ∧ bU B j ≤ 999) ∧ bnd (bK B) ∧ bnd (bL B) ∧ bnd (bV B) ∧ bnd (bE B) ∧ bnd (wQ B)
/-- the methods as functions -/
def sClear (B : BT) : BT := mkB (bK B) (bU B) (bL B) (bV B) (bD B) (bE B) 0 0 0 (lQ B) 0 (wQ B)
def sWait (B : BT) (x : Int) : BT := mkB (bK B) (bU B) (bL B) (bV B) (bD B) (bE B) (bN B) (bZ B) (lP B) (lQ B) (pN (wP B)) (pF (wP B) (wQ B) x)
def sWPop (B : BT) : BT := mkB (bK B) (bU B) (bL B) (bV B) (bD B) (bE B) (bN B) (bZ B) (lP B) (lQ B) (oN (wP B)) (wQ B)
def sLPop (B : BT) : BT := mkB (bK B) (bU B) (bL B) (bV B) (bD B) (bE B) (bN B) (bZ B) (oN (lP B)) (lQ B) (wP B) (wQ B)
def wTop (B : BT) : Int := tp (wP B) (wQ B)
def lTop (B : BT) : Int := tp (lP B) (lQ B)
def sAdd (B : BT) (k u a b : Int) : BT := mkB (put0 40 (bK B) (bN B) k) (put0 40 (bU B) (bN B) u) (put0 40 (bL B) (bN B) a) (put0 40 (bV B) (bN B) b) (put0 40 (bD B) (bN B) (1 + max (at0 40 (bD B) a) (at0 40 (bD B) b))) (bE B) (min (bN B + 1) 40) (bZ B) (pN (lP B)) (pF (lP B) (lQ B) (bN B)) (wP B) (wQ B)
def sNeg (B : BT) : BT := sAdd (sLPop (sWPop B)) (wTop B) 0 (lTop B) (-1)
def sFin : Nat → BT → BT
  | 0, B => B
  | k + 1, B => if wTop B = 110 then sFin k (sNeg B) else B
def lvl (c : Int) : Int := if c = 43 then 1 else if c = 45 then 1 else if c = 42 then 2 else if c = 47 then 2 else 0
def sOp (B : BT) : BT := sAdd (sLPop (sWPop (sLPop B))) (wTop B) 0 (lTop (sLPop B)) (lTop B)
def sJoin (v : Int) : Nat → BT → BT
  | 0, B => B
  | k + 1, B => if v ≤ lvl (wTop B) then sJoin v k (sOp B) else B
def sFinA (B : BT) : BT := sFin (wP B).toNat B
def sJoinF (v : Int) (B : BT) : BT := sJoin v (wP B).toNat B
def sAddX (B : BT) : BT := sFinA (sAdd B 120 0 (-1) (-1))
def sAddNum (B : BT) (d : Int) : BT := sFinA (sAdd B 48 d (-1) (-1))
def sDigit (B : BT) (j d : Int) : BT := mkB (bK B) (put0 40 (bU B) j (at0 40 (bU B) j * 10 + d)) (bL B) (bV B) (bD B) (bE B) (bN B) (bZ B) (lP B) (lQ B) (wP B) (wQ B)
def sPower (B : BT) (d : Int) : BT := sAdd (sLPop B) 94 d (lTop B) (-1)
def sSign (B : BT) (c : Int) : BT := sWait (sJoinF (lvl c) B) c
def fnO (c : Int) : Int := if c = 102 then 0 else if c = 103 then 1 else if c = 104 then 2 else if c = 107 then 3 else -1
def sLeast (B : BT) (z : Int) : BT := mkB (bK B) (bU B) (bL B) (bV B) (bD B) (bE B) (bN B) z (lP B) (lQ B) (wP B) (wQ B)
def sCall (B : BT) (f : Int) : BT := sLeast (sAdd (sLPop B) 99 f (lTop B) (-1)) (max (bZ B) (f + 1))
def sClose (B : BT) : BT := sFinA (if fnO (wTop (sJoinF 1 B)) = -1 then sWPop (sJoinF 1 B) else sCall (sWPop (sJoinF 1 B)) (fnO (wTop (sJoinF 1 B))))
/-- facts -/
theorem up_bnd {f : Nat → Int} {k : Nat} {x : Int} {P : Int → Prop} (h : ∀ j, P (f j)) (hx : P x) : ∀ j, P (up f k x j) := by
  intro j
  unfold up
  by_cases e : j = k
  · rw [if_pos e]; exact hx
  · rw [if_neg e]; exact h j
theorem put0_bnd {f : Nat → Int} {n : Nat} {i x : Int} {P : Int → Prop} (h : ∀ j, P (f j)) (hx : P x) : ∀ j, P (put0 n f i x j) := by
  intro j
  unfold put0
  by_cases e : 0 ≤ i ∧ i < n
  · rw [if_pos e]; exact up_bnd h hx j
  · rw [if_neg e]; exact h j
theorem at0_bnd {f : Nat → Int} {n : Nat} {i : Int} {P : Int → Prop} (h : ∀ j, P (f j)) (h0 : P 0) : P (at0 n f i) := by
  unfold at0
  by_cases e : 0 ≤ i ∧ i < n
  · rw [if_pos e]; exact h _
  · rw [if_neg e]; exact h0
theorem tp_bnd {n : Int} {f : Nat → Int} (h : bnd f) : -1 ≤ tp n f ∧ tp n f ≤ 65535 := by
  unfold tp
  by_cases e : 0 < n
  · rw [if_pos e]; exact h _
  · rw [if_neg e]; omega
theorem at_depth {D : Nat → Int} {a n : Int} (h : ∀ j : Nat, 0 ≤ D j ∧ D j ≤ j + 1) (ha : a < n) (hn : 0 ≤ n) : 0 ≤ at0 40 D a ∧ at0 40 D a ≤ n := by
  unfold at0
  by_cases e : 0 ≤ a ∧ a < (40 : Nat)
  · rw [if_pos e]
    have := h a.toNat
    omega
  · rw [if_neg e]; omega
theorem lTop_lt {B : BT} (h : WFB B) : -1 ≤ lTop B ∧ lTop B < bN B ∨ (lTop B = -1) := by
  unfold lTop tp
  by_cases e : 0 < lP B
  · rw [if_pos e]
    have := h.2.1 (lP B - 1).toNat (by omega)
    omega
  · rw [if_neg e]; omega
theorem lTop_r {B : BT} (h : WFB B) : -1 ≤ lTop B ∧ lTop B < bN B ∨ (lTop B = -1 ∧ bN B = 0) := by
  have h0 := h.1
  have := lTop_lt h
  omega
theorem wTop_r {B : BT} (h : WFB B) : -1 ≤ wTop B ∧ wTop B ≤ 65535 := tp_bnd h.2.2.2.2.2.2.2.2
theorem WF_clear {B : BT} (h : WFB B) : WFB (sClear B) := by
  obtain ⟨h1, h2, h3, h4, h5, h6, h7, h8, h9⟩ := h
  exact ⟨⟨Int.le_refl 0, Int.le_refl 0, Int.le_refl 0, Int.le_refl 0, (by decide : (0 : Int) + 0 ≤ 40), Int.le_refl 0, (by decide : (0 : Int) ≤ 4)⟩, fun i hi => absurd (show (i : Int) < 0 from hi) (by omega), h3, h4, h5, h6, h7, h8, h9⟩
theorem WF_wait {B : BT} {x : Int} (h : WFB B) (hx : -1 ≤ x ∧ x ≤ 65535) (hr : bN B + wP B ≤ 39) : WFB (sWait B x) := by
  obtain ⟨h1, h2, h3, h4, h5, h6, h7, h8, h9⟩ := h
  refine ⟨?_, h2, h3, h4, h5, h6, h7, h8, ?_⟩
  · simp only [sWait, bN_mk, lP_mk, wP_mk, bZ_mk, pN]
    rw [if_pos (by omega)]
    omega
  · simp only [sWait, wQ_mk, pF]
    rw [if_pos (by omega)]
    exact up_bnd (P := fun v => -1 ≤ v ∧ v ≤ 65535) h9 hx
theorem WF_wpop {B : BT} (h : WFB B) : WFB (sWPop B) := by
  obtain ⟨h1, h2, h3, h4, h5, h6, h7, h8, h9⟩ := h
  refine ⟨?_, h2, h3, h4, h5, h6, h7, h8, h9⟩
  simp only [sWPop, bN_mk, lP_mk, wP_mk, bZ_mk, oN]
  split <;> omega
theorem WF_lpop {B : BT} (h : WFB B) : WFB (sLPop B) := by
  obtain ⟨h1, h2, h3, h4, h5, h6, h7, h8, h9⟩ := h
  refine ⟨?_, ?_, h3, h4, h5, h6, h7, h8, h9⟩
  · simp only [sLPop, bN_mk, lP_mk, wP_mk, bZ_mk, oN]
    split <;> omega
  · intro i hi
    simp only [sLPop, lP_mk, oN] at hi
    exact h2 i (by split at hi <;> omega)
theorem WF_add {B : BT} {k u a b : Int} (h : WFB B) (hn : bN B + wP B ≤ 39) (hk : -1 ≤ k ∧ k ≤ 65535) (hu : 0 ≤ u ∧ u ≤ 999) (ha : -1 ≤ a ∧ (a < bN B ∨ a = -1)) (hb : -1 ≤ b ∧ (b < bN B ∨ b = -1)) : WFB (sAdd B k u a b) := by
  obtain ⟨h1, h2, h3, h4, h5, h6, h7, h8, h9⟩ := h
  have da := at_depth (a := a) (n := bN B) h3
  have db := at_depth (a := b) (n := bN B) h3
  have e1 : at0 40 (bD B) (-1) = 0 := by unfold at0; rw [if_neg (by omega)]
  have da' : 0 ≤ at0 40 (bD B) a ∧ at0 40 (bD B) a ≤ bN B := by
    rcases ha.2 with q | q
    · exact da q (by omega)
    · rw [q, e1]; omega
  have db' : 0 ≤ at0 40 (bD B) b ∧ at0 40 (bD B) b ≤ bN B := by
    rcases hb.2 with q | q
    · exact db q (by omega)
    · rw [q, e1]; omega
  refine ⟨?_, ?_, ?_, ?_, ?_, ?_, ?_, h8, h9⟩
  · simp only [sAdd, bN_mk, lP_mk, wP_mk, bZ_mk, pN]
    rw [if_pos (by omega)]
    omega
  · intro i hi
    simp only [sAdd, lP_mk, lQ_mk, bN_mk, pN, pF] at hi ⊢
    rw [if_pos (by omega)] at hi ⊢
    unfold up
    by_cases e : i = (lP B).toNat
    · rw [if_pos e]; omega
    · rw [if_neg e]
      have := h2 i (by omega)
      omega
  · intro j
    simp only [sAdd, bD_mk, put0]
    rw [if_pos (by omega)]
    unfold up
    by_cases e : j = (bN B).toNat
    · rw [if_pos e]; omega
    · rw [if_neg e]; exact h3 j
  · simp only [sAdd, bU_mk]; exact put0_bnd (P := fun v => 0 ≤ v ∧ v ≤ 999) h4 hu
  · simp only [sAdd, bK_mk]; exact put0_bnd (P := fun v => -1 ≤ v ∧ v ≤ 65535) h5 hk
  · simp only [sAdd, bL_mk]; exact put0_bnd (P := fun v => -1 ≤ v ∧ v ≤ 65535) h6 (by omega)
  · simp only [sAdd, bV_mk]; exact put0_bnd (P := fun v => -1 ≤ v ∧ v ≤ 65535) h7 (by omega)
theorem wTop_pos {B : BT} (h : 0 ≤ wTop B) : 0 < wP B := by
  unfold wTop tp at h
  by_cases e : 0 < wP B
  · exact e
  · rw [if_neg e] at h; omega
theorem WF_neg {B : BT} (h : WFB B) (hw : wTop B = 110) : WFB (sNeg B) := by
  have h0 := h.1
  have hp := wTop_pos (B := B) (by omega)
  have hl := lTop_r h
  refine WF_add (WF_lpop (WF_wpop h)) ?_ (by omega) (by omega) ?_ (by omega)
  · simp only [sLPop, sWPop, bN_mk, wP_mk, oN]; rw [if_pos hp]; omega
  · simp only [sLPop, sWPop, bN_mk]; omega
theorem WF_fin : ∀ (k : Nat) (B : BT), WFB B → WFB (sFin k B)
  | 0, _, h => h
  | k + 1, B, h => by
    unfold sFin
    split
    · exact WF_fin k _ (WF_neg h ‹_›)
    · exact h
theorem lvl_pos {c : Int} (h : 1 ≤ lvl c) : 0 ≤ c := by
  unfold lvl at h
  split at h
  · omega
  · split at h
    · omega
    · split at h
      · omega
      · split at h <;> omega
theorem WF_op {B : BT} (h : WFB B) (hw : 1 ≤ lvl (wTop B)) : WFB (sOp B) := by
  have h0 := h.1
  have hp := wTop_pos (lvl_pos hw)
  have hl := lTop_r h
  have hl2 := lTop_r (WF_lpop h)
  have hr := wTop_r h
  simp only [show bN (sLPop B) = bN B from rfl] at hl2
  refine WF_add (WF_lpop (WF_wpop (WF_lpop h))) ?_ (by omega) (by omega) ?_ ?_
  · show bN B + oN (wP B) ≤ 39; unfold oN; rw [if_pos hp]; omega
  · simp only [show bN (sLPop (sWPop (sLPop B))) = bN B from rfl]; omega
  · simp only [show bN (sLPop (sWPop (sLPop B))) = bN B from rfl]; omega
theorem WF_join {v : Int} (hv : 1 ≤ v) : ∀ (k : Nat) (B : BT), WFB B → WFB (sJoin v k B)
  | 0, _, h => h
  | k + 1, B, h => by
    unfold sJoin
    split
    · exact WF_join hv k _ (WF_op h (by omega))
    · exact h
theorem dep_rng {B : BT} (h : WFB B) (a : Int) : 0 ≤ at0 40 (bD B) a ∧ at0 40 (bD B) a ≤ 40 := by
  have h3 := h.2.2.1
  unfold at0
  by_cases e : 0 ≤ a ∧ a < (40 : Nat)
  · rw [if_pos e]
    have := h3 a.toNat
    omega
  · rw [if_neg e]; omega
theorem lvl_r (c : Int) : 0 ≤ lvl c ∧ lvl c ≤ 2 := by
  unfold lvl
  split
  · omega
  · split
    · omega
    · split
      · omega
      · split <;> omega
theorem fnO_r (c : Int) : -1 ≤ fnO c ∧ fnO c ≤ 3 := by
  unfold fnO
  split
  · omega
  · split
    · omega
    · split
      · omega
      · split <;> omega
theorem fnO_pos {c : Int} (h : ¬ fnO c = -1) : 0 ≤ c := by
  unfold fnO at h
  split at h
  · omega
  · split at h
    · omega
    · split at h
      · omega
      · split at h <;> omega
theorem sFin_stop {B : BT} (h : ¬ wTop B = 110) : ∀ k, sFin k B = B
  | 0 => rfl
  | k + 1 => by unfold sFin; rw [if_neg h]
theorem sFin_step {B : BT} (h : wTop B = 110) (k : Nat) : sFin (k + 1) B = sFin k (sNeg B) := by
  show (if wTop B = 110 then sFin k (sNeg B) else B) = _
  rw [if_pos h]
theorem sJoin_stop {v : Int} {B : BT} (h : ¬ v ≤ lvl (wTop B)) : ∀ k, sJoin v k B = B
  | 0 => rfl
  | k + 1 => by unfold sJoin; rw [if_neg h]
theorem sJoin_step {v : Int} {B : BT} (h : v ≤ lvl (wTop B)) (k : Nat) : sJoin v (k + 1) B = sJoin v k (sOp B) := by
  show (if v ≤ lvl (wTop B) then sJoin v k (sOp B) else B) = _
  rw [if_pos h]
/-- how much is full: nodes and what waits -/
def fil (B : BT) : Int := bN B + wP B
theorem fil_neg {B : BT} (h : WFB B) (hw : wTop B = 110) : fil (sNeg B) = fil B := by
  have h0 := h.1
  have hp := wTop_pos (B := B) (by omega)
  simp only [fil, sNeg, sAdd, sLPop, sWPop, bN_mk, wP_mk, oN]
  rw [if_pos hp]; omega
theorem fil_fin : ∀ (k : Nat) (B : BT), WFB B → fil (sFin k B) = fil B
  | 0, _, _ => rfl
  | k + 1, B, h => by
    unfold sFin
    split
    · rw [fil_fin k _ (WF_neg h ‹_›), fil_neg h ‹_›]
    · rfl
theorem fil_op {B : BT} (h : WFB B) (hw : 1 ≤ lvl (wTop B)) : fil (sOp B) = fil B := by
  have h0 := h.1
  have hp := wTop_pos (lvl_pos hw)
  skip
  show min (bN B + 1) 40 + oN (wP B) = bN B + wP B; unfold oN; rw [if_pos hp]; omega
theorem fil_join {v : Int} (hv : 1 ≤ v) : ∀ (k : Nat) (B : BT), WFB B → fil (sJoin v k B) = fil B
  | 0, _, _ => rfl
  | k + 1, B, h => by
    unfold sJoin
    split
    · rw [fil_join hv k _ (WF_op h (by omega)), fil_op h (by omega)]
    · rfl
theorem WF_finA {B : BT} (h : WFB B) : WFB (sFinA B) := WF_fin _ _ h
theorem WF_joinF {v : Int} (hv : 1 ≤ v) {B : BT} (h : WFB B) : WFB (sJoinF v B) := WF_join hv _ _ h
theorem fil_finA {B : BT} (h : WFB B) : fil (sFinA B) = fil B := fil_fin _ _ h
theorem fil_joinF {v : Int} (hv : 1 ≤ v) {B : BT} (h : WFB B) : fil (sJoinF v B) = fil B := fil_join hv _ _ h
theorem fil_wpop {B : BT} (h : WFB B) (hp : 0 ≤ wTop B) : fil (sWPop B) ≤ 39 := by
  have h0 := h.1
  have hp := wTop_pos hp
  simp only [fil, sWPop, bN_mk, wP_mk, oN]
  rw [if_pos hp]; omega
theorem WF_least {B : BT} {z : Int} (h : WFB B) (hz : 0 ≤ z ∧ z ≤ 4) : WFB (sLeast B z) := by
  obtain ⟨h1, h2, h3, h4, h5, h6, h7, h8, h9⟩ := h
  refine ⟨?_, h2, h3, h4, h5, h6, h7, h8, h9⟩
  simp only [sLeast, bN_mk, lP_mk, wP_mk, bZ_mk]
  omega
theorem WF_call {B : BT} {f : Int} (h : WFB B) (hn : fil B ≤ 39) (hf : 0 ≤ f ∧ f ≤ 3) : WFB (sCall B f) := by
  have hl := lTop_r h
  have h0 := h.1
  refine WF_least (WF_add (WF_lpop h) hn (by omega) (by omega) ?_ (by omega)) (by omega)
  simp only [show bN (sLPop B) = bN B from rfl]
  omega
theorem WF_close {B : BT} (h : WFB B) : WFB (sClose B) := by
  have hj := WF_joinF (v := 1) (by omega) h
  refine WF_finA ?_
  split
  · exact WF_wpop hj
  · have hr := fnO_r (wTop (sJoinF 1 B))
    exact WF_call (WF_wpop hj) (fil_wpop hj (fnO_pos ‹_›)) (by omega)
theorem WF_addX {B : BT} (h : WFB B) (hn : fil B ≤ 39) : WFB (sAddX B) := WF_finA (WF_add h hn (by omega) (by omega) (by omega) (by omega))
theorem WF_addNum {B : BT} {d : Int} (h : WFB B) (hn : fil B ≤ 39) (hd : 0 ≤ d ∧ d ≤ 9) : WFB (sAddNum B d) := WF_finA (WF_add h hn (by omega) (by omega) (by omega) (by omega))
theorem WF_power {B : BT} {d : Int} (h : WFB B) (hn : fil B ≤ 39) (hd : 0 ≤ d ∧ d ≤ 9) : WFB (sPower B d) := by
  have hl := lTop_r h
  have h0 := h.1
  refine WF_add (WF_lpop h) hn (by omega) (by omega) ?_ (by omega)
  simp only [show bN (sLPop B) = bN B from rfl]
  omega
theorem WF_digit {B : BT} {j d : Int} (h : WFB B) (hj : at0 40 (bU B) j ≤ 99) (hd : 0 ≤ d ∧ d ≤ 9) : WFB (sDigit B j d) := by
  obtain ⟨h1, h2, h3, h4, h5, h6, h7, h8, h9⟩ := h
  have := at0_bnd (n := 40) (i := j) (P := fun v => 0 ≤ v ∧ v ≤ 999) h4 (by omega)
  exact ⟨h1, h2, h3, put0_bnd (P := fun v => 0 ≤ v ∧ v ≤ 999) h4 (by omega), h5, h6, h7, h8, h9⟩
/-- likes -/
abbrev aAl (B : BT) (i j : Int) : Prop := at0 40 (bK B) i = at0 40 (bK B) j ∧ at0 40 (bU B) i = at0 40 (bU B) j ∧ at0 40 (bE B) (at0 40 (bL B) i) = at0 40 (bE B) (at0 40 (bL B) j) ∧ at0 40 (bE B) (at0 40 (bV B) i) = at0 40 (bE B) (at0 40 (bV B) j)
def flk (B : BT) (j : Int) : Nat → Int → Int
  | 0, _ => j
  | k + 1, i => if aAl B i j then i else flk B j k (i + 1)
def flv (B : BT) (j : Int) : Int := flk B j j.toNat 0
theorem flk_step {B : BT} {j i : Int} (k : Nat) (h : ¬ aAl B i j) : flk B j (k + 1) i = flk B j k (i + 1) := by
  show (if aAl B i j then i else _) = _
  rw [if_neg h]
theorem flk_hit {B : BT} {j i : Int} (k : Nat) (h : aAl B i j) : flk B j (k + 1) i = i := by
  show (if aAl B i j then i else _) = _
  rw [if_pos h]
theorem flk_r (B : BT) {j : Int} : ∀ (k : Nat) (i : Int), 0 ≤ i → i ≤ j → i + k ≤ j → 0 ≤ flk B j k i ∧ flk B j k i ≤ j
  | 0, i, h1, h2, h3 => by show 0 ≤ j ∧ j ≤ j; omega
  | k + 1, i, h1, h2, h3 => by
    unfold flk
    split
    · omega
    · exact flk_r B k (i + 1) (by omega) (by omega) (by omega)
theorem flv_r (B : BT) {j : Int} (h : 0 ≤ j) : 0 ≤ flv B j ∧ flv B j ≤ j := flk_r B _ 0 (by omega) h (by omega)
def sLike (B : BT) (j : Int) : BT := mkB (bK B) (bU B) (bL B) (bV B) (bD B) (put0 40 (bE B) j (flv B j)) (bN B) (bZ B) (lP B) (lQ B) (wP B) (wQ B)
def cuU : Nat → BT → Int → Int → BT × Int
  | 0, B, _, u => (B, u)
  | k + 1, B, j, u => cuU k (sLike B j) (j + 1) (if flv B j = j then u + 1 else u)
def sUn (B : BT) : BT := (cuU (bN B).toNat B 0 0).1
def nUn (B : BT) : Int := (cuU (bN B).toNat B 0 0).2
theorem WF_like {B : BT} {j : Int} (h : WFB B) (hj : 0 ≤ j ∧ j ≤ 65535) : WFB (sLike B j) := by
  obtain ⟨h1, h2, h3, h4, h5, h6, h7, h8, h9⟩ := h
  have := flv_r B hj.1
  exact ⟨h1, h2, h3, h4, h5, h6, h7, put0_bnd (P := fun v => -1 ≤ v ∧ v ≤ 65535) h8 (by omega), h9⟩
end
section
/-! the Parser as a value: builder, awaited, open, numberNode; a step: the next value, and whether it takes the sign -/
abbrev PT : Type := BT × Int × Int × Int
def pB (S : PT) : BT := S.1
def pA (S : PT) : Int := S.2.1
def pO (S : PT) : Int := S.2.2.1
def pM (S : PT) : Int := S.2.2.2
def mkP (B : BT) (a o n : Int) : PT := (B, a, o, n)
def tkA (S : PT) (c : Int) : PT × Int :=
  if 48 ≤ c ∧ c ≤ 57 then (mkP (sAddNum (pB S) (c - 48)) 3 (pO S) (bN (pB S)), 1)
  else if c = 120 then (mkP (sAddX (pB S)) 3 (pO S) (pM S), 1)
  else if c = 45 then (mkP (sWait (pB S) 110) (pA S) (pO S) (pM S), 1)
  else if c = 40 then (mkP (sWait (pB S) c) (pA S) (pO S + 1) (pM S), 1)
  else if fnO c = -1 then (S, 0)
  else (mkP (sWait (pB S) c) 1 (pO S) (pM S), 1)
def tkO (S : PT) (c : Int) : PT × Int := if c = 40 then (mkP (pB S) 0 (pO S + 1) (pM S), 1) else (S, 0)
def tkE (S : PT) (c : Int) : PT × Int := if 48 ≤ c ∧ c ≤ 57 then (mkP (sPower (pB S) (c - 48)) 4 (pO S) (pM S), 1) else (S, 0)
def tkD (S : PT) (c : Int) : PT × Int := if pM S = -1 then (S, 0) else if 1 ≤ at0 40 (bU (pB S)) (pM S) ∧ at0 40 (bU (pB S)) (pM S) ≤ 99 then (mkP (sDigit (pB S) (pM S) (c - 48)) (pA S) (pO S) (pM S), 1) else (S, 0)
def tkB (S : PT) (c : Int) : PT × Int :=
  if 48 ≤ c ∧ c ≤ 57 then tkD S c
  else if c = 94 ∧ pA S = 3 then (mkP (pB S) 2 (pO S) (-1), 1)
  else if c = 41 ∧ 0 < pO S then (mkP (sClose (pB S)) 3 (pO S - 1) (-1), 1)
  else if c = 43 ∨ c = 45 ∨ c = 42 ∨ c = 47 then (mkP (sSign (pB S) c) 0 (pO S) (-1), 1)
  else (mkP (pB S) (pA S) (pO S) (-1), 0)
def tk (S : PT) (c : Int) : PT × Int := if pA S = 0 then tkA S c else if pA S = 1 then tkO S c else if pA S = 2 then tkE S c else tkB S c
theorem lvl_ge {c : Int} (h : c = 43 ∨ c = 45 ∨ c = 42 ∨ c = 47) : 1 ≤ lvl c := by rcases h with rfl | rfl | rfl | rfl <;> decide
/-- what holds when i signs have been read -/
def WFP (i : Int) (S : PT) : Prop := WFB (pB S) ∧ fil (pB S) ≤ i ∧ (0 ≤ pA S ∧ pA S ≤ 4 ∧ 0 ≤ pO S ∧ pO S ≤ i ∧ -1 ≤ pM S ∧ pM S ≤ 40)
theorem fil_add {B : BT} {k u a b : Int} (h : fil B ≤ 39) : fil (sAdd B k u a b) ≤ fil B + 1 := by
  simp only [fil, sAdd, bN_mk, wP_mk] at h ⊢
  omega
theorem fil_wait {B : BT} {x : Int} : fil (sWait B x) ≤ fil B + 1 := by
  simp only [fil, sWait, bN_mk, wP_mk, pN]
  split <;> omega
theorem fil_lpop {B : BT} : fil (sLPop B) = fil B := rfl
theorem fil_wpop_le {B : BT} : fil (sWPop B) ≤ fil B := by
  simp only [fil, sWPop, bN_mk, wP_mk, oN]
  split <;> omega
theorem fil_wpop_eq {B : BT} (h : WFB B) (hp : 0 ≤ wTop B) : fil (sWPop B) = fil B - 1 := by
  have h0 := h.1
  have hp := wTop_pos hp
  simp only [fil, sWPop, bN_mk, wP_mk, oN]
  rw [if_pos hp]; omega
theorem fil_least {B : BT} {z : Int} : fil (sLeast B z) = fil B := rfl
theorem fil_close {B : BT} (h : WFB B) : fil (sClose B) ≤ fil B := by
  have hj := WF_joinF (v := 1) (by omega) h
  have e := fil_joinF (v := 1) (by omega) h
  have hr := fnO_r (wTop (sJoinF 1 B))
  unfold sClose
  split
  · rw [fil_finA (WF_wpop hj)]
    have := fil_wpop_le (B := sJoinF 1 B)
    omega
  · have hq := fil_wpop hj (fnO_pos ‹_›)
    have hz := fil_wpop_eq hj (fnO_pos ‹_›)
    rw [fil_finA (WF_call (WF_wpop hj) hq (by omega))]
    unfold sCall
    rw [fil_least]
    have := fil_add (B := sLPop (sWPop (sJoinF 1 B))) (k := 99) (u := fnO (wTop (sJoinF 1 B))) (a := lTop (sWPop (sJoinF 1 B))) (b := -1) (by rw [fil_lpop]; exact hq)
    rw [fil_lpop] at this
    omega
theorem WF_tkD {i : Int} {S : PT} {c : Int} (h : WFP i S) (hi : i ≤ 39) (hc : 48 ≤ c ∧ c ≤ 57) : WFP (i + 1) (tkD S c).1 := by
  obtain ⟨h1, h2, h3⟩ := h
  have hk : WFP (i + 1) S := ⟨h1, by omega, by omega⟩
  unfold tkD
  split
  · exact hk
  · split
    · refine ⟨WF_digit h1 (by omega) (by omega), ?_, ?_⟩
      · show fil (pB S) ≤ i + 1
        omega
      · simp only [mkP, pA, pO, pM] at h3 ⊢
        omega
    · exact hk
theorem WF_tk {i : Int} {S : PT} {c : Int} (h : WFP i S) (hi : i ≤ 39) (hc : 0 ≤ c ∧ c ≤ 65535) : WFP (i + 1) (tk S c).1 := by
  obtain ⟨h1, h2, h3⟩ := id h
  have h10 := h1.1
  have hf : fil (pB S) ≤ 39 := by omega
  have hff : bN (pB S) + wP (pB S) ≤ 39 := hf
  have hk : WFP (i + 1) S := ⟨h1, by omega, by omega⟩
  unfold tk
  split
  · unfold tkA
    split
    · have q := WF_addNum (d := c - 48) h1 hf (by omega)
      refine ⟨q, ?_, ?_⟩
      · show fil (sAddNum (pB S) (c - 48)) ≤ i + 1
        unfold sAddNum
        rw [fil_finA (WF_add h1 hf (by omega) (by omega) (by omega) (by omega))]
        have := fil_add (B := pB S) (k := 48) (u := c - 48) (a := -1) (b := -1) hf
        omega
      · simp only [mkP, pA, pO, pM] at h3 ⊢
        have : bN (pB S) = bN S.1 := rfl
        omega
    · split
      · refine ⟨WF_addX h1 hf, ?_, ?_⟩
        · show fil (sAddX (pB S)) ≤ i + 1
          unfold sAddX
          rw [fil_finA (WF_add h1 hf (by omega) (by omega) (by omega) (by omega))]
          have := fil_add (B := pB S) (k := 120) (u := 0) (a := -1) (b := -1) hf
          omega
        · simp only [mkP, pA, pO, pM] at h3 ⊢
          omega
      · split
        · refine ⟨WF_wait h1 (by omega) hff, ?_, ?_⟩
          · have := fil_wait (B := pB S) (x := 110)
            show fil (sWait (pB S) 110) ≤ i + 1
            omega
          · simp only [mkP, pA, pO, pM] at h3 ⊢
            omega
        · split
          · refine ⟨WF_wait h1 (by omega) hff, ?_, ?_⟩
            · have := fil_wait (B := pB S) (x := c)
              show fil (sWait (pB S) c) ≤ i + 1
              omega
            · simp only [mkP, pA, pO, pM] at h3 ⊢
              omega
          · split
            · exact hk
            · refine ⟨WF_wait h1 (by omega) hff, ?_, ?_⟩
              · have := fil_wait (B := pB S) (x := c)
                show fil (sWait (pB S) c) ≤ i + 1
                omega
              · simp only [mkP, pA, pO, pM] at h3 ⊢
                omega
  · split
    · unfold tkO
      split
      · refine ⟨h1, by show fil (pB S) ≤ i + 1; omega, ?_⟩
        simp only [mkP, pA, pO, pM] at h3 ⊢
        omega
      · exact hk
    · split
      · unfold tkE
        split
        · have q := WF_power (d := c - 48) h1 hf (by omega)
          refine ⟨q, ?_, ?_⟩
          · show fil (sPower (pB S) (c - 48)) ≤ i + 1
            unfold sPower
            have := fil_add (B := sLPop (pB S)) (k := 94) (u := c - 48) (a := lTop (pB S)) (b := -1) (by rw [fil_lpop]; exact hf)
            rw [fil_lpop] at this
            omega
          · simp only [mkP, pA, pO, pM] at h3 ⊢
            omega
        · exact hk
      · unfold tkB
        split
        · exact WF_tkD h hi ‹_›
        · split
          · refine ⟨h1, by show fil (pB S) ≤ i + 1; omega, ?_⟩
            simp only [mkP, pA, pO, pM] at h3 ⊢
            omega
          · split
            · refine ⟨WF_close h1, ?_, ?_⟩
              · have := fil_close h1
                show fil (sClose (pB S)) ≤ i + 1
                omega
              · simp only [mkP, pA, pO, pM] at *
                omega
            · split
              · have hl : 1 ≤ lvl c := lvl_ge (by omega)
                have hj := WF_joinF hl h1
                have ej := fil_joinF hl h1
                have ejj : bN (sJoinF (lvl c) (pB S)) + wP (sJoinF (lvl c) (pB S)) ≤ 39 := by
                  have : fil (sJoinF (lvl c) (pB S)) = bN (sJoinF (lvl c) (pB S)) + wP (sJoinF (lvl c) (pB S)) := rfl
                  omega
                refine ⟨WF_wait hj (by omega) ejj, ?_, ?_⟩
                · have := fil_wait (B := sJoinF (lvl c) (pB S)) (x := c)
                  show fil (sWait (sJoinF (lvl c) (pB S)) c) ≤ i + 1
                  omega
                · simp only [mkP, pA, pO, pM] at h3 ⊢
                  omega
              · refine ⟨h1, by show fil (pB S) ≤ i + 1; omega, ?_⟩
                simp only [mkP, pA, pO, pM] at h3 ⊢
                omega
/-- the reading of a text: signs f, from place i on, k of them left; -2: all are taken -/
def feL (f : Nat → Int) : Nat → Int → PT → PT × Int
  | 0, _, S => (S, -2)
  | k + 1, i, S => if (tk S (f i.toNat)).2 = 0 then ((tk S (f i.toNat)).1, i) else feL f k (i + 1) (tk S (f i.toNat)).1
def feZ (n : Int) (q : PT × Int) : PT × Int := if q.2 = -2 then (if 0 < pO q.1 ∨ (¬ pA q.1 = 3 ∧ ¬ pA q.1 = 4) then (q.1, n) else (mkP (sJoinF 1 (pB q.1)) (pA q.1) (pO q.1) (pM q.1), -1)) else q
def fe0 (B : BT) : PT := mkP (sClear B) 0 0 (-1)
def fe (B : BT) (f : Nat → Int) (n : Int) : PT × Int := feZ n (feL f n.toNat 0 (fe0 B))
theorem WF_fe0 {B : BT} (h : WFB B) : WFP 0 (fe0 B) := ⟨WF_clear h, (by show (0 : Int) + 0 ≤ 0; decide), (by show (0 : Int) ≤ 0 ∧ (0 : Int) ≤ 4 ∧ (0 : Int) ≤ 0 ∧ (0 : Int) ≤ 0 ∧ -1 ≤ (-1 : Int) ∧ (-1 : Int) ≤ 40; decide)⟩
theorem tk_01 (S : PT) (c : Int) : (tk S c).2 = 0 ∨ (tk S c).2 = 1 := by
  unfold tk tkA tkO tkE tkB tkD
  repeat' split
  all_goals first | exact Or.inl rfl | exact Or.inr rfl
theorem feL_stop {f : Nat → Int} {k : Nat} {i : Int} {S : PT} (h : (tk S (f i.toNat)).2 = 0) : feL f (k + 1) i S = ((tk S (f i.toNat)).1, i) := by
  show (if (tk S (f i.toNat)).2 = 0 then _ else _) = _
  rw [if_pos h]
theorem feL_step {f : Nat → Int} {k : Nat} {i : Int} {S : PT} (h : ¬ (tk S (f i.toNat)).2 = 0) : feL f (k + 1) i S = feL f k (i + 1) (tk S (f i.toNat)).1 := by
  show (if (tk S (f i.toNat)).2 = 0 then _ else _) = _
  rw [if_neg h]
theorem tkD_01 (S : PT) (c : Int) : (tkD S c).2 = 0 ∨ (tkD S c).2 = 1 := by
  unfold tkD
  repeat' split
  all_goals first | exact Or.inl rfl | exact Or.inr rfl
theorem tkA_01 (S : PT) (c : Int) : (tkA S c).2 = 0 ∨ (tkA S c).2 = 1 := by
  unfold tkA
  repeat' split
  all_goals first | exact Or.inl rfl | exact Or.inr rfl
theorem tkO_01 (S : PT) (c : Int) : (tkO S c).2 = 0 ∨ (tkO S c).2 = 1 := by
  unfold tkO
  repeat' split
  all_goals first | exact Or.inl rfl | exact Or.inr rfl
theorem tkE_01 (S : PT) (c : Int) : (tkE S c).2 = 0 ∨ (tkE S c).2 = 1 := by
  unfold tkE
  repeat' split
  all_goals first | exact Or.inl rfl | exact Or.inr rfl
theorem tkB_01 (S : PT) (c : Int) : (tkB S c).2 = 0 ∨ (tkB S c).2 = 1 := by
  unfold tkB tkD
  repeat' split
  all_goals first | exact Or.inl rfl | exact Or.inr rfl
end
section
/-! expressions as values: how many nodes; kinds, numbers, lefts, rights -/
abbrev EX : Type := Nat × (Nat → Int) × (Nat → Int) × (Nat → Int) × (Nat → Int)
def eN (E : EX) : Nat := E.1
def eK (E : EX) : Nat → Int := E.2.1
def eU (E : EX) : Nat → Int := E.2.2.1
def eL (E : EX) : Nat → Int := E.2.2.2.1
def eV (E : EX) : Nat → Int := E.2.2.2.2
def mkE (n : Nat) (K U L V : Nat → Int) : EX := (n, K, U, L, V)
/-- a place of a row of nodes, 0 where there is none -/
def gv (w : Nat → Int) (i : Int) : Int := if 0 ≤ i ∧ i < 40 then w i.toNat else 0
def inv' (p v : Int) : Int := v ^ (p - 2).toNat % p
/-- the value of a node that is no call -/
def nvn (p : Int) (E : EX) (x : Int) (w : Nat → Int) (k : Nat) : Int :=
  if eK E k = 48 then eU E k % p
  else if eK E k = 120 then x
  else if eK E k = 110 then (0 - gv w (eL E k)) % p
  else if eK E k = 43 then (gv w (eL E k) + gv w (eV E k)) % p
  else if eK E k = 45 then (gv w (eL E k) - gv w (eV E k)) % p
  else if eK E k = 42 then gv w (eL E k) * gv w (eV E k) % p
  else if eK E k = 47 then (if gv w (eV E k) = 0 then -1 else gv w (eL E k) * inv' p (gv w (eV E k)) % p)
  else if eK E k = 94 then gv w (eL E k) ^ (eU E k).toNat % p
  else -1
/-- the value of a node: of a call by cv -/
def nvl (p : Int) (E : EX) (cv : Nat → Int → Int) (x : Int) (w : Nat → Int) (k : Nat) : Int :=
  if eK E k = 99 then cv (eU E k).toNat (gv w (eL E k)) else nvn p E x w k
/-- the values of the first k nodes, and whether none is banned -/
def evs (p : Int) (E : EX) (cv : Nat → Int → Int) (x : Int) : Nat → (Nat → Int) × Bool
  | 0 => (fun _ => 0, true)
  | k + 1 => (up (evs p E cv x k).1 k (nvl p E cv x (evs p E cv x k).1 k), (evs p E cv x k).2 && decide (¬ nvl p E cv x (evs p E cv x k).1 k = -1))
def vof (p : Int) (E : EX) (cv : Nat → Int → Int) (x : Int) : Int := if (evs p E cv x (eN E)).2 = true then (evs p E cv x (eN E)).1 (eN E - 1) else -1
/-- the slope of a node by hinges: w values, z slopes, ch the slopes of calls, sx that of x -/
def nsl (p : Int) (E : EX) (ch : Nat → Int → Int) (sx : Int) (w z : Nat → Int) (k : Nat) : Int :=
  if eK E k = 120 then sx
  else if eK E k = 110 then (0 - gv z (eL E k)) % p
  else if eK E k = 43 then (gv z (eL E k) + gv z (eV E k)) % p
  else if eK E k = 45 then (gv z (eL E k) - gv z (eV E k)) % p
  else if eK E k = 42 then (gv z (eL E k) * gv w (eV E k) + gv w (eL E k) * gv z (eV E k)) % p
  else if eK E k = 47 then ((gv z (eL E k) * gv w (eV E k) - gv w (eL E k) * gv z (eV E k)) % p) * inv' p (gv w (eV E k) * gv w (eV E k) % p) % p
  else if eK E k = 94 then (eU E k * (gv w (eL E k) ^ (eU E k - 1).toNat % p) % p) * gv z (eL E k) % p
  else if eK E k = 99 then ch (eU E k).toNat (gv w (eL E k)) * gv z (eL E k) % p
  else 0
def hns (p : Int) (E : EX) (cv ch : Nat → Int → Int) (x sx : Int) : Nat → Nat → Int
  | 0 => fun _ => 0
  | k + 1 => up (hns p E cv ch x sx k) k (nsl p E ch sx (evs p E cv x k).1 (hns p E cv ch x sx k) k)
def hof (p : Int) (E : EX) (cv ch : Nat → Int → Int) (x sx : Int) : Int := if (evs p E cv x (eN E)).2 = true then hns p E cv ch x sx (eN E) (eN E - 1) else -1
/-- values and slopes of the functions, told by those of lesser numbers -/
def VVt (p : Int) (ES : Nat → EX) : Nat → Nat → Int → Int
  | 0 => fun _ _ => -1
  | d + 1 => fun f x => if f = d then vof p (ES d) (VVt p ES d) x else VVt p ES d f x
def HHt (p : Int) (ES : Nat → EX) : Nat → Nat → Int → Int
  | 0 => fun _ _ => -1
  | d + 1 => fun f x => if f = d then hof p (ES d) (VVt p ES d) (HHt p ES d) x 1 else HHt p ES d f x
def vv (p : Int) (ES : Nat → EX) (f : Nat) (x : Int) : Int := VVt p ES 4 f x
def hh (p : Int) (ES : Nat → EX) (f : Nat) (x : Int) : Int := HHt p ES 4 f x
def hf (p : Int) (ES : Nat → EX) (f : Nat) (x sx : Int) : Int := hof p (ES f) (vv p ES) (hh p ES) x sx
/-- a well-made expression, for a function of number f: each node's parts lie ahead of it -/
def WFK (E : EX) (f : Nat) (k : Nat) : Prop :=
  (eK E k = 48 ∧ 0 ≤ eU E k ∧ eU E k ≤ 999 ∧ eL E k = -1 ∧ eV E k = -1) ∨
  (eK E k = 120 ∧ eU E k = 0 ∧ eL E k = -1 ∧ eV E k = -1) ∨
  (eK E k = 110 ∧ eU E k = 0 ∧ 0 ≤ eL E k ∧ eL E k < k ∧ eV E k = -1) ∨
  ((eK E k = 43 ∨ eK E k = 45 ∨ eK E k = 42 ∨ eK E k = 47) ∧ eU E k = 0 ∧ 0 ≤ eL E k ∧ eL E k < k ∧ 0 ≤ eV E k ∧ eV E k < k ∧ ¬ eL E k = eV E k) ∨
  (eK E k = 94 ∧ 0 ≤ eU E k ∧ eU E k ≤ 9 ∧ 0 ≤ eL E k ∧ eL E k < k ∧ eV E k = -1) ∨
  (eK E k = 99 ∧ 0 ≤ eU E k ∧ eU E k < f ∧ 0 ≤ eL E k ∧ eL E k < k ∧ eV E k = -1)
def WFE (E : EX) (f : Nat) : Prop := (1 ≤ eN E ∧ eN E ≤ 40) ∧ (∀ k, k < eN E → WFK E f k) ∧ (∀ j, j + 1 < eN E → ∃ k, k < eN E ∧ (eL E k = j ∨ eV E k = j) ∧ ∀ i, i < eN E → (eL E i = j ∨ eV E i = j) → i = k)
def PRM (p : Int) : Prop := 2 ≤ p ∧ p ≤ 199 ∧ ∀ d : Int, 2 ≤ d → d < p → ¬ p % d = 0
theorem evs_congr {p : Int} {E : EX} {cv cw : Nat → Int → Int} {x : Int} {f : Nat} (h : ∀ j, j < f → ∀ u, cv j u = cw j u) : ∀ k, (∀ i, i < k → WFK E f i) → evs p E cv x k = evs p E cw x k
  | 0, _ => rfl
  | k + 1, hk => by
    have ih := evs_congr (p := p) (x := x) h k (fun i hi => hk i (by omega))
    have e : nvl p E cv x (evs p E cw x k).1 k = nvl p E cw x (evs p E cw x k).1 k := by
      unfold nvl
      by_cases hc : eK E k = 99
      · rw [if_pos hc, if_pos hc]
        have hw := hk k (by omega)
        unfold WFK at hw
        exact h _ (by omega) _
      · rw [if_neg hc, if_neg hc]
    simp only [evs, ih, e]
theorem vof_congr {p : Int} {E : EX} {cv cw : Nat → Int → Int} {x : Int} {f : Nat} (hE : WFE E f) (h : ∀ j, j < f → ∀ u, cv j u = cw j u) : vof p E cv x = vof p E cw x := by
  unfold vof
  rw [evs_congr h (eN E) hE.2.1]
theorem VVt_stab {p : Int} {ES : Nat → EX} {f : Nat} : ∀ d, f < d → ∀ x, VVt p ES d f x = VVt p ES (f + 1) f x
  | 0, h, _ => absurd h (Nat.not_lt_zero _)
  | d + 1, h, x => by
    by_cases e : f = d
    · subst e; rfl
    · show (if f = d then _ else VVt p ES d f x) = _
      rw [if_neg e]
      exact VVt_stab d (by omega) x
theorem vv_eq {p : Int} {ES : Nat → EX} {f : Nat} (hf : f < 4) (hE : WFE (ES f) f) (x : Int) : vv p ES f x = vof p (ES f) (vv p ES) x := by
  unfold vv
  rw [VVt_stab 4 hf]
  show (if f = f then vof p (ES f) (VVt p ES f) x else _) = _
  rw [if_pos rfl]
  refine vof_congr hE (fun j hj u => ?_)
  rw [VVt_stab f hj, VVt_stab 4 (by omega)]
theorem hns_congr {p : Int} {E : EX} {cv cw ch cg : Nat → Int → Int} {x sx : Int} {f : Nat} (h : ∀ j, j < f → ∀ u, cv j u = cw j u) (h2 : ∀ j, j < f → ∀ u, ch j u = cg j u) : ∀ k, (∀ i, i < k → WFK E f i) → hns p E cv ch x sx k = hns p E cw cg x sx k
  | 0, _ => rfl
  | k + 1, hk => by
    have ih := hns_congr (p := p) (x := x) (sx := sx) h h2 k (fun i hi => hk i (by omega))
    have ev := evs_congr (p := p) (x := x) h k (fun i hi => hk i (by omega))
    have e : ∀ w z, nsl p E ch sx w z k = nsl p E cg sx w z k := by
      intro w z
      unfold nsl
      by_cases hc : eK E k = 99
      · have hw := hk k (by omega)
        unfold WFK at hw
        rw [h2 (eU E k).toNat (by omega)]
      · simp only [if_neg hc]
    simp only [hns, ih, ev, e]
theorem hof_congr {p : Int} {E : EX} {cv cw ch cg : Nat → Int → Int} {x sx : Int} {f : Nat} (hE : WFE E f) (h : ∀ j, j < f → ∀ u, cv j u = cw j u) (h2 : ∀ j, j < f → ∀ u, ch j u = cg j u) : hof p E cv ch x sx = hof p E cw cg x sx := by
  unfold hof
  rw [evs_congr h (eN E) hE.2.1, hns_congr h h2 (eN E) hE.2.1]
theorem HHt_stab {p : Int} {ES : Nat → EX} {f : Nat} : ∀ d, f < d → ∀ x, HHt p ES d f x = HHt p ES (f + 1) f x
  | 0, h, _ => absurd h (Nat.not_lt_zero _)
  | d + 1, h, x => by
    by_cases e : f = d
    · subst e; rfl
    · show (if f = d then _ else HHt p ES d f x) = _
      rw [if_neg e]
      exact HHt_stab d (by omega) x
theorem hh_eq {p : Int} {ES : Nat → EX} {f : Nat} (h4 : f < 4) (hE : WFE (ES f) f) (x : Int) : hh p ES f x = hf p ES f x 1 := by
  unfold hh hf
  rw [HHt_stab 4 h4]
  show (if f = f then hof p (ES f) (VVt p ES f) (HHt p ES f) x 1 else _) = _
  rw [if_pos rfl]
  refine hof_congr hE (fun j hj u => ?_) (fun j hj u => ?_)
  · rw [VVt_stab f hj, vv, VVt_stab 4 (by omega)]
  · rw [HHt_stab f hj, hh, HHt_stab 4 (by omega)]
/-- what stays of the first k values -/
theorem evs_keep {p : Int} {E : EX} {cv : Nat → Int → Int} {x : Int} {j : Nat} : ∀ k, j < k → (evs p E cv x k).1 j = (evs p E cv x (j + 1)).1 j
  | 0, h => absurd h (Nat.not_lt_zero _)
  | k + 1, h => by
    by_cases e : j = k
    · subst e; rfl
    · show up _ k _ j = _
      rw [up_n (by omega)]
      exact evs_keep k (by omega)
theorem evs_ok {p : Int} {E : EX} {cv : Nat → Int → Int} {x : Int} : ∀ k j, j ≤ k → (evs p E cv x k).2 = true → (evs p E cv x j).2 = true
  | 0, j, h, h2 => by rw [show j = 0 by omega]; exact h2
  | k + 1, j, h, h2 => by
    by_cases e : j = k + 1
    · rw [e]; exact h2
    · refine evs_ok k j (by omega) ?_
      have h3 : ((evs p E cv x k).2 && decide (¬ nvl p E cv x (evs p E cv x k).1 k = -1)) = true := h2
      rw [Bool.and_eq_true] at h3
      exact h3.1
theorem evs_nb {p : Int} {E : EX} {cv : Nat → Int → Int} {x : Int} {k : Nat} (h : (evs p E cv x (k + 1)).2 = true) : ¬ nvl p E cv x (evs p E cv x k).1 k = -1 := by
  have h3 : ((evs p E cv x k).2 && decide (¬ nvl p E cv x (evs p E cv x k).1 k = -1)) = true := h
  rw [Bool.and_eq_true] at h3
  exact of_decide_eq_true h3.2
theorem evs_go {p : Int} {E : EX} {cv : Nat → Int → Int} {x : Int} {k : Nat} (h : (evs p E cv x k).2 = true) (h2 : ¬ nvl p E cv x (evs p E cv x k).1 k = -1) : (evs p E cv x (k + 1)).2 = true := by
  show ((evs p E cv x k).2 && decide (¬ nvl p E cv x (evs p E cv x k).1 k = -1)) = true
  rw [h, Bool.true_and]
  exact decide_eq_true h2
theorem evs_bad {p : Int} {E : EX} {cv : Nat → Int → Int} {x : Int} {k n : Nat} (hk : k < n) (h2 : nvl p E cv x (evs p E cv x k).1 k = -1) : ¬ (evs p E cv x n).2 = true := fun h => evs_nb (evs_ok n (k + 1) (by omega) h) h2
end
section
/-! the Reckoner: what is frozen (a State and what hangs on it), and its tables as a value -/
/-- State, Remainders, the four Expressions, their rows, the expressions, depth, unlike, least, the prime -/
abbrev FT : Type := Nat × Nat × (Nat → Nat) × (Nat → Nat → Nat) × (Nat → EX) × (Nat → Int) × (Nat → Int) × (Nat → Int) × Int
def fS (F : FT) : Nat := F.1
def fR (F : FT) : Nat := F.2.1
def fX (F : FT) : Nat → Nat := F.2.2.1
def fK (F : FT) : Nat → Nat → Nat := F.2.2.2.1
def fE (F : FT) : Nat → EX := F.2.2.2.2.1
def fD (F : FT) : Nat → Int := F.2.2.2.2.2.1
def fU (F : FT) : Nat → Int := F.2.2.2.2.2.2.1
def fL (F : FT) : Nat → Int := F.2.2.2.2.2.2.2.1
def fP (F : FT) : Int := F.2.2.2.2.2.2.2.2
def stW (F : FT) : va_W := [(fS F, .inr (7, [.ref (fR F), .ref (fX F 0), .ref (fX F 1), .ref (fX F 2), .ref (fX F 3)])), (fR F, .inr (6, [.int (iI (fP F))]))]
def exW (g : GG) (F : FT) (f : Nat) : va_W := [(fX F f, .inr (1, [.ref (fK F f 1), .ref (fK F f 2), .ref (fK F f 3), .ref (fK F f 4), .int (iI (fD F f)), .int (iI (fU F f)), .int (iI (fL F f))])), (fK F f 1, gI g (eN (fE F f)) (eK (fE F f))), (fK F f 2, gI g (eN (fE F f)) (eU (fE F f))), (fK F f 3, gI g (eN (fE F f)) (eL (fE F f))), (fK F f 4, gI g (eN (fE F f)) (eV (fE F f)))]
def FX (g : GG) (F : FT) (H : Heap) : Prop := va_P g.1 vwCl (stW F) H ∧ ∀ f, f < 4 → va_P g.1 vwCl (exW g F f) H
def fzA (F : FT) (q : Nat) : Prop := q = fS F ∨ q = fR F ∨ ∃ f, f < 4 ∧ (q = fX F f ∨ q = fK F f 1 ∨ q = fK F f 2 ∨ q = fK F f 3 ∨ q = fK F f 4)
theorem va_P.lt9 {D : va_G} {cl : List vw_C} {ws : va_W} {H : Heap} (h : va_P D cl ws H) {k : Nat} {q : Nat × va_E} (hk : ws[k]? = some q) : q.1 < H.size := (h k q hk).lt
theorem FX_lt {g : GG} {F : FT} {H : Heap} (h : FX g F H) {q : Nat} (hq : fzA F q) : q < H.size := by
  rcases hq with rfl | rfl | ⟨f, hf, rfl | rfl | rfl | rfl | rfl⟩
  · exact va_P.lt9 h.1 (k := 0) rfl
  · exact va_P.lt9 h.1 (k := 1) rfl
  · exact va_P.lt9 (h.2 f hf) (k := 0) rfl
  · exact va_P.lt9 (h.2 f hf) (k := 1) rfl
  · exact va_P.lt9 (h.2 f hf) (k := 2) rfl
  · exact va_P.lt9 (h.2 f hf) (k := 3) rfl
  · exact va_P.lt9 (h.2 f hf) (k := 4) rfl
theorem FX_kept {g : GG} {F : FT} {H H1 : Heap} (h : FX g F H) (hk : ∀ q, fzA F q → H1[q]? = H[q]?) : FX g F H1 := by
  refine ⟨h.1.kept (fun k q hq => hk _ ?_), fun f hf => (h.2 f hf).kept (fun k q hq => hk _ ?_)⟩
  · match k, hq with
    | 0, hq => cases hq; exact Or.inl rfl
    | 1, hq => cases hq; exact Or.inr (Or.inl rfl)
    | k + 2, hq => simp [stW] at hq
  · match k, hq with
    | 0, hq => cases hq; exact Or.inr (Or.inr ⟨f, hf, Or.inl rfl⟩)
    | 1, hq => cases hq; exact Or.inr (Or.inr ⟨f, hf, Or.inr (Or.inl rfl)⟩)
    | 2, hq => cases hq; exact Or.inr (Or.inr ⟨f, hf, Or.inr (Or.inr (Or.inl rfl))⟩)
    | 3, hq => cases hq; exact Or.inr (Or.inr ⟨f, hf, Or.inr (Or.inr (Or.inr (Or.inl rfl)))⟩)
    | 4, hq => cases hq; exact Or.inr (Or.inr ⟨f, hf, Or.inr (Or.inr (Or.inr (Or.inr rfl)))⟩)
    | k + 5, hq => simp [exW] at hq
/-- in a method that may not touch what is frozen, it stays -/
theorem fz_out {g : GG} {F : FT} {H0 : Heap} {ws : va_W} {A : Nat → Prop} (hX : FX g F H0) (hD : va_D (fun q => ¬ fzA F q) ws) (hA : A = va_A ws H0.size) : ∀ q, A q → ¬ fzA F q := by
  intro q hq hz
  rw [hA] at hq
  rcases hq with ⟨k, e, hk⟩ | hq
  · exact hD.2 k _ hk hz
  · exact absurd (FX_lt hX hz) (by omega)
theorem fz_stay {g : GG} {F : FT} {A : Nat → Prop} {H0 H : Heap} {locs : List Loc} {ws : va_W} (hX : FX g F H0) (hO : ∀ q, A q → ¬ fzA F q) (hW : gW g A H0 H locs ws) : FX g F H := FX_kept hX (fun q hq => hW.2.2.2.1 q (FX_lt hX hq) (fun h => hO q h hq))
/-- the tables: values, slopes by hinges, slopes by rules (4 rows of 199), of the nodes values, slopes, weights (4 rows of 40) -/
abbrev RT : Type := (Nat → Int) × (Nat → Int) × (Nat → Int) × (Nat → Int) × (Nat → Int) × (Nat → Int)
def rV (r : RT) : Nat → Int := r.1
def rH (r : RT) : Nat → Int := r.2.1
def rR (r : RT) : Nat → Int := r.2.2.1
def nV (r : RT) : Nat → Int := r.2.2.2.1
def nS (r : RT) : Nat → Int := r.2.2.2.2.1
def nW (r : RT) : Nat → Int := r.2.2.2.2.2
def mkR (a b c d e f : Nat → Int) : RT := (a, b, c, d, e, f)
def row (T : Nat → Int) (u : Int) : Nat → Int := fun j => T (u * 40 + j).toNat
theorem gv_get (T : Nat → Int) (u k : Int) : (if 0 ≤ k ∧ k < 40 then T (u * 40 + k).toNat else 0) = gv (row T u) k := by
  unfold gv row
  by_cases h : 0 ≤ k ∧ k < 40
  · rw [if_pos h, if_pos h, show ((k.toNat : Nat) : Int) = k by omega]
  · rw [if_neg h, if_neg h]
theorem gv_of {w : Nat → Int} {i : Int} (h : 0 ≤ i ∧ i < 40) : gv w i = w i.toNat := if_pos h
theorem gv_neg {w : Nat → Int} : gv w (-1) = 0 := if_neg (by omega)
/-- values of the parts of a node -/
theorem gv_rng {w : Nat → Int} {p i : Int} {k : Nat} (hk : k ≤ 40) (hw : ∀ j, j < k → 0 ≤ w j ∧ w j < p) (hp : 0 < p) (hi : i = -1 ∨ (0 ≤ i ∧ i < k)) : 0 ≤ gv w i ∧ gv w i < p := by
  rcases hi with rfl | hi
  · rw [gv_neg]; omega
  · rw [gv_of (by omega)]
    exact hw _ (by omega)
theorem WFK_L {E : EX} {f k : Nat} (h : WFK E f k) : eL E k = -1 ∨ (0 ≤ eL E k ∧ eL E k < k) := by unfold WFK at h; omega
theorem WFK_V {E : EX} {f k : Nat} (h : WFK E f k) : eV E k = -1 ∨ (0 ≤ eV E k ∧ eV E k < k) := by unfold WFK at h; omega
theorem WFK_U {E : EX} {f k : Nat} (h : WFK E f k) (h4 : f < 4) : 0 ≤ eU E k ∧ eU E k ≤ 999 ∧ (eK E k = 94 → eU E k ≤ 9) ∧ (eK E k = 99 → eU E k < f) := by unfold WFK at h; omega
theorem WFK_K {E : EX} {f k : Nat} (h : WFK E f k) : eK E k = 48 ∨ eK E k = 120 ∨ eK E k = 110 ∨ eK E k = 43 ∨ eK E k = 45 ∨ eK E k = 42 ∨ eK E k = 47 ∨ eK E k = 94 ∨ eK E k = 99 := by unfold WFK at h; omega
theorem gv_congr {w z : Nat → Int} {i : Int} {k : Nat} (h : ∀ j, j < k → w j = z j) (hi : i = -1 ∨ (0 ≤ i ∧ i < k)) : gv w i = gv z i := by
  rcases hi with rfl | hi
  · rw [gv_neg, gv_neg]
  · unfold gv
    by_cases e : 0 ≤ i ∧ i < 40
    · rw [if_pos e, if_pos e, h _ (by omega)]
    · rw [if_neg e, if_neg e]
theorem nvn_congr {p : Int} {E : EX} {x : Int} {w z : Nat → Int} {f k : Nat} (hE : WFK E f k) (h : ∀ j, j < k → w j = z j) : nvn p E x w k = nvn p E x z k := by
  unfold nvn
  rw [gv_congr h (WFK_L hE), gv_congr h (WFK_V hE)]
theorem nsl_congr {p : Int} {E : EX} {ch : Nat → Int → Int} {sx : Int} {w w' z z' : Nat → Int} {f k : Nat} (hE : WFK E f k) (h : ∀ j, j < k → w j = w' j) (h2 : ∀ j, j < k → z j = z' j) : nsl p E ch sx w z k = nsl p E ch sx w' z' k := by
  unfold nsl
  rw [gv_congr h (WFK_L hE), gv_congr h (WFK_V hE), gv_congr h2 (WFK_L hE), gv_congr h2 (WFK_V hE)]
theorem inv'_rng {p v : Int} (hp : 0 < p) : 0 ≤ inv' p v ∧ inv' p v < p := emod_rng _ hp
/-- a node's value is a number, or the ban -/
theorem nvn_rng {p : Int} {E : EX} {x : Int} {w : Nat → Int} {k : Nat} (hp : 0 < p) (hx : 0 ≤ x ∧ x < p) : nvn p E x w k = -1 ∨ (0 ≤ nvn p E x w k ∧ nvn p E x w k < p) := by
  unfold nvn
  repeat' split
  all_goals first | exact Or.inl rfl | exact Or.inr (emod_rng _ hp) | exact Or.inr hx
theorem evs_rng {p : Int} {E : EX} {cv : Nat → Int → Int} {x : Int} {f : Nat} (hp : 0 < p) (hx : 0 ≤ x ∧ x < p) (hc : ∀ j u, j < f → 0 ≤ u → u < p → cv j u = -1 ∨ (0 ≤ cv j u ∧ cv j u < p)) : ∀ k, k ≤ 40 → (∀ i, i < k → WFK E f i) → (evs p E cv x k).2 = true → ∀ j, j < k → 0 ≤ (evs p E cv x k).1 j ∧ (evs p E cv x k).1 j < p
  | 0, _, _, _, j, hj => absurd hj (Nat.not_lt_zero _)
  | k + 1, h40, hk, h, j, hj => by
    have h1 := evs_ok (k + 1) k (by omega) h
    have ih := evs_rng hp hx hc k (by omega) (fun i hi => hk i (by omega)) h1
    by_cases e : j = k
    · subst e
      show 0 ≤ up _ j (nvl p E cv x (evs p E cv x j).1 j) j ∧ up _ j (nvl p E cv x (evs p E cv x j).1 j) j < p
      rw [up_s]
      have hb := evs_nb h
      have hw := hk j (by omega)
      unfold nvl at hb ⊢
      by_cases h9 : eK E j = 99
      · rw [if_pos h9] at hb ⊢
        have hu := gv_rng (w := (evs p E cv x j).1) (p := p) (i := eL E j) (k := j) (by omega) (fun i hi => ih i hi) hp (WFK_L hw)
        have hU : 0 ≤ eU E j ∧ eU E j < f := by unfold WFK at hw; omega
        rcases hc (eU E j).toNat (gv (evs p E cv x j).1 (eL E j)) (by omega) hu.1 hu.2 with q | q
        · exact absurd q hb
        · exact q
      · rw [if_neg h9] at hb ⊢
        rcases nvn_rng (p := p) (E := E) (x := x) (w := (evs p E cv x j).1) (k := j) hp hx with q | q
        · exact absurd q hb
        · exact q
    · show 0 ≤ up _ k _ j ∧ up _ k _ j < p
      rw [up_n (by omega)]
      exact ih j (by omega)
theorem vof_rng {p : Int} {E : EX} {cv : Nat → Int → Int} {x : Int} {f : Nat} (hp : 0 < p) (hx : 0 ≤ x ∧ x < p) (hc : ∀ j u, j < f → 0 ≤ u → u < p → cv j u = -1 ∨ (0 ≤ cv j u ∧ cv j u < p)) (hE : WFE E f) : vof p E cv x = -1 ∨ (0 ≤ vof p E cv x ∧ vof p E cv x < p) := by
  unfold vof
  by_cases h : (evs p E cv x (eN E)).2 = true
  · rw [if_pos h]
    have hn := hE.1
    exact Or.inr (evs_rng hp hx hc (eN E) hn.2 hE.2.1 h (eN E - 1) (by omega))
  · rw [if_neg h]; exact Or.inl rfl
theorem vv_rng {p : Int} {ES : Nat → EX} (hp : 0 < p) (hE : ∀ f, f < 4 → WFE (ES f) f) : ∀ f, f < 4 → ∀ x, 0 ≤ x → x < p → vv p ES f x = -1 ∨ (0 ≤ vv p ES f x ∧ vv p ES f x < p) := by
  intro f
  induction f using Nat.strongRecOn with
  | ind f ih =>
    intro hf x h1 h2
    rw [vv_eq hf (hE f hf)]
    exact vof_rng hp ⟨h1, h2⟩ (fun j u hj a b => ih j hj (by omega) u a b) (hE f hf)
end
section
/-! what the Reckoner's tables keep: a value or a slope, or that it isn't known -/
def GF (F : FT) : Prop := PRM (fP F) ∧ ∀ f, f < 4 → WFE (fE F f) f
def RI (F : FT) (r : RT) : Prop := ∀ u x : Int, 0 ≤ u → u < 4 → 0 ≤ x → x < fP F → (rV r (u * 199 + x).toNat = -2 ∨ rV r (u * 199 + x).toNat = vv (fP F) (fE F) u.toNat x) ∧ (rH r (u * 199 + x).toNat = -2 ∨ (rH r (u * 199 + x).toNat = hh (fP F) (fE F) u.toNat x ∧ rV r (u * 199 + x).toNat = vv (fP F) (fE F) u.toNat x)) ∧ (rR r (u * 199 + x).toNat = -2 ∨ rR r (u * 199 + x).toNat = hh (fP F) (fE F) u.toNat x)
/-- the rows of functions greater than u are as they were -/
def KP (u : Int) (r r' : RT) : Prop := ∀ j : Nat, (u + 1) * 40 ≤ (j : Int) → nV r' j = nV r j ∧ nS r' j = nS r j ∧ nW r' j = nW r j
theorem KP_rfl {u : Int} {r : RT} : KP u r r := fun _ _ => ⟨rfl, rfl, rfl⟩
theorem KP_trans {u v : Int} {a b c : RT} (h1 : KP u a b) (h2 : KP v b c) (hv : v ≤ u) : KP u a c := by
  intro j hj
  have x := h1 j hj
  have y := h2 j (by omega)
  exact ⟨y.1.trans x.1, y.2.1.trans x.2.1, y.2.2.trans x.2.2⟩
theorem KP_row {u v : Int} {r r' : RT} (h : KP v r r') (hv : v < u) (h0 : 0 ≤ u) : ∀ j, row (nV r') u j = row (nV r) u j ∧ row (nS r') u j = row (nS r) u j ∧ row (nW r') u j = row (nW r) u j := by
  intro j
  exact h (u * 40 + j).toNat (by omega)
theorem row_up {T : Nat → Int} {u k x : Int} {j : Nat} (h0 : 0 ≤ u) (hk : 0 ≤ k) : row (up T (u * 40 + k).toNat x) u j = if (j : Int) = k then x else row T u j := by
  unfold row up
  by_cases e : (j : Int) = k
  · rw [if_pos e, if_pos (by omega)]
  · rw [if_neg e, if_neg (by omega)]
theorem KP_set {u k : Int} {r : RT} {a b c : Nat → Int} (h0 : 0 ≤ u) (hk : 0 ≤ k ∧ k < 40) (T : RT) (hT : KP u r T) (ha : ∃ x, a = up (nV T) (u * 40 + k).toNat x ∨ a = nV T) (hb : ∃ x, b = up (nS T) (u * 40 + k).toNat x ∨ b = nS T) (hc : ∃ x, c = up (nW T) (u * 40 + k).toNat x ∨ c = nW T) {p q s : Nat → Int} : KP u r (mkR p q s a b c) := by
  intro j hj
  have h := hT j hj
  have hn : j ≠ (u * 40 + k).toNat := by omega
  refine ⟨?_, ?_, ?_⟩
  · obtain ⟨x, e | e⟩ := ha
    · show a j = _
      rw [e, up_n hn]; exact h.1
    · show a j = _
      rw [e]; exact h.1
  · obtain ⟨x, e | e⟩ := hb
    · show b j = _
      rw [e, up_n hn]; exact h.2.1
    · show b j = _
      rw [e]; exact h.2.1
  · obtain ⟨x, e | e⟩ := hc
    · show c j = _
      rw [e, up_n hn]; exact h.2.2
    · show c j = _
      rw [e]; exact h.2.2
theorem RI_nodes {F : FT} {r : RT} (h : RI F r) (a b c : Nat → Int) : RI F (mkR (rV r) (rH r) (rR r) a b c) := h
theorem RI_setV {F : FT} {r : RT} {u x : Int} (hp : fP F ≤ 199) (h : RI F r) (hu : 0 ≤ u ∧ u < 4) (hx : 0 ≤ x ∧ x < fP F) {a b c : Nat → Int} : RI F (mkR (up (rV r) (u * 199 + x).toNat (vv (fP F) (fE F) u.toNat x)) (rH r) (rR r) a b c) := by
  intro v y h1 h2 h3 h4
  have q := h v y h1 h2 h3 h4
  simp only [mkR, rV, rH, rR] at q ⊢
  by_cases e : (v * 199 + y).toNat = (u * 199 + x).toNat
  · have e1 : v = u := by omega
    have e2 : y = x := by omega
    subst e1; subst e2
    rw [up_s]
    refine ⟨Or.inr rfl, ?_, q.2.2⟩
    rcases q.2.1 with z | z
    · exact Or.inl z
    · exact Or.inr ⟨z.1, rfl⟩
  · rw [up_n e]; exact q
theorem RI_setH {F : FT} {r : RT} {u x : Int} (hp : fP F ≤ 199) (h : RI F r) (hu : 0 ≤ u ∧ u < 4) (hx : 0 ≤ x ∧ x < fP F) {a b c : Nat → Int} : RI F (mkR (up (rV r) (u * 199 + x).toNat (vv (fP F) (fE F) u.toNat x)) (up (rH r) (u * 199 + x).toNat (hh (fP F) (fE F) u.toNat x)) (rR r) a b c) := by
  intro v y h1 h2 h3 h4
  have q := h v y h1 h2 h3 h4
  simp only [mkR, rV, rH, rR] at q ⊢
  by_cases e : (v * 199 + y).toNat = (u * 199 + x).toNat
  · have e1 : v = u := by omega
    have e2 : y = x := by omega
    subst e1; subst e2
    rw [up_s, up_s]
    exact ⟨Or.inr rfl, Or.inr ⟨rfl, rfl⟩, q.2.2⟩
  · rw [up_n e, up_n e]; exact q
theorem RI_setR {F : FT} {r : RT} {u x : Int} (hp : fP F ≤ 199) (h : RI F r) (hu : 0 ≤ u ∧ u < 4) (hx : 0 ≤ x ∧ x < fP F) {a b c : Nat → Int} : RI F (mkR (rV r) (rH r) (up (rR r) (u * 199 + x).toNat (hh (fP F) (fE F) u.toNat x)) a b c) := by
  intro v y h1 h2 h3 h4
  have q := h v y h1 h2 h3 h4
  simp only [mkR, rV, rH, rR] at q ⊢
  by_cases e : (v * 199 + y).toNat = (u * 199 + x).toNat
  · have e1 : v = u := by omega
    have e2 : y = x := by omega
    subst e1; subst e2
    rw [up_s]
    exact ⟨q.1, q.2.1, Or.inr rfl⟩
  · rw [up_n e]; exact q
theorem GF_p {F : FT} (h : GF F) : 2 ≤ fP F ∧ fP F ≤ 199 := ⟨h.1.1, h.1.2.1⟩
theorem GF_vv {F : FT} (h : GF F) {u x : Int} (hu : 0 ≤ u ∧ u < 4) (hx : 0 ≤ x ∧ x < fP F) : vv (fP F) (fE F) u.toNat x = -1 ∨ (0 ≤ vv (fP F) (fE F) u.toNat x ∧ vv (fP F) (fE F) u.toNat x < fP F) := vv_rng (by have := GF_p h; omega) h.2 u.toNat (by omega) x hx.1 hx.2
/-- the state of the reading of a function's nodes: i of them have their values -/
def VI (F : FT) (u x : Int) (i : Int) (r : RT) : Prop := (evs (fP F) (fE F u.toNat) (vv (fP F) (fE F)) x i.toNat).2 = true ∧ ∀ j : Nat, (j : Int) < i → row (nV r) u j = (evs (fP F) (fE F u.toNat) (vv (fP F) (fE F)) x i.toNat).1 j
theorem VI_rng {F : FT} (h : GF F) {u x i : Int} {r : RT} (hu : 0 ≤ u ∧ u < 4) (hx : 0 ≤ x ∧ x < fP F) (hi : 0 ≤ i ∧ i ≤ eN (fE F u.toNat)) (hv : VI F u x i r) : ∀ j, j < i.toNat → 0 ≤ row (nV r) u j ∧ row (nV r) u j < fP F := by
  intro j hj
  have hp := GF_p h
  have hE := h.2 u.toNat (by omega)
  rw [hv.2 j (by omega)]
  exact evs_rng (f := u.toNat) (by omega) hx (fun k z hk a b => vv_rng (by omega) h.2 k (by omega) z a b) i.toNat (by have := hE.1; omega) (fun k hk => hE.2.1 k (by omega)) hv.1 j hj
/-- the next node's value, as the method finds it -/
theorem VI_node {F : FT} (h : GF F) {u x i : Int} {r : RT} (hu : 0 ≤ u ∧ u < 4) (hi : 0 ≤ i ∧ i < eN (fE F u.toNat)) (hv : VI F u x i r) (hk : ¬ eK (fE F u.toNat) i.toNat = 99) : nvl (fP F) (fE F u.toNat) (vv (fP F) (fE F)) x (evs (fP F) (fE F u.toNat) (vv (fP F) (fE F)) x i.toNat).1 i.toNat = nvn (fP F) (fE F u.toNat) x (row (nV r) u) i.toNat := by
  have hE := h.2 u.toNat (by omega)
  unfold nvl
  rw [if_neg hk]
  exact (nvn_congr (hE.2.1 i.toNat (by omega)) (fun j hj => hv.2 j (by omega))).symm
theorem VI_call {F : FT} (h : GF F) {u x i : Int} {r : RT} (hu : 0 ≤ u ∧ u < 4) (hi : 0 ≤ i ∧ i < eN (fE F u.toNat)) (hv : VI F u x i r) (hk : eK (fE F u.toNat) i.toNat = 99) : nvl (fP F) (fE F u.toNat) (vv (fP F) (fE F)) x (evs (fP F) (fE F u.toNat) (vv (fP F) (fE F)) x i.toNat).1 i.toNat = vv (fP F) (fE F) (eU (fE F u.toNat) i.toNat).toNat (gv (row (nV r) u) (eL (fE F u.toNat) i.toNat)) := by
  have hE := h.2 u.toNat (by omega)
  unfold nvl
  rw [if_pos hk, gv_congr (fun j hj => hv.2 j (by omega)) (WFK_L (hE.2.1 i.toNat (by omega)))]
theorem VI_next {F : FT} {u x i v : Int} {r r2 : RT} {a b c d e : Nat → Int} (hu : 0 ≤ u) (hi : 0 ≤ i ∧ i < 40) (hv : VI F u x i r) (hr : ∀ j : Nat, (j : Int) < i → row (nV r2) u j = row (nV r) u j) (hn : nvl (fP F) (fE F u.toNat) (vv (fP F) (fE F)) x (evs (fP F) (fE F u.toNat) (vv (fP F) (fE F)) x i.toNat).1 i.toNat = v) (hb : ¬ v = -1) : VI F u x (i + 1) (mkR a b c (up (nV r2) (u * 40 + i).toNat v) d e) := by
  have e1 : (i + 1).toNat = i.toNat + 1 := by omega
  refine ⟨?_, ?_⟩
  · rw [e1]
    exact evs_go hv.1 (by rw [hn]; exact hb)
  · intro j hj
    rw [e1]
    show row (up (nV r2) (u * 40 + i).toNat v) u j = up _ i.toNat (nvl (fP F) (fE F u.toNat) (vv (fP F) (fE F)) x (evs (fP F) (fE F u.toNat) (vv (fP F) (fE F)) x i.toNat).1 i.toNat) j
    rw [row_up hu hi.1, hn]
    unfold up
    by_cases hj2 : (j : Int) = i
    · rw [if_pos hj2, if_pos (by omega)]
    · rw [if_neg hj2, if_neg (by omega), hr j (by omega), hv.2 j (by omega)]
theorem VI_0 {F : FT} {u x : Int} {r : RT} : VI F u x 0 r := ⟨rfl, fun j hj => absurd hj (by omega)⟩
theorem VI_bad {F : FT} (h : GF F) {u x i : Int} (hu : 0 ≤ u ∧ u < 4) (hi : 0 ≤ i ∧ i < eN (fE F u.toNat)) (hn : nvl (fP F) (fE F u.toNat) (vv (fP F) (fE F)) x (evs (fP F) (fE F u.toNat) (vv (fP F) (fE F)) x i.toNat).1 i.toNat = -1) : vv (fP F) (fE F) u.toNat x = -1 := by
  rw [vv_eq (by omega) (h.2 u.toNat (by omega))]
  unfold vof
  rw [if_neg (evs_bad (k := i.toNat) (by omega) hn)]
theorem VI_end {F : FT} (h : GF F) {u x i : Int} {r : RT} (hu : 0 ≤ u ∧ u < 4) (hi : i = eN (fE F u.toNat)) (hv : VI F u x i r) : vv (fP F) (fE F) u.toNat x = row (nV r) u (i - 1).toNat := by
  have hE := (h.2 u.toNat (by omega)).1
  rw [vv_eq (by omega) (h.2 u.toNat (by omega)), hv.2 (i - 1).toNat (by omega)]
  unfold vof
  rw [show eN (fE F u.toNat) = i.toNat by omega, if_pos hv.1, show (i - 1).toNat = i.toNat - 1 by omega]
/-! slopes by hinges -/
theorem nsl_rng {p : Int} {E : EX} {ch : Nat → Int → Int} {sx : Int} {w z : Nat → Int} {k : Nat} (hp : 0 < p) (hs : 0 ≤ sx ∧ sx < p) : 0 ≤ nsl p E ch sx w z k ∧ nsl p E ch sx w z k < p := by
  unfold nsl
  repeat' split
  all_goals first | exact hs | exact emod_rng _ hp | omega
theorem hns_rng {p : Int} {E : EX} {cv ch : Nat → Int → Int} {x sx : Int} (hp : 0 < p) (hs : 0 ≤ sx ∧ sx < p) : ∀ k j, 0 ≤ hns p E cv ch x sx k j ∧ hns p E cv ch x sx k j < p
  | 0, j => by show 0 ≤ (0 : Int) ∧ (0 : Int) < p; omega
  | k + 1, j => by
    show 0 ≤ up _ k _ j ∧ up _ k _ j < p
    by_cases e : j = k
    · subst e; rw [up_s]; exact nsl_rng hp hs
    · rw [up_n e]; exact hns_rng hp hs k j
theorem hof_rng {p : Int} {E : EX} {cv ch : Nat → Int → Int} {x sx : Int} (hp : 0 < p) (hs : 0 ≤ sx ∧ sx < p) : hof p E cv ch x sx = -1 ∨ (0 ≤ hof p E cv ch x sx ∧ hof p E cv ch x sx < p) := by
  unfold hof
  by_cases h : (evs p E cv x (eN E)).2 = true
  · rw [if_pos h]; exact Or.inr (hns_rng hp hs _ _)
  · rw [if_neg h]; exact Or.inl rfl
theorem GF_hf {F : FT} (h : GF F) {f : Nat} {x sx : Int} (hs : 0 ≤ sx ∧ sx < fP F) : hf (fP F) (fE F) f x sx = -1 ∨ (0 ≤ hf (fP F) (fE F) f x sx ∧ hf (fP F) (fE F) f x sx < fP F) := hof_rng (by have := GF_p h; omega) hs
theorem GF_hh {F : FT} (h : GF F) {f : Nat} {x : Int} (h4 : f < 4) : hh (fP F) (fE F) f x = -1 ∨ (0 ≤ hh (fP F) (fE F) f x ∧ hh (fP F) (fE F) f x < fP F) := by
  rw [hh_eq h4 (h.2 f h4)]
  exact GF_hf h (by have := GF_p h; omega)
theorem hf_bad_iff {F : FT} (h : GF F) {f : Nat} {x sx : Int} (h4 : f < 4) (hx : 0 ≤ x ∧ x < fP F) (hs : 0 ≤ sx ∧ sx < fP F) : hf (fP F) (fE F) f x sx = -1 ↔ vv (fP F) (fE F) f x = -1 := by
  have hp := GF_p h
  have hE := h.2 f h4
  rw [vv_eq h4 hE]
  unfold hf hof vof
  by_cases q : (evs (fP F) (fE F f) (vv (fP F) (fE F)) x (eN (fE F f))).2 = true
  · rw [if_pos q, if_pos q]
    have a := hns_rng (p := fP F) (E := fE F f) (cv := vv (fP F) (fE F)) (ch := hh (fP F) (fE F)) (x := x) (sx := sx) (by omega) hs (eN (fE F f)) (eN (fE F f) - 1)
    have b := evs_rng (cv := vv (fP F) (fE F)) (E := fE F f) (x := x) (f := f) (p := fP F) (by omega) hx (fun k z hk a b => vv_rng (by omega) h.2 k (by omega) z a b) (eN (fE F f)) hE.1.2 hE.2.1 q (eN (fE F f) - 1) (by have := hE.1; omega)
    constructor <;> intro c <;> omega
  · rw [if_neg q, if_neg q]
def SI (F : FT) (u x sx i : Int) (r : RT) : Prop := ∀ j : Nat, (j : Int) < i → row (nS r) u j = hns (fP F) (fE F u.toNat) (vv (fP F) (fE F)) (hh (fP F) (fE F)) x sx i.toNat j
def NSL (F : FT) (u x sx i : Int) : Int := nsl (fP F) (fE F u.toNat) (hh (fP F) (fE F)) sx (evs (fP F) (fE F u.toNat) (vv (fP F) (fE F)) x i.toNat).1 (hns (fP F) (fE F u.toNat) (vv (fP F) (fE F)) (hh (fP F) (fE F)) x sx i.toNat) i.toNat
theorem SI_node {F : FT} (h : GF F) {u x sx i : Int} {r : RT} (hu : 0 ≤ u ∧ u < 4) (hi : 0 ≤ i ∧ i < eN (fE F u.toNat)) (hv : VI F u x i r) (hs : SI F u x sx i r) : NSL F u x sx i = nsl (fP F) (fE F u.toNat) (hh (fP F) (fE F)) sx (row (nV r) u) (row (nS r) u) i.toNat := by
  have hE := h.2 u.toNat (by omega)
  exact (nsl_congr (hE.2.1 i.toNat (by omega)) (fun j hj => hv.2 j (by omega)) (fun j hj => hs j (by omega))).symm
theorem SI_next {F : FT} {u x sx i v : Int} {r r2 : RT} {a b c d e : Nat → Int} (hu : 0 ≤ u) (hi : 0 ≤ i ∧ i < 40) (hs : SI F u x sx i r) (hr : ∀ j : Nat, (j : Int) < i → row (nS r2) u j = row (nS r) u j) (hn : NSL F u x sx i = v) : SI F u x sx (i + 1) (mkR a b c d (up (nS r2) (u * 40 + i).toNat v) e) := by
  intro j hj
  rw [show (i + 1).toNat = i.toNat + 1 by omega]
  show row (up (nS r2) (u * 40 + i).toNat v) u j = up _ i.toNat (NSL F u x sx i) j
  rw [row_up hu hi.1, hn]
  unfold up
  by_cases hj2 : (j : Int) = i
  · rw [if_pos hj2, if_pos (by omega)]
  · rw [if_neg hj2, if_neg (by omega), hr j (by omega), hs j (by omega)]
theorem SI_0 {F : FT} {u x sx : Int} {r : RT} : SI F u x sx 0 r := fun j hj => absurd hj (by omega)
theorem SI_rng {F : FT} (h : GF F) {u x sx i : Int} {r : RT} (hx : 0 ≤ sx ∧ sx < fP F) (hs : SI F u x sx i r) : ∀ j, j < i.toNat → 0 ≤ row (nS r) u j ∧ row (nS r) u j < fP F := by
  intro j hj
  have hp := GF_p h
  rw [hs j (by omega)]
  exact hns_rng (by omega) hx _ _
theorem SI_end {F : FT} (h : GF F) {u x sx i : Int} {r : RT} (hu : 0 ≤ u ∧ u < 4) (hi : i = eN (fE F u.toNat)) (hv : VI F u x i r) (hs : SI F u x sx i r) : hf (fP F) (fE F) u.toNat x sx = row (nS r) u (i - 1).toNat := by
  have hE := (h.2 u.toNat (by omega)).1
  rw [hs (i - 1).toNat (by omega)]
  unfold hf hof
  rw [show eN (fE F u.toNat) = i.toNat by omega, if_pos hv.1, show (i - 1).toNat = i.toNat - 1 by omega]
theorem SI_bad {F : FT} (h : GF F) {u x sx i : Int} (hu : 0 ≤ u ∧ u < 4) (hi : 0 ≤ i ∧ i < eN (fE F u.toNat)) (hn : nvl (fP F) (fE F u.toNat) (vv (fP F) (fE F)) x (evs (fP F) (fE F u.toNat) (vv (fP F) (fE F)) x i.toNat).1 i.toNat = -1) : hf (fP F) (fE F) u.toNat x sx = -1 := by
  unfold hf hof
  rw [if_neg (evs_bad (k := i.toNat) (by omega) hn)]
/-- a node that is no call: value kept, slope told -/
def hnr (F : FT) (r : RT) (u k x : Int) : RT := if nvn (fP F) (fE F u.toNat) x (row (nV r) u) k.toNat = -1 then r else mkR (rV r) (rH r) (rR r) (up (nV r) (u * 40 + k).toNat (nvn (fP F) (fE F u.toNat) x (row (nV r) u) k.toNat)) (nS r) (nW r)
def hnv (F : FT) (r : RT) (u k x sx : Int) : Int := if nvn (fP F) (fE F u.toNat) x (row (nV r) u) k.toNat = -1 then -1 else nsl (fP F) (fE F u.toNat) (hh (fP F) (fE F)) sx (row (nV r) u) (row (nS r) u) k.toNat
theorem VI_nx {F : FT} {u x i v : Int} {r r3 : RT} (hi : 0 ≤ i) (hv : VI F u x i r) (hn : nvl (fP F) (fE F u.toNat) (vv (fP F) (fE F)) x (evs (fP F) (fE F u.toNat) (vv (fP F) (fE F)) x i.toNat).1 i.toNat = v) (hb : ¬ v = -1) (hr : ∀ j : Nat, (j : Int) ≤ i → row (nV r3) u j = if (j : Int) = i then v else row (nV r) u j) : VI F u x (i + 1) r3 := by
  have e1 : (i + 1).toNat = i.toNat + 1 := by omega
  refine ⟨?_, ?_⟩
  · rw [e1]
    exact evs_go hv.1 (by rw [hn]; exact hb)
  · intro j hj
    rw [e1, hr j (by omega)]
    show _ = up _ i.toNat (nvl (fP F) (fE F u.toNat) (vv (fP F) (fE F)) x (evs (fP F) (fE F u.toNat) (vv (fP F) (fE F)) x i.toNat).1 i.toNat) j
    rw [hn]
    unfold up
    by_cases hj2 : (j : Int) = i
    · rw [if_pos hj2, if_pos (by omega)]
    · rw [if_neg hj2, if_neg (by omega), hv.2 j (by omega)]
theorem SI_nx {F : FT} {u x sx i v : Int} {r r3 : RT} (hi : 0 ≤ i) (hs : SI F u x sx i r) (hn : NSL F u x sx i = v) (hr : ∀ j : Nat, (j : Int) ≤ i → row (nS r3) u j = if (j : Int) = i then v else row (nS r) u j) : SI F u x sx (i + 1) r3 := by
  intro j hj
  rw [show (i + 1).toNat = i.toNat + 1 by omega, hr j (by omega)]
  show _ = up _ i.toNat (NSL F u x sx i) j
  rw [hn]
  unfold up
  by_cases hj2 : (j : Int) = i
  · rw [if_pos hj2, if_pos (by omega)]
  · rw [if_neg hj2, if_neg (by omega), hs j (by omega)]
/-- one node of the reckoning with hinge numbers: from r1 to r2, its slope (or the ban) v9 -/
def FD (F : FT) (u x sx i : Int) (r1 r2 : RT) (v9 : Int) : Prop :=
  (v9 = -1 → nvl (fP F) (fE F u.toNat) (vv (fP F) (fE F)) x (evs (fP F) (fE F u.toNat) (vv (fP F) (fE F)) x i.toNat).1 i.toNat = -1) ∧
  (¬ v9 = -1 → ∃ w9, nvl (fP F) (fE F u.toNat) (vv (fP F) (fE F)) x (evs (fP F) (fE F u.toNat) (vv (fP F) (fE F)) x i.toNat).1 i.toNat = w9 ∧ ¬ w9 = -1 ∧ (∀ j : Nat, (j : Int) ≤ i → row (nV r2) u j = if (j : Int) = i then w9 else row (nV r1) u j) ∧ NSL F u x sx i = v9) ∧
  (∀ j : Nat, row (nS r2) u j = row (nS r1) u j) ∧ (v9 = -1 ∨ (0 ≤ v9 ∧ v9 < fP F))
theorem FD_node {F : FT} (h : GF F) {u x sx i : Int} {r : RT} (hu : 0 ≤ u ∧ u < 4) (hi : 0 ≤ i ∧ i < eN (fE F u.toNat)) (hsx : 0 ≤ sx ∧ sx < fP F) (hv : VI F u x i r) (hs : SI F u x sx i r) (hk : ¬ eK (fE F u.toNat) i.toNat = 99) : FD F u x sx i r (hnr F r u i x) (hnv F r u i x sx) := by
  have hp := GF_p h
  have e := VI_node h hu hi hv hk
  have e2 := SI_node h (sx := sx) hu hi hv hs
  unfold FD hnr hnv
  by_cases hb : nvn (fP F) (fE F u.toNat) x (row (nV r) u) i.toNat = -1
  · rw [if_pos hb, if_pos hb]
    exact ⟨fun _ => e.trans hb, fun q => absurd rfl q, fun _ => rfl, Or.inl rfl⟩
  · rw [if_neg hb, if_neg hb]
    have hr := nsl_rng (p := fP F) (E := fE F u.toNat) (ch := hh (fP F) (fE F)) (w := row (nV r) u) (z := row (nS r) u) (k := i.toNat) (by omega) hsx
    refine ⟨fun q => absurd q (by omega), fun _ => ⟨_, e, hb, fun j hj => ?_, e2⟩, fun _ => rfl, Or.inr hr⟩
    show row (up (nV r) (u * 40 + i).toNat _) u j = _
    rw [row_up hu.1 hi.1]
theorem hh_bad_iff {F : FT} (h : GF F) {f : Nat} {x : Int} (h4 : f < 4) (hx : 0 ≤ x ∧ x < fP F) : hh (fP F) (fE F) f x = -1 ↔ vv (fP F) (fE F) f x = -1 := by
  have hp := GF_p h
  rw [hh_eq h4 (h.2 f h4)]
  exact hf_bad_iff h h4 hx (by omega)
theorem FD_call {F : FT} (h : GF F) {u x sx i v9 : Int} {r r2 : RT} (hu : 0 ≤ u ∧ u < 4) (hi : 0 ≤ i ∧ i < eN (fE F u.toNat)) (hx : 0 ≤ x ∧ x < fP F) (hv : VI F u x i r) (hs : SI F u x sx i r) (hk : eK (fE F u.toNat) i.toNat = 99)
    (h9 : v9 = if hh (fP F) (fE F) (eU (fE F u.toNat) i.toNat).toNat (gv (row (nV r) u) (eL (fE F u.toNat) i.toNat)) = -1 then (-1 : Int) else hh (fP F) (fE F) (eU (fE F u.toNat) i.toNat).toNat (gv (row (nV r) u) (eL (fE F u.toNat) i.toNat)) * gv (row (nS r) u) (eL (fE F u.toNat) i.toNat) % fP F)
    (hr : ∀ j : Nat, u * 40 ≤ (j : Int) → nV r2 j = (if hh (fP F) (fE F) (eU (fE F u.toNat) i.toNat).toNat (gv (row (nV r) u) (eL (fE F u.toNat) i.toNat)) = -1 then nV r j else up (nV r) (u * 40 + i).toNat (vv (fP F) (fE F) (eU (fE F u.toNat) i.toNat).toNat (gv (row (nV r) u) (eL (fE F u.toNat) i.toNat))) j) ∧ nS r2 j = nS r j ∧ nW r2 j = nW r j) : FD F u x sx i r r2 v9 := by
  have hp := GF_p h
  have hE := (h.2 u.toNat (by omega)).2.1 i.toNat (by omega)
  have hU := (WFK_U hE (by omega)).2.2.2 hk
  have hU0 := (WFK_U hE (by omega)).1
  have gu := gv_rng (w := row (nV r) u) (p := fP F) (i := eL (fE F u.toNat) i.toNat) (k := i.toNat) (by have := (h.2 u.toNat (by omega)).1; omega) (VI_rng h hu hx (by omega) hv) (by omega) (WFK_L hE)
  have e := VI_call h hu hi hv hk
  have e2 := SI_node h (sx := sx) hu hi hv hs
  have hb := hh_bad_iff h (f := (eU (fE F u.toNat) i.toNat).toNat) (x := gv (row (nV r) u) (eL (fE F u.toNat) i.toNat)) (by omega) gu
  have hS : ∀ j : Nat, row (nS r2) u j = row (nS r) u j := fun j => (hr (u * 40 + j).toNat (by omega)).2.1
  unfold FD
  by_cases q : hh (fP F) (fE F) (eU (fE F u.toNat) i.toNat).toNat (gv (row (nV r) u) (eL (fE F u.toNat) i.toNat)) = -1
  · rw [if_pos q] at h9
    exact ⟨fun _ => e.trans (hb.mp q), fun z => absurd h9 z, hS, Or.inl h9⟩
  · rw [if_neg q] at h9
    have hm := emod_rng (hh (fP F) (fE F) (eU (fE F u.toNat) i.toNat).toNat (gv (row (nV r) u) (eL (fE F u.toNat) i.toNat)) * gv (row (nS r) u) (eL (fE F u.toNat) i.toNat)) (p := fP F) (by omega)
    refine ⟨fun z => absurd z (by omega), fun _ => ⟨_, e, fun z => q (hb.mpr z), fun j hj => ?_, ?_⟩, hS, Or.inr (by omega)⟩
    · have z := (hr (u * 40 + j).toNat (by omega)).1
      rw [if_neg q] at z
      show nV r2 (u * 40 + j).toNat = _
      rw [z]
      unfold up row
      by_cases hj2 : (j : Int) = i
      · rw [if_pos hj2, if_pos (by omega)]
      · rw [if_neg hj2, if_neg (by omega)]
    · rw [e2, h9]
      unfold nsl
      rw [hk]
      rfl
end
section
/-! slopes by rules: weights from the outside in give the slope by hinges -/
def cg (p a b : Int) : Prop := ∃ t, a = b + p * t
theorem cg_rfl (p a : Int) : cg p a a := ⟨0, by omega⟩
theorem cg_mod (p a : Int) : cg p (a % p) a := ⟨-(a / p), by have := Int.mul_ediv_add_emod a p; rw [Int.mul_neg]; omega⟩
theorem cg_symm {p a b : Int} (h : cg p a b) : cg p b a := by
  obtain ⟨t, e⟩ := h
  exact ⟨-t, by rw [e, Int.mul_neg]; omega⟩
theorem cg_trans {p a b c : Int} (h : cg p a b) (k : cg p b c) : cg p a c := by
  obtain ⟨t, e⟩ := h
  obtain ⟨s, e2⟩ := k
  exact ⟨t + s, by rw [e, e2, Int.mul_add]; omega⟩
theorem cg_add {p a b c d : Int} (h : cg p a b) (k : cg p c d) : cg p (a + c) (b + d) := by
  obtain ⟨t, e⟩ := h
  obtain ⟨s, e2⟩ := k
  exact ⟨t + s, by rw [e, e2, Int.mul_add]; omega⟩
theorem cg_sub {p a b c d : Int} (h : cg p a b) (k : cg p c d) : cg p (a - c) (b - d) := by
  obtain ⟨t, e⟩ := h
  obtain ⟨s, e2⟩ := k
  exact ⟨t - s, by rw [e, e2, Int.mul_sub]; omega⟩
theorem cg_mul {p a b c d : Int} (h : cg p a b) (k : cg p c d) : cg p (a * c) (b * d) := by
  obtain ⟨t, e⟩ := h
  obtain ⟨s, e2⟩ := k
  refine ⟨b * s + t * d + t * (p * s), ?_⟩
  rw [e, e2, Int.mul_add, Int.add_mul, Int.add_mul, Int.mul_add, Int.mul_add]
  have h1 : p * t * d = p * (t * d) := Int.mul_assoc _ _ _
  have h2 : b * (p * s) = p * (b * s) := by rw [← Int.mul_assoc, Int.mul_comm b p, Int.mul_assoc]
  have h3 : p * t * (p * s) = p * (t * (p * s)) := Int.mul_assoc _ _ _
  rw [h1, h2, h3]
  omega
theorem cg_eq {p a b : Int} (h : cg p a b) (ha : 0 ≤ a ∧ a < p) (hb : 0 ≤ b ∧ b < p) : a = b := by
  obtain ⟨t, e⟩ := h
  have h1 := Int.emod_eq_of_lt ha.1 ha.2
  have h2 := Int.emod_eq_of_lt hb.1 hb.2
  rw [e, Int.add_mul_emod_self_left, h2] at h1
  rw [e]; exact h1.symm
theorem cg_of_eq {p a b : Int} (h : a = b) : cg p a b := h ▸ cg_rfl p a
theorem cg_mod2 {p a b : Int} (h : cg p a b) : cg p (a % p) b := cg_trans (cg_mod p a) h
theorem cg_emod {p a b : Int} (h : cg p a b) : a % p = b % p := by
  obtain ⟨t, e⟩ := h
  rw [e, Int.add_mul_emod_self_left]
/-- sums -/
def sm (f : Nat → Int) : Nat → Int
  | 0 => 0
  | n + 1 => sm f n + f n
theorem sm_congr {f h : Nat → Int} : ∀ n, (∀ j, j < n → f j = h j) → sm f n = sm h n
  | 0, _ => rfl
  | n + 1, e => by
    show sm f n + f n = sm h n + h n
    rw [sm_congr n (fun j hj => e j (by omega)), e n (by omega)]
theorem sm_up {w z : Nat → Int} {a : Nat} {v : Int} : ∀ n, a < n → sm (fun j => up w a v j * z j) n = sm (fun j => w j * z j) n - w a * z a + v * z a
  | 0, h => absurd h (Nat.not_lt_zero _)
  | n + 1, h => by
    show sm (fun j => up w a v j * z j) n + up w a v n * z n = sm (fun j => w j * z j) n + w n * z n - w a * z a + v * z a
    by_cases e : a = n
    · subst e
      rw [up_s, sm_congr a (h := fun j => w j * z j) (fun j hj => by show up w a v j * z j = _; rw [up_n (by omega)])]
      omega
    · rw [sm_up n (by omega), up_n (fun q => e q.symm)]
      omega
/-- the shares of a node's parts -/
def lsh (F : FT) (u : Nat) (w : Nat → Int) (k : Nat) : Int :=
  if eK (fE F u) k = 110 then (0 - 1) % fP F
  else if eK (fE F u) k = 43 then 1
  else if eK (fE F u) k = 45 then 1
  else if eK (fE F u) k = 42 then gv w (eV (fE F u) k)
  else if eK (fE F u) k = 47 then gv w (eV (fE F u) k) * inv' (fP F) (gv w (eV (fE F u) k) * gv w (eV (fE F u) k) % fP F) % fP F
  else if eK (fE F u) k = 94 then eU (fE F u) k * (gv w (eL (fE F u) k) ^ (eU (fE F u) k - 1).toNat % fP F) % fP F
  else if eK (fE F u) k = 99 then hh (fP F) (fE F) (eU (fE F u) k).toNat (gv w (eL (fE F u) k))
  else 0
def rsh (F : FT) (u : Nat) (w : Nat → Int) (k : Nat) : Int :=
  if eK (fE F u) k = 43 then 1
  else if eK (fE F u) k = 45 then (0 - 1) % fP F
  else if eK (fE F u) k = 42 then gv w (eL (fE F u) k)
  else if eK (fE F u) k = 47 then (0 - gv w (eL (fE F u) k)) % fP F * inv' (fP F) (gv w (eV (fE F u) k) * gv w (eV (fE F u) k) % fP F) % fP F
  else 0
/-- a node's slope is what its parts' slopes give by their shares -/
theorem nsl_sh {F : FT} {u : Nat} {w z : Nat → Int} {k f : Nat} (hE : WFK (fE F u) f k) (hx : ¬ eK (fE F u) k = 120) : cg (fP F) (nsl (fP F) (fE F u) (hh (fP F) (fE F)) 1 w z k) (lsh F u w k * gv z (eL (fE F u) k) + rsh F u w k * gv z (eV (fE F u) k)) := by
  have hV0 : gv z (-1) = 0 := gv_neg
  unfold WFK at hE
  unfold nsl lsh rsh
  rcases hE with h | h | h | h | h | h
  · repeat (first | rw [if_pos (by omega)] | rw [if_neg (by omega)])
    rw [h.2.2.2.1, h.2.2.2.2, hV0]
    exact cg_of_eq (by omega)
  · exact absurd h.1 hx
  · repeat (first | rw [if_pos (by omega)] | rw [if_neg (by omega)])
    refine cg_mod2 (cg_trans (cg_of_eq (b := (0 - 1) * gv z (eL (fE F u) k)) (by omega)) (cg_trans (cg_mul (cg_symm (cg_mod (fP F) (0 - 1))) (cg_rfl _ _)) (cg_of_eq (by rw [Int.zero_mul, Int.add_zero]))))
  · obtain ⟨hc, -⟩ := h
    rcases hc with e | e | e | e
    · repeat (first | rw [if_pos (by omega)] | rw [if_neg (by omega)])
      exact cg_mod2 (cg_of_eq (by omega))
    · repeat (first | rw [if_pos (by omega)] | rw [if_neg (by omega)])
      refine cg_mod2 (cg_trans (cg_of_eq (b := 1 * gv z (eL (fE F u) k) + (0 - 1) * gv z (eV (fE F u) k)) (by omega)) (cg_add (cg_rfl _ _) (cg_mul (cg_symm (cg_mod (fP F) (0 - 1))) (cg_rfl _ _))))
    · repeat (first | rw [if_pos (by omega)] | rw [if_neg (by omega)])
      exact cg_mod2 (cg_of_eq (by rw [Int.mul_comm (gv z (eL (fE F u) k))]))
    · repeat (first | rw [if_pos (by omega)] | rw [if_neg (by omega)])
      have a1 : cg (fP F) ((gv z (eL (fE F u) k) * gv w (eV (fE F u) k) - gv w (eL (fE F u) k) * gv z (eV (fE F u) k)) % fP F * inv' (fP F) (gv w (eV (fE F u) k) * gv w (eV (fE F u) k) % fP F)) ((gv z (eL (fE F u) k) * gv w (eV (fE F u) k) - gv w (eL (fE F u) k) * gv z (eV (fE F u) k)) * inv' (fP F) (gv w (eV (fE F u) k) * gv w (eV (fE F u) k) % fP F)) := cg_mul (cg_mod _ _) (cg_rfl _ _)
      refine cg_mod2 (cg_trans a1 (cg_trans (cg_of_eq ?_) (cg_symm (cg_add (cg_mul (cg_mod _ _) (cg_rfl _ _)) (cg_mul (cg_mod2 (cg_mul (cg_mod _ _) (cg_rfl _ _))) (cg_rfl _ _))))))
      generalize inv' (fP F) (gv w (eV (fE F u) k) * gv w (eV (fE F u) k) % fP F) = y
      generalize gv w (eV (fE F u) k) = v
      generalize gv w (eL (fE F u) k) = b
      generalize gv z (eL (fE F u) k) = s
      generalize gv z (eV (fE F u) k) = t
      rw [Int.sub_mul]
      have e1 : s * v * y = v * y * s := by rw [Int.mul_comm s v, Int.mul_assoc, Int.mul_comm s y, ← Int.mul_assoc]
      have e2 : b * t * y = b * y * t := by rw [Int.mul_assoc, Int.mul_comm t y, ← Int.mul_assoc]
      have e3 : (0 - b) * y * t = -(b * y * t) := by rw [Int.zero_sub, Int.neg_mul, Int.neg_mul]
      first | (rw [e1, e2, e3]; omega) | (rw [e1, e2]; simp [Int.neg_mul]; omega)
  · repeat (first | rw [if_pos (by omega)] | rw [if_neg (by omega)])
    exact cg_mod2 (cg_of_eq (by rw [Int.zero_mul, Int.add_zero]))
  · repeat (first | rw [if_pos (by omega)] | rw [if_neg (by omega)])
    exact cg_mod2 (cg_of_eq (by rw [Int.zero_mul, Int.add_zero]))
/-- a node that has its weight before node i is taken -/
def asg (E : EX) (i : Int) (j : Nat) : Prop := j + 1 = eN E ∨ ∃ k : Nat, i < k ∧ k < eN E ∧ (eL E k = j ∨ eV E k = j)
def ZZ (F : FT) (u : Nat) (x : Int) : Nat → Int := hns (fP F) (fE F u) (vv (fP F) (fE F)) (hh (fP F) (fE F)) x 1 (eN (fE F u))
def WI (F : FT) (u x i sum : Int) (r : RT) : Prop := (0 ≤ sum ∧ sum < fP F) ∧ (∀ j : Nat, (j : Int) ≤ i → asg (fE F u.toNat) i j → 0 ≤ row (nW r) u j ∧ row (nW r) u j < fP F) ∧ ∃ gw : Nat → Int, (∀ j : Nat, (j : Int) ≤ i → asg (fE F u.toNat) i j → gw j = row (nW r) u j) ∧ (∀ j : Nat, (j : Int) ≤ i → ¬ asg (fE F u.toNat) i j → gw j = 0) ∧ cg (fP F) (sum + sm (fun j => gw j * ZZ F u.toNat x j) (i + 1).toNat) (ZZ F u.toNat x (eN (fE F u.toNat) - 1))
theorem sm_zero {z : Nat → Int} : ∀ n, sm (fun j => (0 : Int) * z j) n = 0
  | 0 => rfl
  | n + 1 => by
    show sm (fun j => (0 : Int) * z j) n + 0 * z n = 0
    rw [sm_zero n, Int.zero_mul]; rfl
theorem hns_keep {p : Int} {E : EX} {cv ch : Nat → Int → Int} {x sx : Int} {j : Nat} : ∀ k, j < k → hns p E cv ch x sx k j = nsl p E ch sx (evs p E cv x j).1 (hns p E cv ch x sx j) j
  | 0, h => absurd h (Nat.not_lt_zero _)
  | k + 1, h => by
    by_cases e : j = k
    · subst e
      show up _ j _ j = _
      rw [up_s]
    · show up _ k _ j = _
      rw [up_n e]
      exact hns_keep k (by omega)
/-- a node's slope, by those of its parts -/
theorem ZZ_node {F : FT} (h : GF F) {u x : Int} {r : RT} (hu : 0 ≤ u ∧ u < 4) {i : Nat} (hi : i < eN (fE F u.toNat)) (hv : VI F u x (eN (fE F u.toNat)) r) : ZZ F u.toNat x i = nsl (fP F) (fE F u.toNat) (hh (fP F) (fE F)) 1 (row (nV r) u) (ZZ F u.toNat x) i := by
  have hE := h.2 u.toNat (by omega)
  have e : ZZ F u.toNat x i = _ := hns_keep (p := fP F) (E := fE F u.toNat) (cv := vv (fP F) (fE F)) (ch := hh (fP F) (fE F)) (x := x) (sx := 1) (j := i) (eN (fE F u.toNat)) hi
  rw [e]
  refine nsl_congr (hE.2.1 i hi) (fun j hj => ?_) (fun j hj => ?_)
  · have q := hv.2 j (by omega)
    rw [q, show ((eN (fE F u.toNat) : Nat) : Int).toNat = eN (fE F u.toNat) by omega, evs_keep (eN (fE F u.toNat)) (by omega), evs_keep i hj]
  · show _ = hns _ _ _ _ _ _ _ j
    rw [hns_keep i hj, hns_keep (eN (fE F u.toNat)) (by omega)]
theorem asg_self {F : FT} (h : GF F) {u i : Int} (hu : 0 ≤ u ∧ u < 4) (hi : 0 ≤ i ∧ i < eN (fE F u.toNat)) : asg (fE F u.toNat) i i.toNat := by
  have hE := h.2 u.toNat (by omega)
  by_cases e : i.toNat + 1 = eN (fE F u.toNat)
  · exact Or.inl e
  · obtain ⟨k, h1, h2, h3⟩ := hE.2.2 i.toNat (by omega)
    have hL := WFK_L (hE.2.1 k h1)
    have hV := WFK_V (hE.2.1 k h1)
    exact Or.inr ⟨k, by omega, h1, h2⟩
theorem asg_part {F : FT} (h : GF F) {u i : Int} (hu : 0 ≤ u ∧ u < 4) (hi : 0 ≤ i ∧ i < eN (fE F u.toNat)) {j : Nat} (hj : eL (fE F u.toNat) i.toNat = j ∨ eV (fE F u.toNat) i.toNat = j) : (j : Int) < i ∧ ¬ asg (fE F u.toNat) i j := by
  have hE := h.2 u.toNat (by omega)
  have hL := WFK_L (hE.2.1 i.toNat (by omega))
  have hV := WFK_V (hE.2.1 i.toNat (by omega))
  have hlt : (j : Int) < i := by omega
  refine ⟨hlt, ?_⟩
  rintro (e | ⟨k, h1, h2, h3⟩)
  · omega
  · obtain ⟨m, m1, m2, m3⟩ := hE.2.2 j (by omega)
    have a := m3 i.toNat (by omega) hj
    have b := m3 k h2 h3
    omega
theorem asg_dn {F : FT} {u i : Int} (hi : 0 ≤ i ∧ i < eN (fE F u.toNat)) (j : Nat) : asg (fE F u.toNat) (i - 1) j ↔ (asg (fE F u.toNat) i j ∨ eL (fE F u.toNat) i.toNat = j ∨ eV (fE F u.toNat) i.toNat = j) := by
  constructor
  · rintro (e | ⟨k, h1, h2, h3⟩)
    · exact Or.inl (Or.inl e)
    · by_cases q : (k : Int) = i
      · have : k = i.toNat := by omega
        subst this
        exact Or.inr h3
      · exact Or.inl (Or.inr ⟨k, by omega, h2, h3⟩)
  · rintro ((e | ⟨k, h1, h2, h3⟩) | h3)
    · exact Or.inl e
    · exact Or.inr ⟨k, by omega, h2, h3⟩
    · exact Or.inr ⟨i.toNat, by omega, by omega, h3⟩
theorem WI_init {F : FT} (h : GF F) {u x : Int} {r : RT} {i : Int} (hu : 0 ≤ u ∧ u < 4) (hi : i = (eN (fE F u.toNat) : Int) - 1) (hw : row (nW r) u i.toNat = 1) : WI F u x i 0 r := by
  have hp := GF_p h
  have hE := h.2 u.toNat (by omega)
  have hn := hE.1
  have key : ∀ j : Nat, (j : Int) ≤ i → (asg (fE F u.toNat) i j ↔ j = i.toNat) := by
    intro j hj
    constructor
    · rintro (e | ⟨k, h1, h2, h3⟩) <;> omega
    · intro e; exact Or.inl (by omega)
  refine ⟨by omega, fun j hj ha => ?_, up (fun _ => 0) i.toNat 1, fun j hj ha => ?_, fun j hj ha => ?_, ?_⟩
  · rw [(key j hj).mp ha, hw]; omega
  · rw [(key j hj).mp ha, hw, up_s]
  · rw [up_n (fun e => ha ((key j hj).mpr e))]
  · rw [sm_up (w := fun _ => (0 : Int)) (i + 1).toNat (by omega), sm_zero, show i.toNat = eN (fE F u.toNat) - 1 by omega]
    exact cg_of_eq (by omega)
theorem WI_dn {F : FT} (h : GF F) {u x i sum : Int} {r r2 : RT} (hu : 0 ≤ u ∧ u < 4) (hi : 0 ≤ i ∧ i < eN (fE F u.toNat)) (hv : VI F u x (eN (fE F u.toNat)) r) (hW : WI F u x i sum r) (hk : ¬ eK (fE F u.toNat) i.toNat = 120)
    (hrow : ∀ j : Nat, (j : Int) < i → row (nW r2) u j = if (j : Int) = eV (fE F u.toNat) i.toNat then row (nW r) u i.toNat * rsh F u.toNat (row (nV r) u) i.toNat % fP F else if (j : Int) = eL (fE F u.toNat) i.toNat then row (nW r) u i.toNat * lsh F u.toNat (row (nV r) u) i.toNat % fP F else row (nW r) u j) : WI F u x (i - 1) sum r2 := by
  have hp := GF_p h
  have hE := h.2 u.toNat (by omega)
  have hEi := hE.2.1 i.toNat (by omega)
  have hn40 := hE.1
  have hL := WFK_L hEi
  have hV := WFK_V hEi
  have hLV : eV (fE F u.toNat) i.toNat = -1 ∨ ¬ eL (fE F u.toNat) i.toNat = eV (fE F u.toNat) i.toNat := by unfold WFK at hEi; omega
  obtain ⟨h1, h2, gw, h3, h4, h5⟩ := hW
  have hai := asg_self h hu hi
  have e0 := h3 i.toNat (by omega) hai
  have ez := ZZ_node h hu (i := i.toNat) (by omega) hv
  have esh := nsl_sh (F := F) (u := u.toNat) (w := row (nV r) u) (z := ZZ F u.toNat x) hEi hk
  rw [← ez] at esh
  generalize hwi : row (nW r) u i.toNat = wi at *
  generalize hls : lsh F u.toNat (row (nV r) u) i.toNat = ls at *
  generalize hrs : rsh F u.toNat (row (nV r) u) i.toNat = rs at *
  refine ⟨h1, fun j hj ha => ?_, fun j => if (j : Int) = eV (fE F u.toNat) i.toNat then wi * rs % fP F else if (j : Int) = eL (fE F u.toNat) i.toNat then wi * ls % fP F else gw j, fun j hj ha => ?_, fun j hj ha => ?_, ?_⟩
  · rw [hrow j (by omega)]
    by_cases q1 : (j : Int) = eV (fE F u.toNat) i.toNat
    · rw [if_pos q1]; exact emod_rng _ (by omega)
    · rw [if_neg q1]
      by_cases q2 : (j : Int) = eL (fE F u.toNat) i.toNat
      · rw [if_pos q2]; exact emod_rng _ (by omega)
      · rw [if_neg q2]
        rcases (asg_dn hi j).mp ha with z | z | z
        · exact h2 j (by omega) z
        · exact absurd z.symm q2
        · exact absurd z.symm q1
  · rw [hrow j (by omega)]
    by_cases q1 : (j : Int) = eV (fE F u.toNat) i.toNat
    · rw [if_pos q1]; simp only [q1, if_true]
    · by_cases q2 : (j : Int) = eL (fE F u.toNat) i.toNat
      · rw [if_neg q1, if_pos q2]; simp only [if_neg q1, if_pos q2]
      · rw [if_neg q1, if_neg q2]
        simp only [if_neg q1, if_neg q2]
        rcases (asg_dn hi j).mp ha with z | z | z
        · exact h3 j (by omega) z
        · exact absurd z.symm q2
        · exact absurd z.symm q1
  · have q1 : ¬ (j : Int) = eV (fE F u.toNat) i.toNat := fun q => ha ((asg_dn hi j).mpr (Or.inr (Or.inr q.symm)))
    have q2 : ¬ (j : Int) = eL (fE F u.toNat) i.toNat := fun q => ha ((asg_dn hi j).mpr (Or.inr (Or.inl q.symm)))
    simp only [if_neg q1, if_neg q2]
    exact h4 j (by omega) (fun z => ha ((asg_dn hi j).mpr (Or.inl z)))
  · have es : (i + 1).toNat = (i - 1 + 1).toNat + 1 := by omega
    rw [es] at h5
    have h5' : cg (fP F) (sum + (sm (fun j => gw j * ZZ F u.toNat x j) (i - 1 + 1).toNat + gw (i - 1 + 1).toNat * ZZ F u.toNat x (i - 1 + 1).toNat)) (ZZ F u.toNat x (eN (fE F u.toNat) - 1)) := h5
    rw [show i - 1 + 1 = i by omega] at h5' ⊢
    rw [e0] at h5'
    refine cg_trans ?_ h5'
    -- the parts, one after the other
    have stepL : ∀ (a : Int) (v : Int) (g : Nat → Int), (a = -1 ∨ (0 ≤ a ∧ a < i ∧ g a.toNat = 0)) → sm (fun j => (if (j : Int) = a then v else g j) * ZZ F u.toNat x j) i.toNat = sm (fun j => g j * ZZ F u.toNat x j) i.toNat + v * gv (ZZ F u.toNat x) a := by
      intro a v g ha
      rcases ha with ha | ha
      · rw [ha, gv_neg, Int.mul_zero, Int.add_zero]
        exact sm_congr _ (fun j _ => by rw [if_neg (by omega)])
      · have e : (fun (j : Nat) => (if (j : Int) = a then v else g j) * ZZ F u.toNat x j) = fun j => up g a.toNat v j * ZZ F u.toNat x j := by
          funext j
          unfold up
          by_cases q : (j : Int) = a
          · rw [if_pos q, if_pos (by omega)]
          · rw [if_neg q, if_neg (by omega)]
        rw [e, sm_up i.toNat (by omega), ha.2.2, gv_of (by omega), Int.zero_mul]
        omega
    have gL : eL (fE F u.toNat) i.toNat = -1 ∨ (0 ≤ eL (fE F u.toNat) i.toNat ∧ eL (fE F u.toNat) i.toNat < i ∧ gw (eL (fE F u.toNat) i.toNat).toNat = 0) := by
      rcases hL with q | q
      · exact Or.inl q
      · have z := asg_part h hu hi (j := (eL (fE F u.toNat) i.toNat).toNat) (Or.inl (by omega))
        exact Or.inr ⟨q.1, by omega, h4 _ (by omega) z.2⟩
    have gV : eV (fE F u.toNat) i.toNat = -1 ∨ (0 ≤ eV (fE F u.toNat) i.toNat ∧ eV (fE F u.toNat) i.toNat < i ∧ (if ((eV (fE F u.toNat) i.toNat).toNat : Int) = eL (fE F u.toNat) i.toNat then wi * ls % fP F else gw (eV (fE F u.toNat) i.toNat).toNat) = 0) := by
      rcases hV with q | q
      · exact Or.inl q
      · have z := asg_part h hu hi (j := (eV (fE F u.toNat) i.toNat).toNat) (Or.inr (by omega))
        refine Or.inr ⟨q.1, by omega, ?_⟩
        rw [if_neg (by omega)]
        exact h4 _ (by omega) z.2
    rw [stepL _ _ (fun j => if (j : Int) = eL (fE F u.toNat) i.toNat then wi * ls % fP F else gw j) gV, stepL _ _ gw gL]
    have c1 : cg (fP F) (wi * ls % fP F * gv (ZZ F u.toNat x) (eL (fE F u.toNat) i.toNat) + wi * rs % fP F * gv (ZZ F u.toNat x) (eV (fE F u.toNat) i.toNat)) (wi * (ls * gv (ZZ F u.toNat x) (eL (fE F u.toNat) i.toNat) + rs * gv (ZZ F u.toNat x) (eV (fE F u.toNat) i.toNat))) := by
      rw [Int.mul_add, ← Int.mul_assoc, ← Int.mul_assoc]
      exact cg_add (cg_mul (cg_mod _ _) (cg_rfl _ _)) (cg_mul (cg_mod _ _) (cg_rfl _ _))
    have c2 := cg_trans c1 (cg_mul (cg_rfl (fP F) wi) (cg_symm esh))
    refine cg_trans (cg_of_eq ?_) (cg_add (cg_rfl (fP F) sum) (cg_add (cg_rfl (fP F) (sm (fun j => gw j * ZZ F u.toNat x j) i.toNat)) c2))
    omega
theorem WI_x {F : FT} (h : GF F) {u x i sum : Int} {r : RT} (hu : 0 ≤ u ∧ u < 4) (hi : 0 ≤ i ∧ i < eN (fE F u.toNat)) (hv : VI F u x (eN (fE F u.toNat)) r) (hW : WI F u x i sum r) (hk : eK (fE F u.toNat) i.toNat = 120) : WI F u x (i - 1) ((sum + row (nW r) u i.toNat) % fP F) r := by
  have hp := GF_p h
  have hE := h.2 u.toNat (by omega)
  have hEi := hE.2.1 i.toNat (by omega)
  have hLV : eL (fE F u.toNat) i.toNat = -1 ∧ eV (fE F u.toNat) i.toNat = -1 := by unfold WFK at hEi; omega
  obtain ⟨h1, h2, gw, h3, h4, h5⟩ := hW
  have e0 := h3 i.toNat (by omega) (asg_self h hu hi)
  have ez := ZZ_node h hu (i := i.toNat) (by omega) hv
  have e1 : nsl (fP F) (fE F u.toNat) (hh (fP F) (fE F)) 1 (row (nV r) u) (ZZ F u.toNat x) i.toNat = 1 := by unfold nsl; rw [if_pos hk]
  rw [e1] at ez
  have key : ∀ j : Nat, asg (fE F u.toNat) (i - 1) j ↔ asg (fE F u.toNat) i j := by
    intro j
    rw [asg_dn hi j]
    constructor
    · rintro (z | z | z)
      · exact z
      · omega
      · omega
    · exact Or.inl
  refine ⟨emod_rng _ (by omega), fun j hj ha => h2 j (by omega) ((key j).mp ha), gw, fun j hj ha => h3 j (by omega) ((key j).mp ha), fun j hj ha => h4 j (by omega) (fun z => ha ((key j).mpr z)), ?_⟩
  rw [show (i + 1).toNat = i.toNat + 1 by omega] at h5
  have h5' : cg (fP F) (sum + (sm (fun j => gw j * ZZ F u.toNat x j) i.toNat + gw i.toNat * ZZ F u.toNat x i.toNat)) (ZZ F u.toNat x (eN (fE F u.toNat) - 1)) := h5
  rw [e0, ez, Int.mul_one] at h5'
  rw [show i - 1 + 1 = i by omega]
  refine cg_trans ?_ h5'
  exact cg_trans (cg_add (cg_mod _ _) (cg_rfl _ _)) (cg_of_eq (by omega))
theorem WI_end {F : FT} (h : GF F) {u x sum : Int} {r : RT} (hu : 0 ≤ u ∧ u < 4) (hv : VI F u x (eN (fE F u.toNat)) r) (hW : WI F u x (-1) sum r) : sum = hh (fP F) (fE F) u.toNat x := by
  have hp := GF_p h
  have hE := h.2 u.toNat (by omega)
  obtain ⟨h1, h2, gw, h3, h4, h5⟩ := hW
  rw [hh_eq (by omega) hE]
  unfold hf hof
  have hok := hv.1
  rw [show ((eN (fE F u.toNat) : Nat) : Int).toNat = eN (fE F u.toNat) by omega] at hok
  rw [if_pos hok]
  have e : sm (fun j => gw j * ZZ F u.toNat x j) ((-1 : Int) + 1).toNat = 0 := rfl
  rw [e, Int.add_zero] at h5
  exact cg_eq h5 h1 (hns_rng (by omega) (by omega) _ _)
end
section
/-! trees: what the class builds out of a text, as an expression (calls of functions left out) -/
def XE (K U L V : Nat → Int) : EX := mkE 0 K U L V
def prt (L V : Nat → Int) (k : Nat) (j : Int) : Prop := L k = j ∨ V k = j
def ary (K : Int) : Int := if K = 43 ∨ K = 45 ∨ K = 42 ∨ K = 47 then 2 else if K = 110 ∨ K = 94 ∨ K = 99 then 1 else 0
theorem WFK_congr {E E' : EX} {f k : Nat} (h1 : eK E' k = eK E k) (h2 : eU E' k = eU E k) (h3 : eL E' k = eL E k) (h4 : eV E' k = eV E k) (w : WFK E f k) : WFK E' f k := by
  unfold WFK at w ⊢
  rw [h1, h2, h3, h4]
  exact w
/-- n nodes, of which lp, told by lq, are parts of none -/
def TRc (n : Int) (K U L V : Nat → Int) (lp : Int) (lq : Nat → Int) : Prop :=
  (0 ≤ n ∧ n ≤ 40 ∧ 0 ≤ lp ∧ lp ≤ n) ∧
  (∀ k : Nat, (k : Int) < n → WFK (XE K U L V) 0 k) ∧
  (∀ i : Nat, (i : Int) < lp → 0 ≤ lq i ∧ lq i < n) ∧
  (∀ i j : Nat, i < j → (j : Int) < lp → lq i < lq j) ∧
  (0 < n → 0 < lp ∧ lq (lp - 1).toNat = n - 1) ∧
  (∀ j : Nat, (j : Int) < n → ((∃ i : Nat, (i : Int) < lp ∧ lq i = j) ∧ ∀ k : Nat, (k : Int) < n → ¬ prt L V k j) ∨ ((∀ i : Nat, (i : Int) < lp → ¬ lq i = j) ∧ ∃ k : Nat, (k : Int) < n ∧ prt L V k j ∧ ∀ i : Nat, (i : Int) < n → prt L V i j → i = k))
theorem ary_r (k : Int) : ary k = 0 ∨ ary k = 1 ∨ ary k = 2 := by
  unfold ary
  split
  · exact Or.inr (Or.inr rfl)
  · split
    · exact Or.inr (Or.inl rfl)
    · exact Or.inl rfl
theorem WFK_mk {K U L V : Nat → Int} {n f : Nat} {k u a b : Int} (h : (k = 48 ∧ 0 ≤ u ∧ u ≤ 999 ∧ a = -1 ∧ b = -1) ∨ (k = 120 ∧ u = 0 ∧ a = -1 ∧ b = -1) ∨ (k = 110 ∧ u = 0 ∧ 0 ≤ a ∧ a < n ∧ b = -1) ∨ ((k = 43 ∨ k = 45 ∨ k = 42 ∨ k = 47) ∧ u = 0 ∧ 0 ≤ a ∧ a < n ∧ 0 ≤ b ∧ b < n ∧ ¬ a = b) ∨ (k = 94 ∧ 0 ≤ u ∧ u ≤ 9 ∧ 0 ≤ a ∧ a < n ∧ b = -1) ∨ (k = 99 ∧ 0 ≤ u ∧ u < f ∧ 0 ≤ a ∧ a < n ∧ b = -1)) : WFK (XE (up K n k) (up U n u) (up L n a) (up V n b)) f n := by
  unfold WFK
  rw [show eK (XE (up K n k) (up U n u) (up L n a) (up V n b)) n = k from up_s, show eU (XE (up K n k) (up U n u) (up L n a) (up V n b)) n = u from up_s, show eL (XE (up K n k) (up U n u) (up L n a) (up V n b)) n = a from up_s, show eV (XE (up K n k) (up U n u) (up L n a) (up V n b)) n = b from up_s]
  exact h
/-- a node more, made of as many loose ones as it has parts -/
theorem TR_add {n lp k u a b : Int} {K U L V lq : Nat → Int} (h : TRc n K U L V lp lq) (hn : n < 40) (hq : ary k ≤ lp)
    (hw : WFK (XE (up K n.toNat k) (up U n.toNat u) (up L n.toNat a) (up V n.toNat b)) 0 n.toNat)
    (h0 : ary k = 0 → a = -1 ∧ b = -1) (h1 : ary k = 1 → a = lq (lp - 1).toNat ∧ b = -1) (h2 : ary k = 2 → b = lq (lp - 1).toNat ∧ a = lq (lp - 2).toNat) :
    TRc (n + 1) (up K n.toNat k) (up U n.toNat u) (up L n.toNat a) (up V n.toNat b) (lp - ary k + 1) (up lq (lp - ary k).toNat n) := by
  obtain ⟨t1, t2, t3, t4, t5, t6⟩ := h
  have hk := ary_r k
  have hab : Unit → (a = -1 ∨ ∃ i : Nat, (i : Int) < lp ∧ lp - ary k ≤ i ∧ lq i = a) ∧ (b = -1 ∨ ∃ i : Nat, (i : Int) < lp ∧ lp - ary k ≤ i ∧ lq i = b) := by
    intro _
    rcases hk with q | q | q
    · exact ⟨Or.inl (h0 q).1, Or.inl (h0 q).2⟩
    · exact ⟨Or.inr ⟨(lp - 1).toNat, by omega, by omega, (h1 q).1.symm⟩, Or.inl (h1 q).2⟩
    · exact ⟨Or.inr ⟨(lp - 2).toNat, by omega, by omega, (h2 q).2.symm⟩, Or.inr ⟨(lp - 1).toNat, by omega, by omega, (h2 q).1.symm⟩⟩
  have hcov : ∀ i : Nat, lp - ary k ≤ i → (i : Int) < lp → a = lq i ∨ b = lq i := by
    intro i hi1 hi2
    rcases hk with q | q | q
    · omega
    · rw [show i = (lp - 1).toNat by omega]; exact Or.inl (h1 q).1
    · by_cases z : (i : Int) = lp - 1
      · rw [show i = (lp - 1).toNat by omega]; exact Or.inr (h2 q).1
      · rw [show i = (lp - 2).toNat by omega]; exact Or.inl (h2 q).2
  have kK : ∀ j : Nat, (j : Int) < n → up K n.toNat k j = K j := fun j hj => up_n (by omega)
  have kU : ∀ j : Nat, (j : Int) < n → up U n.toNat u j = U j := fun j hj => up_n (by omega)
  have kL : ∀ j : Nat, (j : Int) < n → up L n.toNat a j = L j := fun j hj => up_n (by omega)
  have kV : ∀ j : Nat, (j : Int) < n → up V n.toNat b j = V j := fun j hj => up_n (by omega)
  have sL : up L n.toNat a n.toNat = a := up_s
  have sV : up V n.toNat b n.toNat = b := up_s
  generalize up K n.toNat k = K' at *
  generalize up U n.toNat u = U' at *
  generalize up L n.toNat a = L' at *
  generalize up V n.toNat b = V' at *
  have hpo : ∀ (i : Nat) (j : Int), (i : Int) < n → (prt L' V' i j ↔ prt L V i j) := fun i j hi => by unfold prt; rw [kL i hi, kV i hi]
  have hpn : ∀ j : Int, prt L' V' n.toNat j ↔ (a = j ∨ b = j) := fun j => by unfold prt; rw [sL, sV]
  refine ⟨by omega, fun j hj => ?_, fun i hi => ?_, fun i j hij hj => ?_, fun _ => ⟨by omega, ?_⟩, fun j hj => ?_⟩
  · by_cases e : j = n.toNat
    · subst e
      exact hw
    · have hj' : (j : Int) < n := by omega
      exact WFK_congr (E := XE K U L V) (E' := XE K' U' L' V') (kK j hj') (kU j hj') (kL j hj') (kV j hj') (t2 j hj')
  · unfold up
    by_cases e : i = (lp - ary k).toNat
    · rw [if_pos e]; omega
    · rw [if_neg e]
      have := t3 i (by omega)
      omega
  · unfold up
    rw [if_neg (by omega)]
    by_cases e : j = (lp - ary k).toNat
    · rw [if_pos e]
      exact (t3 i (by omega)).2
    · rw [if_neg e]
      exact t4 i j hij (by omega)
  · rw [show (lp - ary k + 1 - 1).toNat = (lp - ary k).toNat by omega, up_s]; omega
  · by_cases jn : (j : Int) = n
    · refine Or.inl ⟨⟨(lp - ary k).toNat, by omega, by rw [up_s]; exact jn.symm⟩, fun k' hk' hp => ?_⟩
      by_cases e : (k' : Int) < n
      · have hp2 := (hpo k' j e).mp hp
        have w := t2 k' e
        have wl := WFK_L w
        have wv := WFK_V w
        have el : eL (XE K U L V) k' = L k' := rfl
        have ev : eV (XE K U L V) k' = V k' := rfl
        unfold prt at hp2
        omega
      · rw [show k' = n.toNat by omega] at hp
        have hq2 := (hpn j).mp hp
        rcases hq2 with q | q
        · rcases (hab ()).1 with y1 | ⟨i2, a1, a2, a3⟩
          · omega
          · have := t3 i2 a1; omega
        · rcases (hab ()).2 with y1 | ⟨i2, a1, a2, a3⟩
          · omega
          · have := t3 i2 a1; omega
    · have hj' : (j : Int) < n := by omega
      rcases t6 j hj' with ⟨⟨i, hi, e⟩, hno⟩ | ⟨hnl, k0, hk0, hp, hu⟩
      · by_cases hm : (i : Int) < lp - ary k
        · refine Or.inl ⟨⟨i, by omega, by rw [up_n (by omega)]; exact e⟩, fun k' hk' hp => ?_⟩
          by_cases z : (k' : Int) < n
          · exact hno k' z ((hpo k' j z).mp hp)
          · rw [show k' = n.toNat by omega] at hp
            rcases (hpn j).mp hp with q | q
            · rcases (hab ()).1 with y1 | ⟨i2, a1, a2, a3⟩
              · omega
              · have := t4 i i2 (by omega) a1; omega
            · rcases (hab ()).2 with y1 | ⟨i2, a1, a2, a3⟩
              · omega
              · have := t4 i i2 (by omega) a1; omega
        · refine Or.inr ⟨fun i' hi' e' => ?_, n.toNat, by omega, (hpn j).mpr ?_, fun i' hi' hp => ?_⟩
          · unfold up at e'
            by_cases z : i' = (lp - ary k).toNat
            · rw [if_pos z] at e'; exact jn e'.symm
            · rw [if_neg z] at e'
              have := t4 i' i (by omega) hi
              omega
          · rcases hcov i (by omega) hi with q | q
            · exact Or.inl (q.trans e)
            · exact Or.inr (q.trans e)
          · by_cases z : (i' : Int) < n
            · exact absurd ((hpo i' j z).mp hp) (hno i' z)
            · omega
      · refine Or.inr ⟨fun i' hi' e' => ?_, k0, by omega, (hpo k0 j hk0).mpr hp, fun i' hi' hp2 => ?_⟩
        · unfold up at e'
          by_cases z : i' = (lp - ary k).toNat
          · rw [if_pos z] at e'; exact jn e'.symm
          · rw [if_neg z] at e'
            exact hnl i' (by omega) e'
        · by_cases z : (i' : Int) < n
          · exact hu i' z ((hpo i' j z).mp hp2)
          · rw [show i' = n.toNat by omega] at hp2
            exfalso
            rcases (hpn j).mp hp2 with q | q
            · rcases (hab ()).1 with y1 | ⟨i2, a1, a2, a3⟩
              · omega
              · exact hnl i2 a1 (a3.trans q)
            · rcases (hab ()).2 with y1 | ⟨i2, a1, a2, a3⟩
              · omega
              · exact hnl i2 a1 (a3.trans q)
theorem put0_up {f : Nat → Int} {n x : Int} (h : 0 ≤ n ∧ n < 40) : put0 40 f n x = up f n.toNat x := by
  unfold put0
  rw [if_pos (by omega)]
theorem lTop_v {B : BT} (h : 0 < lP B) : lTop B = lQ B (lP B - 1).toNat := by
  show tp (lP B) (lQ B) = _
  unfold tp
  rw [if_pos h]
theorem sAdd_eq {K U L V D E lq wq : Nat → Int} {n z lp wp k u a b : Int} (hn : 0 ≤ n ∧ n < 40) (hl : 0 ≤ lp ∧ lp < 40) :
    sAdd (mkB K U L V D E n z lp lq wp wq) k u a b = mkB (up K n.toNat k) (up U n.toNat u) (up L n.toNat a) (up V n.toNat b) (up D n.toNat (1 + max (at0 40 D a) (at0 40 D b))) E (n + 1) z (lp + 1) (up lq lp.toNat n) wp wq := by
  show mkB (put0 40 K n k) (put0 40 U n u) (put0 40 L n a) (put0 40 V n b) (put0 40 D n (1 + max (at0 40 D a) (at0 40 D b))) E (min (n + 1) 40) z (pN lp) (pF lp lq n) wp wq = _
  rw [show min (n + 1) 40 = n + 1 by omega, put0_up hn, put0_up hn, put0_up hn, put0_up hn, put0_up hn, show pN lp = lp + 1 by unfold pN; rw [if_pos (by omega)], show pF lp lq n = up lq lp.toNat n by unfold pF; rw [if_pos (by omega)]]
/-- what is known of an expression that was read -/
def EB (B : BT) : EX := mkE (bN B).toNat (bK B) (bU B) (bL B) (bV B)
def TRE (B : BT) : Prop := TRc (bN B) (bK B) (bU B) (bL B) (bV B) (lP B) (lQ B)
theorem WFK_0 {E : EX} {f k : Nat} (w : WFK E 0 k) : WFK E f k := by
  rcases w with w | w | w | w | w | w
  · exact Or.inl w
  · exact Or.inr (Or.inl w)
  · exact Or.inr (Or.inr (Or.inl w))
  · exact Or.inr (Or.inr (Or.inr (Or.inl w)))
  · exact Or.inr (Or.inr (Or.inr (Or.inr (Or.inl w))))
  · exact absurd w.2.2.1 (by have := w.2.1; omega)
theorem EB_wf {B : BT} {f : Nat} (h : TRE B) (h1 : lP B = 1) : WFE (EB B) f := by
  obtain ⟨t1, t2, t3, t4, t5, t6⟩ := h
  refine ⟨by show 1 ≤ (bN B).toNat ∧ (bN B).toNat ≤ 40; omega, fun k hk => ?_, fun j hj => ?_⟩
  · have hk' : k < (bN B).toNat := hk
    exact WFK_0 (t2 k (by omega))
  · have hj' : j + 1 < (bN B).toNat := hj
    rcases t6 j (by omega) with ⟨⟨i, hi, e⟩, -⟩ | ⟨-, k, hk, hp, hu⟩
    · exfalso
      have := (t5 (by omega)).2
      rw [h1, show ((1 : Int) - 1).toNat = 0 by decide] at this
      rw [show i = 0 by omega] at e
      omega
    · exact ⟨k, by show k < (bN B).toNat; omega, hp, fun i hi hq => hu i (by have : i < (bN B).toNat := hi; omega) hq⟩
/-- no more unlike nodes than nodes -/
theorem cuU_le : ∀ (k : Nat) (B : BT) (j u : Int), (cuU k B j u).2 ≤ u + k
  | 0, _, _, u => by show u ≤ u + ((0 : Nat) : Int); omega
  | k + 1, B, j, u => by
    have ih := cuU_le k (sLike B j) (j + 1) (if flv B j = j then u + 1 else u)
    show (cuU k (sLike B j) (j + 1) (if flv B j = j then u + 1 else u)).2 ≤ _
    have hu : (if flv B j = j then u + 1 else u) ≤ u + 1 := by split <;> omega
    omega
theorem nUn_le {B : BT} (h : 0 ≤ bN B) : nUn B ≤ bN B := by
  have := cuU_le (bN B).toNat B 0 0
  have e : nUn B = (cuU (bN B).toNat B 0 0).2 := rfl
  omega
end
section
/-! a builder's loose nodes with their values and slopes: a stack machine -/
theorem evs_cgE {p : Int} {E E' : EX} {cv : Nat → Int → Int} {x : Int} : ∀ k : Nat, (∀ j, j < k → eK E j = eK E' j ∧ eU E j = eU E' j ∧ eL E j = eL E' j ∧ eV E j = eV E' j) → evs p E cv x k = evs p E' cv x k
  | 0, _ => rfl
  | k + 1, h => by
    have ih := evs_cgE (p := p) (cv := cv) (x := x) k (fun j hj => h j (by omega))
    obtain ⟨h1, h2, h3, h4⟩ := h k (by omega)
    have e : nvl p E cv x (evs p E' cv x k).1 k = nvl p E' cv x (evs p E' cv x k).1 k := by
      unfold nvl nvn
      rw [h1, h2, h3, h4]
    simp only [evs, ih, e]
theorem hns_cgE {p : Int} {E E' : EX} {cv ch : Nat → Int → Int} {x sx : Int} : ∀ k : Nat, (∀ j, j < k → eK E j = eK E' j ∧ eU E j = eU E' j ∧ eL E j = eL E' j ∧ eV E j = eV E' j) → hns p E cv ch x sx k = hns p E' cv ch x sx k
  | 0, _ => rfl
  | k + 1, h => by
    have ih := hns_cgE (p := p) (cv := cv) (ch := ch) (x := x) (sx := sx) k (fun j hj => h j (by omega))
    have ie := evs_cgE (p := p) (cv := cv) (x := x) k (fun j hj => h j (by omega))
    obtain ⟨h1, h2, h3, h4⟩ := h k (by omega)
    have e : nsl p E ch sx (evs p E' cv x k).1 (hns p E' cv ch x sx k) k = nsl p E' ch sx (evs p E' cv x k).1 (hns p E' cv ch x sx k) k := by
      unfold nsl
      rw [h1, h2, h3, h4]
    simp only [hns, ih, ie, e]
section NV
variable {p : Int} {E : EX} {cv ch : Nat → Int → Int} {x sx : Int} {w z : Nat → Int} {k : Nat}
theorem nv_48 (h : eK E k = 48) : nvl p E cv x w k = eU E k % p := by
  unfold nvl nvn
  rw [h, if_neg (by decide), if_pos rfl]
theorem nv_120 (h : eK E k = 120) : nvl p E cv x w k = x := by
  unfold nvl nvn
  rw [h, if_neg (by decide), if_neg (by decide), if_pos rfl]
theorem nv_110 (h : eK E k = 110) : nvl p E cv x w k = (0 - gv w (eL E k)) % p := by
  unfold nvl nvn
  rw [h, if_neg (by decide), if_neg (by decide), if_neg (by decide), if_pos rfl]
theorem nv_43 (h : eK E k = 43) : nvl p E cv x w k = (gv w (eL E k) + gv w (eV E k)) % p := by
  unfold nvl nvn
  rw [h, if_neg (by decide), if_neg (by decide), if_neg (by decide), if_neg (by decide), if_pos rfl]
theorem nv_45 (h : eK E k = 45) : nvl p E cv x w k = (gv w (eL E k) - gv w (eV E k)) % p := by
  unfold nvl nvn
  rw [h, if_neg (by decide), if_neg (by decide), if_neg (by decide), if_neg (by decide), if_neg (by decide), if_pos rfl]
theorem nv_42 (h : eK E k = 42) : nvl p E cv x w k = gv w (eL E k) * gv w (eV E k) % p := by
  unfold nvl nvn
  rw [h, if_neg (by decide), if_neg (by decide), if_neg (by decide), if_neg (by decide), if_neg (by decide), if_neg (by decide), if_pos rfl]
theorem nv_47 (h : eK E k = 47) : nvl p E cv x w k = if gv w (eV E k) = 0 then -1 else gv w (eL E k) * inv' p (gv w (eV E k)) % p := by
  unfold nvl nvn
  rw [h, if_neg (by decide), if_neg (by decide), if_neg (by decide), if_neg (by decide), if_neg (by decide), if_neg (by decide), if_neg (by decide), if_pos rfl]
theorem nv_94 (h : eK E k = 94) : nvl p E cv x w k = gv w (eL E k) ^ (eU E k).toNat % p := by
  unfold nvl nvn
  rw [h, if_neg (by decide), if_neg (by decide), if_neg (by decide), if_neg (by decide), if_neg (by decide), if_neg (by decide), if_neg (by decide), if_neg (by decide), if_pos rfl]
theorem ns_48 (h : eK E k = 48) : nsl p E ch sx w z k = 0 := by
  unfold nsl
  rw [h, if_neg (by decide), if_neg (by decide), if_neg (by decide), if_neg (by decide), if_neg (by decide), if_neg (by decide), if_neg (by decide), if_neg (by decide)]
theorem ns_120 (h : eK E k = 120) : nsl p E ch sx w z k = sx := by
  unfold nsl
  rw [h, if_pos rfl]
theorem ns_110 (h : eK E k = 110) : nsl p E ch sx w z k = (0 - gv z (eL E k)) % p := by
  unfold nsl
  rw [h, if_neg (by decide), if_pos rfl]
theorem ns_43 (h : eK E k = 43) : nsl p E ch sx w z k = (gv z (eL E k) + gv z (eV E k)) % p := by
  unfold nsl
  rw [h, if_neg (by decide), if_neg (by decide), if_pos rfl]
theorem ns_45 (h : eK E k = 45) : nsl p E ch sx w z k = (gv z (eL E k) - gv z (eV E k)) % p := by
  unfold nsl
  rw [h, if_neg (by decide), if_neg (by decide), if_neg (by decide), if_pos rfl]
theorem ns_42 (h : eK E k = 42) : nsl p E ch sx w z k = (gv z (eL E k) * gv w (eV E k) + gv w (eL E k) * gv z (eV E k)) % p := by
  unfold nsl
  rw [h, if_neg (by decide), if_neg (by decide), if_neg (by decide), if_neg (by decide), if_pos rfl]
theorem ns_47 (h : eK E k = 47) : nsl p E ch sx w z k = ((gv z (eL E k) * gv w (eV E k) - gv w (eL E k) * gv z (eV E k)) % p) * inv' p (gv w (eV E k) * gv w (eV E k) % p) % p := by
  unfold nsl
  rw [h, if_neg (by decide), if_neg (by decide), if_neg (by decide), if_neg (by decide), if_neg (by decide), if_pos rfl]
theorem ns_94 (h : eK E k = 94) : nsl p E ch sx w z k = (eU E k * (gv w (eL E k) ^ (eU E k - 1).toNat % p) % p) * gv z (eL E k) % p := by
  unfold nsl
  rw [h, if_neg (by decide), if_neg (by decide), if_neg (by decide), if_neg (by decide), if_neg (by decide), if_neg (by decide), if_pos rfl]
end NV
/-- values and slopes of the nodes that a row tells, the last one first -/
def lvk (w z Q : Nat → Int) : Nat → List (Int × Int)
  | 0 => []
  | k + 1 => (w (Q k).toNat, z (Q k).toNat) :: lvk w z Q k
theorem lvk_cg {w z Q w' z' Q' : Nat → Int} : ∀ k : Nat, (∀ i, i < k → w' (Q' i).toNat = w (Q i).toNat ∧ z' (Q' i).toNat = z (Q i).toNat) → lvk w' z' Q' k = lvk w z Q k
  | 0, _ => rfl
  | k + 1, h => by
    have ih := lvk_cg (w := w) (z := z) (Q := Q) (w' := w') (z' := z') (Q' := Q') k (fun i hi => h i (by omega))
    have q := h k (by omega)
    simp only [lvk, ih, q.1, q.2]
theorem lvk_cons {w z Q : Nat → Int} {k : Nat} {v s : Int} {l : List (Int × Int)} (h : lvk w z Q (k + 1) = (v, s) :: l) : w (Q k).toNat = v ∧ z (Q k).toNat = s ∧ lvk w z Q k = l := by
  have e : lvk w z Q (k + 1) = (w (Q k).toNat, z (Q k).toNat) :: lvk w z Q k := rfl
  rw [e] at h
  injection h with h1 h2
  injection h1 with h3 h4
  exact ⟨h3, h4, h2⟩
/-- what waits -/
def skc (Q : Nat → Int) : Nat → List Int
  | 0 => []
  | k + 1 => Q k :: skc Q k
def cs (B : BT) : List Int := skc (wQ B) (wP B).toNat
theorem skc_up {Q : Nat → Int} {j : Nat} {v : Int} : ∀ k : Nat, k ≤ j → skc (up Q j v) k = skc Q k
  | 0, _ => rfl
  | k + 1, h => by
    show up Q j v k :: skc (up Q j v) k = Q k :: skc Q k
    rw [up_n (by omega), skc_up k (by omega)]
theorem skc_len (Q : Nat → Int) : ∀ k : Nat, (skc Q k).length = k
  | 0 => rfl
  | k + 1 => by
    show (Q k :: skc Q k).length = k + 1
    rw [List.length_cons, skc_len Q k]
theorem cs_wait {B : BT} {c : Int} (h : 0 ≤ wP B ∧ wP B < 40) : cs (sWait B c) = c :: cs B := by
  show skc (pF (wP B) (wQ B) c) (pN (wP B)).toNat = _
  unfold pN pF
  rw [if_pos h.2, if_pos h.2, show (wP B + 1).toNat = (wP B).toNat + 1 by omega]
  show up (wQ B) (wP B).toNat c (wP B).toNat :: skc (up (wQ B) (wP B).toNat c) (wP B).toNat = c :: skc (wQ B) (wP B).toNat
  rw [up_s, skc_up _ (Nat.le_refl _)]
theorem cs_pos {B : BT} (h : 0 < wP B) : cs B = wTop B :: cs (sWPop B) := by
  have e1 : wTop B = wQ B (wP B - 1).toNat := by
    show tp (wP B) (wQ B) = _
    unfold tp
    rw [if_pos h]
  have e2 : cs (sWPop B) = skc (wQ B) (wP B - 1).toNat := by
    show skc (wQ B) (oN (wP B)).toNat = _
    unfold oN
    rw [if_pos h]
  rw [e1, e2]
  unfold cs
  rw [show (wP B).toNat = (wP B - 1).toNat + 1 by omega]
  rfl
theorem cs_0 {B : BT} (h : wP B ≤ 0) : cs B = [] ∧ wTop B = -1 := by
  refine ⟨?_, ?_⟩
  · unfold cs
    rw [show (wP B).toNat = 0 by omega]
    rfl
  · show tp (wP B) (wQ B) = -1
    unfold tp
    rw [if_neg (by omega)]
theorem cs_cons {B : BT} {c : Int} {l : List Int} (h : cs B = c :: l) : 0 < wP B ∧ wTop B = c ∧ cs (sWPop B) = l := by
  by_cases z : 0 < wP B
  · rw [cs_pos z] at h
    injection h with h1 h2
    exact ⟨z, h1, h2⟩
  · rw [(cs_0 (B := B) (by omega)).1] at h
    cases h
theorem cs_nil {B : BT} (h : cs B = []) (h0 : 0 ≤ wP B) : wP B = 0 ∧ wTop B = -1 := by
  by_cases z : 0 < wP B
  · rw [cs_pos z] at h
    cases h
  · exact ⟨by omega, (cs_0 (by omega)).2⟩
theorem cs_len {B : BT} (h0 : 0 ≤ wP B) : wP B = (cs B).length := by
  unfold cs
  rw [skc_len]
  omega
/-- n nodes, the loose ones with values and slopes vs, what waits ws; no division was banned -/
def IT (p x : Int) (cv ch : Nat → Int → Int) (B : BT) (n : Int) (vs : List (Int × Int)) (ws : List Int) : Prop :=
  TRE B ∧ (bZ B = 0 ∧ bN B = n ∧ 0 ≤ wP B) ∧ cs B = ws ∧ lP B = (vs.length : Nat) ∧
  lvk (evs p (XE (bK B) (bU B) (bL B) (bV B)) cv x n.toNat).1 (hns p (XE (bK B) (bU B) (bL B) (bV B)) cv ch x 1 n.toNat) (lQ B) vs.length = vs ∧
  (evs p (XE (bK B) (bU B) (bL B) (bV B)) cv x n.toNat).2 = true
theorem IT_core {p x : Int} {cv ch : Nat → Int → Int} {K U L V D E lq wq : Nat → Int} {n z lp wp k u a b v s : Int} {vs0 : List (Int × Int)}
    (hn : 0 ≤ n ∧ n < 40) (hz : z = 0) (hw : 0 ≤ wp) (hlp : lp = (vs0.length : Nat)) (hl4 : lp < 40)
    (hq : ∀ i : Nat, (i : Int) < lp → 0 ≤ lq i ∧ lq i < n)
    (hvs : lvk (evs p (XE K U L V) cv x n.toNat).1 (hns p (XE K U L V) cv ch x 1 n.toNat) lq vs0.length = vs0)
    (hok : (evs p (XE K U L V) cv x n.toNat).2 = true)
    (ht : TRc (n + 1) (up K n.toNat k) (up U n.toNat u) (up L n.toNat a) (up V n.toNat b) (lp + 1) (up lq lp.toNat n))
    (hv : nvl p (XE (up K n.toNat k) (up U n.toNat u) (up L n.toNat a) (up V n.toNat b)) cv x (evs p (XE K U L V) cv x n.toNat).1 n.toNat = v) (hv1 : ¬ v = -1)
    (hs : nsl p (XE (up K n.toNat k) (up U n.toNat u) (up L n.toNat a) (up V n.toNat b)) ch 1 (evs p (XE K U L V) cv x n.toNat).1 (hns p (XE K U L V) cv ch x 1 n.toNat) n.toNat = s) :
    IT p x cv ch (sAdd (mkB K U L V D E n z lp lq wp wq) k u a b) (n + 1) ((v, s) :: vs0) (skc wq wp.toNat) := by
  have hag : ∀ j, j < n.toNat → eK (XE (up K n.toNat k) (up U n.toNat u) (up L n.toNat a) (up V n.toNat b)) j = eK (XE K U L V) j ∧ eU (XE (up K n.toNat k) (up U n.toNat u) (up L n.toNat a) (up V n.toNat b)) j = eU (XE K U L V) j ∧ eL (XE (up K n.toNat k) (up U n.toNat u) (up L n.toNat a) (up V n.toNat b)) j = eL (XE K U L V) j ∧ eV (XE (up K n.toNat k) (up U n.toNat u) (up L n.toNat a) (up V n.toNat b)) j = eV (XE K U L V) j := fun j hj => ⟨(up_n (by omega) : up K n.toNat k j = K j), (up_n (by omega) : up U n.toNat u j = U j), (up_n (by omega) : up L n.toNat a j = L j), (up_n (by omega) : up V n.toNat b j = V j)⟩
  have he := evs_cgE (p := p) (cv := cv) (x := x) n.toNat hag
  have hh9 := hns_cgE (p := p) (cv := cv) (ch := ch) (x := x) (sx := 1) n.toNat hag
  rw [sAdd_eq hn (by omega)]
  generalize hE1 : XE (up K n.toNat k) (up U n.toNat u) (up L n.toNat a) (up V n.toNat b) = E1 at *
  have e1 : evs p E1 cv x (n + 1).toNat = (up (evs p (XE K U L V) cv x n.toNat).1 n.toNat v, (evs p (XE K U L V) cv x n.toNat).2 && decide (¬ v = -1)) := by
    rw [show (n + 1).toNat = n.toNat + 1 by omega]
    show (up (evs p E1 cv x n.toNat).1 n.toNat (nvl p E1 cv x (evs p E1 cv x n.toNat).1 n.toNat), (evs p E1 cv x n.toNat).2 && decide (¬ nvl p E1 cv x (evs p E1 cv x n.toNat).1 n.toNat = -1)) = _
    rw [he, hv]
  have e2 : hns p E1 cv ch x 1 (n + 1).toNat = up (hns p (XE K U L V) cv ch x 1 n.toNat) n.toNat s := by
    rw [show (n + 1).toNat = n.toNat + 1 by omega]
    show up (hns p E1 cv ch x 1 n.toNat) n.toNat (nsl p E1 ch 1 (evs p E1 cv x n.toNat).1 (hns p E1 cv ch x 1 n.toNat) n.toNat) = _
    rw [he, hh9, hs]
  refine ⟨ht, ⟨hz, rfl, hw⟩, rfl, ?_, ?_, ?_⟩
  · show lp + 1 = (((v, s) :: vs0).length : Nat)
    rw [List.length_cons]
    omega
  · show lvk (evs p (XE (up K n.toNat k) (up U n.toNat u) (up L n.toNat a) (up V n.toNat b)) cv x (n + 1).toNat).1 (hns p (XE (up K n.toNat k) (up U n.toNat u) (up L n.toNat a) (up V n.toNat b)) cv ch x 1 (n + 1).toNat) (up lq lp.toNat n) ((v, s) :: vs0).length = _
    rw [hE1, e1, e2, List.length_cons]
    show (up (evs p (XE K U L V) cv x n.toNat).1 n.toNat v (up lq lp.toNat n vs0.length).toNat, up (hns p (XE K U L V) cv ch x 1 n.toNat) n.toNat s (up lq lp.toNat n vs0.length).toNat) :: lvk (up (evs p (XE K U L V) cv x n.toNat).1 n.toNat v) (up (hns p (XE K U L V) cv ch x 1 n.toNat) n.toNat s) (up lq lp.toNat n) vs0.length = _
    rw [show lp.toNat = vs0.length by omega, up_s, up_s, up_s, lvk_cg (w := (evs p (XE K U L V) cv x n.toNat).1) (z := hns p (XE K U L V) cv ch x 1 n.toNat) (Q := lq) vs0.length (fun i hi => ?_), hvs]
    have hqi := hq i (by omega)
    rw [up_n (f := lq) (by omega), up_n (by omega), up_n (by omega)]
    exact ⟨rfl, rfl⟩
  · show (evs p (XE (up K n.toNat k) (up U n.toNat u) (up L n.toNat a) (up V n.toNat b)) cv x (n + 1).toNat).2 = true
    rw [hE1, e1]
    show ((evs p (XE K U L V) cv x n.toNat).2 && decide (¬ v = -1)) = true
    rw [hok, decide_eq_true hv1]
    rfl
theorem IT_r {p x : Int} {cv ch : Nat → Int → Int} {B : BT} {n : Int} {vs : List (Int × Int)} {ws : List Int} (h : IT p x cv ch B n vs ws) : 0 ≤ n ∧ n ≤ 40 ∧ (vs.length : Int) ≤ n ∧ wP B = (ws.length : Nat) := by
  obtain ⟨ht, ⟨-, hbn, hw⟩, hc, hl, -, -⟩ := h
  have t1 := ht.1
  have := cs_len hw
  rw [hc] at this
  omega
/-- x, and a number -/
theorem IT_leaf {p x : Int} {cv ch : Nat → Int → Int} {B : BT} {n k u v s : Int} {vs : List (Int × Int)} {ws : List Int} (h : IT p x cv ch B n vs ws) (hn : n < 40) (hk : (k = 120 ∧ u = 0) ∨ (k = 48 ∧ 0 ≤ u ∧ u ≤ 999))
    (hv : ∀ (E : EX) (m : Nat) (w z : Nat → Int), eK E m = k → eU E m = u → nvl p E cv x w m = v ∧ nsl p E ch 1 w z m = s) (hv1 : ¬ v = -1) : IT p x cv ch (sAdd B k u (-1) (-1)) (n + 1) ((v, s) :: vs) ws := by
  obtain ⟨ht, ⟨hz, hbn, hw⟩, hc, hl, hvs, hok⟩ := h
  subst hbn
  subst hc
  have t1 := ht.1
  have e : ary k = 0 := by rcases hk with ⟨rfl, -⟩ | ⟨rfl, -⟩ <;> decide
  have t := TR_add (k := k) (u := u) (a := -1) (b := -1) ht hn (by omega) (WFK_mk (by omega)) (fun _ => ⟨rfl, rfl⟩) (fun q => by omega) (fun q => by omega)
  rw [e, Int.sub_zero] at t
  have q := hv (XE (up (bK B) (bN B).toNat k) (up (bU B) (bN B).toNat u) (up (bL B) (bN B).toNat (-1)) (up (bV B) (bN B).toNat (-1))) (bN B).toNat (evs p (XE (bK B) (bU B) (bL B) (bV B)) cv x (bN B).toNat).1 (hns p (XE (bK B) (bU B) (bL B) (bV B)) cv ch x 1 (bN B).toNat) (up_s : up (bK B) (bN B).toNat k (bN B).toNat = k) (up_s : up (bU B) (bN B).toNat u (bN B).toNat = u)
  exact IT_core (K := bK B) (U := bU B) (L := bL B) (V := bV B) (D := bD B) (E := bE B) (n := bN B) (z := bZ B) (lp := lP B) (lq := lQ B) (wp := wP B) (wq := wQ B) ⟨t1.1, hn⟩ hz hw hl (by omega) (fun i hi => ht.2.2.1 i hi) hvs hok t q.1 hv1 q.2
/-- a sign before an atom, a power -/
theorem IT_un {p x : Int} {cv ch : Nat → Int → Int} {B : BT} {n k u v s v' s' wp : Int} {wq : Nat → Int} {vs : List (Int × Int)} {ws : List Int} (h : IT p x cv ch B n ((v, s) :: vs) ws) (hn : n < 40) (hk : (k = 110 ∧ u = 0) ∨ (k = 94 ∧ 0 ≤ u ∧ u ≤ 9)) (hwp : 0 ≤ wp)
    (hv : ∀ (E : EX) (m : Nat) (w z : Nat → Int), eK E m = k → eU E m = u → gv w (eL E m) = v → gv z (eL E m) = s → nvl p E cv x w m = v' ∧ nsl p E ch 1 w z m = s') (hv1 : ¬ v' = -1) :
    IT p x cv ch (sAdd (mkB (bK B) (bU B) (bL B) (bV B) (bD B) (bE B) (bN B) (bZ B) (oN (lP B)) (lQ B) wp wq) k u (lTop B) (-1)) (n + 1) ((v', s') :: vs) (skc wq wp.toNat) := by
  obtain ⟨ht, ⟨hz, hbn, hw⟩, hc, hl, hvs, hok⟩ := h
  subst hbn
  have t1 := ht.1
  rw [List.length_cons] at hl hvs
  have t3 := ht.2.2.1 vs.length (by omega)
  have e : ary k = 1 := by rcases hk with ⟨rfl, -⟩ | ⟨rfl, -⟩ <;> decide
  have ev := lTop_v (B := B) (by omega)
  have el : (lP B - 1).toNat = vs.length := by omega
  have eo : oN (lP B) = (vs.length : Nat) := by unfold oN; rw [if_pos (by omega)]; omega
  have ea : ary k = 1 → lTop B = lQ B (lP B - 1).toNat ∧ (-1 : Int) = -1 := fun _ => ⟨ev, rfl⟩
  have t := TR_add (k := k) (u := u) (a := lTop B) (b := -1) ht hn (by omega) (WFK_mk (by rw [ev, el]; omega)) (fun q => by omega) ea (fun q => by omega)
  rw [e, show lP B - 1 = ((vs.length : Nat) : Int) by omega] at t
  rw [ev, el] at t ⊢
  obtain ⟨c1, c2, c3⟩ := lvk_cons hvs
  have q := hv (XE (up (bK B) (bN B).toNat k) (up (bU B) (bN B).toNat u) (up (bL B) (bN B).toNat (lQ B vs.length)) (up (bV B) (bN B).toNat (-1))) (bN B).toNat (evs p (XE (bK B) (bU B) (bL B) (bV B)) cv x (bN B).toNat).1 (hns p (XE (bK B) (bU B) (bL B) (bV B)) cv ch x 1 (bN B).toNat) (up_s : up (bK B) (bN B).toNat k (bN B).toNat = k) (up_s : up (bU B) (bN B).toNat u (bN B).toNat = u)
    (by rw [show eL (XE (up (bK B) (bN B).toNat k) (up (bU B) (bN B).toNat u) (up (bL B) (bN B).toNat (lQ B vs.length)) (up (bV B) (bN B).toNat (-1))) (bN B).toNat = lQ B vs.length from up_s, gv_of (by omega)]; exact c1)
    (by rw [show eL (XE (up (bK B) (bN B).toNat k) (up (bU B) (bN B).toNat u) (up (bL B) (bN B).toNat (lQ B vs.length)) (up (bV B) (bN B).toNat (-1))) (bN B).toNat = lQ B vs.length from up_s, gv_of (by omega)]; exact c2)
  exact IT_core (K := bK B) (U := bU B) (L := bL B) (V := bV B) (D := bD B) (E := bE B) (n := bN B) (z := bZ B) (lp := oN (lP B)) (lq := lQ B) (wp := wp) (wq := wq) ⟨t1.1, hn⟩ hz hwp eo (by omega) (fun i hi => ht.2.2.1 i (by omega)) c3 hok (by rw [eo]; exact t) q.1 hv1 q.2
/-- two parts -/
theorem IT_bin {p x : Int} {cv ch : Nat → Int → Int} {B : BT} {n k v1 s1 v2 s2 v' s' wp : Int} {wq : Nat → Int} {vs : List (Int × Int)} {ws : List Int} (h : IT p x cv ch B n ((v2, s2) :: (v1, s1) :: vs) ws) (hn : n < 40) (hk : k = 43 ∨ k = 45 ∨ k = 42 ∨ k = 47) (hwp : 0 ≤ wp)
    (hv : ∀ (E : EX) (m : Nat) (w z : Nat → Int), eK E m = k → gv w (eL E m) = v1 → gv z (eL E m) = s1 → gv w (eV E m) = v2 → gv z (eV E m) = s2 → nvl p E cv x w m = v' ∧ nsl p E ch 1 w z m = s') (hv1 : ¬ v' = -1) :
    IT p x cv ch (sAdd (mkB (bK B) (bU B) (bL B) (bV B) (bD B) (bE B) (bN B) (bZ B) (oN (oN (lP B))) (lQ B) wp wq) k 0 (lTop (sLPop B)) (lTop B)) (n + 1) ((v', s') :: vs) (skc wq wp.toNat) := by
  obtain ⟨ht, ⟨hz, hbn, hw⟩, hc, hl, hvs, hok⟩ := h
  subst hbn
  have t1 := ht.1
  rw [List.length_cons, List.length_cons] at hl hvs
  have t3 := ht.2.2.1 vs.length (by omega)
  have t3' := ht.2.2.1 (vs.length + 1) (by omega)
  have t4 := ht.2.2.2.1 vs.length (vs.length + 1) (by omega) (by omega)
  have e : ary k = 2 := by rcases hk with rfl | rfl | rfl | rfl <;> decide
  have ev := lTop_v (B := B) (by omega)
  have el : (lP B - 1).toNat = vs.length + 1 := by omega
  have el2 : (lP B - 2).toNat = vs.length := by omega
  have eo1 : oN (lP B) = lP B - 1 := by unfold oN; rw [if_pos (by omega)]
  have eo : oN (oN (lP B)) = (vs.length : Nat) := by rw [eo1]; unfold oN; rw [if_pos (by omega)]; omega
  have ev2 : lTop (sLPop B) = lQ B (lP B - 2).toNat := by
    show tp (oN (lP B)) (lQ B) = _
    rw [eo1]
    unfold tp
    rw [if_pos (by omega), show lP B - 1 - 1 = lP B - 2 by omega]
  have ea : ary k = 2 → lTop B = lQ B (lP B - 1).toNat ∧ lTop (sLPop B) = lQ B (lP B - 2).toNat := fun _ => ⟨ev, ev2⟩
  have t := TR_add (k := k) (u := 0) (a := lTop (sLPop B)) (b := lTop B) ht hn (by omega) (WFK_mk (by rw [ev, ev2, el, el2]; omega)) (fun q => by omega) (fun q => by omega) ea
  rw [e, show lP B - 2 = ((vs.length : Nat) : Int) by omega] at t
  rw [ev, ev2, el, el2] at t ⊢
  obtain ⟨c1, c2, c3⟩ := lvk_cons hvs
  obtain ⟨d1, d2, d3⟩ := lvk_cons c3
  have fL9 : eL (XE (up (bK B) (bN B).toNat k) (up (bU B) (bN B).toNat 0) (up (bL B) (bN B).toNat (lQ B vs.length)) (up (bV B) (bN B).toNat (lQ B (vs.length + 1)))) (bN B).toNat = lQ B vs.length := up_s
  have fV9 : eV (XE (up (bK B) (bN B).toNat k) (up (bU B) (bN B).toNat 0) (up (bL B) (bN B).toNat (lQ B vs.length)) (up (bV B) (bN B).toNat (lQ B (vs.length + 1)))) (bN B).toNat = lQ B (vs.length + 1) := up_s
  have q := hv (XE (up (bK B) (bN B).toNat k) (up (bU B) (bN B).toNat 0) (up (bL B) (bN B).toNat (lQ B vs.length)) (up (bV B) (bN B).toNat (lQ B (vs.length + 1)))) (bN B).toNat (evs p (XE (bK B) (bU B) (bL B) (bV B)) cv x (bN B).toNat).1 (hns p (XE (bK B) (bU B) (bL B) (bV B)) cv ch x 1 (bN B).toNat) (up_s : up (bK B) (bN B).toNat k (bN B).toNat = k)
    (by rw [fL9, gv_of (by omega)]; exact d1) (by rw [fL9, gv_of (by omega)]; exact d2) (by rw [fV9, gv_of (by omega)]; exact c1) (by rw [fV9, gv_of (by omega)]; exact c2)
  exact IT_core (K := bK B) (U := bU B) (L := bL B) (V := bV B) (D := bD B) (E := bE B) (n := bN B) (z := bZ B) (lp := oN (oN (lP B))) (lq := lQ B) (wp := wp) (wq := wq) ⟨t1.1, hn⟩ hz hwp eo (by omega) (fun i hi => ht.2.2.1 i (by omega)) d3 hok (by rw [eo]; exact t) q.1 hv1 q.2
end
section
/-! reading the law's texts -/
section RDS
variable {p x : Int} {cv ch : Nat → Int → Int} {B : BT} {n v s v1 s1 v2 s2 : Int} {vs : List (Int × Int)} {ws : List Int}
theorem IT_top (h : IT p x cv ch B n vs ws) : wTop B = ws.headD (-1) := by
  obtain ⟨-, ⟨-, -, hw⟩, hc, -, -, -⟩ := h
  cases ws with
  | nil => exact (cs_nil hc hw).2
  | cons c l => exact (cs_cons hc).2.1
theorem st_wait {c : Int} (h : IT p x cv ch B n vs ws) (hw4 : ws.length < 40) : IT p x cv ch (sWait B c) n vs (c :: ws) := by
  have r := IT_r h
  obtain ⟨ht, ⟨hz, hbn, hw⟩, hc, hl, hvs, hok⟩ := h
  refine ⟨ht, ⟨hz, hbn, ?_⟩, ?_, hl, hvs, hok⟩
  · show 0 ≤ pN (wP B)
    unfold pN
    split <;> omega
  · rw [cs_wait ⟨hw, by omega⟩, hc]
theorem st_num {d : Int} (h : IT p x cv ch B n vs ws) (hp : 0 < p) (hn : n < 40) (hd : 0 ≤ d ∧ d ≤ 9) (htop : ¬ ws.headD (-1) = 110) : IT p x cv ch (sAddNum B d) (n + 1) ((d % p, 0) :: vs) ws := by
  have ht := IT_top h
  have hst : ¬ wTop (sAdd B 48 d (-1) (-1)) = 110 := by
    show ¬ wTop B = 110
    rw [ht]; exact htop
  show IT p x cv ch (sFin (wP (sAdd B 48 d (-1) (-1))).toNat (sAdd B 48 d (-1) (-1))) _ _ _
  rw [sFin_stop hst]
  exact IT_leaf h hn (Or.inr ⟨rfl, by omega, by omega⟩) (fun E m w z h1 h2 => ⟨by rw [nv_48 h1, h2], ns_48 h1⟩) (by have := emod_rng d hp; omega)
theorem st_x0 (h : IT p x cv ch B n vs ws) (hx : 0 ≤ x) (hn : n < 40) : IT p x cv ch (sAdd B 120 0 (-1) (-1)) (n + 1) ((x, 1) :: vs) ws :=
  IT_leaf h hn (Or.inl ⟨rfl, rfl⟩) (fun E m w z h1 _ => ⟨nv_120 h1, ns_120 h1⟩) (by omega)
theorem st_x (h : IT p x cv ch B n vs ws) (hx : 0 ≤ x) (hn : n < 40) (htop : ¬ ws.headD (-1) = 110) : IT p x cv ch (sAddX B) (n + 1) ((x, 1) :: vs) ws := by
  have ht := IT_top h
  have hst : ¬ wTop (sAdd B 120 0 (-1) (-1)) = 110 := by
    show ¬ wTop B = 110
    rw [ht]; exact htop
  show IT p x cv ch (sFin (wP (sAdd B 120 0 (-1) (-1))).toNat (sAdd B 120 0 (-1) (-1))) _ _ _
  rw [sFin_stop hst]
  exact st_x0 h hx hn
theorem st_neg (h : IT p x cv ch B n ((v, s) :: vs) (110 :: ws)) (hp : 0 < p) (hn : n < 40) : IT p x cv ch (sNeg B) (n + 1) (((0 - v) % p, (0 - s) % p) :: vs) ws := by
  obtain ⟨a, b, c⟩ := cs_cons h.2.2.1
  have q := IT_un (wp := oN (wP B)) (wq := wQ B) h hn (Or.inl ⟨rfl, rfl⟩) (by unfold oN; split <;> omega) (v' := (0 - v) % p) (s' := (0 - s) % p) (fun E m w z h1 _ h3 h4 => ⟨by rw [nv_110 h1, h3], by rw [ns_110 h1, h4]⟩) (by have := emod_rng (0 - v) hp; omega)
  have e : skc (wQ B) (oN (wP B)).toNat = ws := c
  rw [e] at q
  show IT p x cv ch (sAdd (sLPop (sWPop B)) (wTop B) 0 (lTop B) (-1)) _ _ _
  rw [b]
  exact q
theorem st_negx (h : IT p x cv ch B n vs (110 :: ws)) (hp : 0 < p) (hx : 0 ≤ x) (hn : n < 39) (htop : ¬ ws.headD (-1) = 110) : IT p x cv ch (sAddX B) (n + 2) (((0 - x) % p, (0 - 1) % p) :: vs) ws := by
  have h1 := st_x0 h hx (by omega)
  have r := IT_r h1
  have h2 := st_neg h1 hp (by omega)
  have hst : ¬ wTop (sNeg (sAdd B 120 0 (-1) (-1))) = 110 := by
    rw [IT_top h2]; exact htop
  show IT p x cv ch (sFin (wP (sAdd B 120 0 (-1) (-1))).toNat (sAdd B 120 0 (-1) (-1))) _ _ _
  rw [show (wP (sAdd B 120 0 (-1) (-1))).toNat = ws.length + 1 by rw [r.2.2.2, List.length_cons]; omega, sFin_step (IT_top h1), sFin_stop hst, show n + 2 = n + 1 + 1 by omega]
  exact h2
/-- a power's value and slope -/
def pwv (p v s e : Int) : Int × Int := (v ^ e.toNat % p, (e * (v ^ (e - 1).toNat % p) % p) * s % p)
theorem st_pow {e : Int} (h : IT p x cv ch B n ((v, s) :: vs) ws) (hp : 0 < p) (hn : n < 40) (he : 0 ≤ e ∧ e ≤ 9) : IT p x cv ch (sPower B e) (n + 1) (pwv p v s e :: vs) ws := by
  have hw := h.2.1.2.2
  have q := IT_un (wp := wP B) (wq := wQ B) h hn (Or.inr ⟨rfl, he⟩) hw (v' := v ^ e.toNat % p) (s' := (e * (v ^ (e - 1).toNat % p) % p) * s % p) (fun E m w z h1 h2 h3 h4 => ⟨by rw [nv_94 h1, h2, h3], by rw [ns_94 h1, h2, h3, h4]⟩) (by have := emod_rng (v ^ e.toNat) hp; omega)
  have hc := h.2.2.1
  have e9 : skc (wQ B) (wP B).toNat = ws := hc
  rw [e9] at q
  exact q
/-- two parts joined -/
def opv (c p : Int) (a b : Int × Int) : Int × Int := if c = 42 then (a.1 * b.1 % p, (a.2 * b.1 + a.1 * b.2) % p) else if c = 45 then ((a.1 - b.1) % p, (a.2 - b.2) % p) else ((a.1 + b.1) % p, (a.2 + b.2) % p)
theorem opv_42 {p : Int} {a b : Int × Int} : opv 42 p a b = (a.1 * b.1 % p, (a.2 * b.1 + a.1 * b.2) % p) := by
  unfold opv
  rw [if_pos rfl]
theorem opv_45 {p : Int} {a b : Int × Int} : opv 45 p a b = ((a.1 - b.1) % p, (a.2 - b.2) % p) := by
  unfold opv
  rw [if_neg (by decide), if_pos rfl]
theorem opv_43 {p : Int} {a b : Int × Int} : opv 43 p a b = ((a.1 + b.1) % p, (a.2 + b.2) % p) := by
  unfold opv
  rw [if_neg (by decide), if_neg (by decide)]
theorem st_op {c : Int} {a b : Int × Int} (h : IT p x cv ch B n (b :: a :: vs) (c :: ws)) (hp : 0 < p) (hn : n < 40) (hc : c = 43 ∨ c = 45 ∨ c = 42) : IT p x cv ch (sOp B) (n + 1) (opv c p a b :: vs) ws := by
  obtain ⟨v1, s1⟩ := a
  obtain ⟨v2, s2⟩ := b
  obtain ⟨t1, t2, t3⟩ := cs_cons h.2.2.1
  have hwp : 0 ≤ oN (wP B) := by unfold oN; split <;> omega
  have e : skc (wQ B) (oN (wP B)).toNat = ws := t3
  show IT p x cv ch (sAdd (sLPop (sWPop (sLPop B))) (wTop B) 0 (lTop (sLPop B)) (lTop B)) _ _ _
  rw [t2]
  rcases hc with rfl | rfl | rfl
  · have q := IT_bin (k := 43) (wp := oN (wP B)) (wq := wQ B) h hn (Or.inl rfl) hwp (v' := (v1 + v2) % p) (s' := (s1 + s2) % p) (fun E m w z h1 h3 h4 h5 h6 => ⟨by rw [nv_43 h1, h3, h5], by rw [ns_43 h1, h4, h6]⟩) (by have := emod_rng (v1 + v2) hp; omega)
    rw [e] at q
    rw [opv_43]
    exact q
  · have q := IT_bin (k := 45) (wp := oN (wP B)) (wq := wQ B) h hn (Or.inr (Or.inl rfl)) hwp (v' := (v1 - v2) % p) (s' := (s1 - s2) % p) (fun E m w z h1 h3 h4 h5 h6 => ⟨by rw [nv_45 h1, h3, h5], by rw [ns_45 h1, h4, h6]⟩) (by have := emod_rng (v1 - v2) hp; omega)
    rw [e] at q
    rw [opv_45]
    exact q
  · have q := IT_bin (k := 42) (wp := oN (wP B)) (wq := wQ B) h hn (Or.inr (Or.inr (Or.inl rfl))) hwp (v' := v1 * v2 % p) (s' := (s1 * v2 + v1 * s2) % p) (fun E m w z h1 h3 h4 h5 h6 => ⟨by rw [nv_42 h1, h3, h5], by rw [ns_42 h1, h3, h4, h5, h6]⟩) (by have := emod_rng (v1 * v2) hp; omega)
    rw [e] at q
    rw [opv_42]
    exact q
/-- joining stops, or joins one, or two -/
theorem jo_stop {t : Int} (h : IT p x cv ch B n vs ws) (hl : lvl (ws.headD (-1)) < t) : sJoinF t B = B := by
  have ht := IT_top h
  exact sJoin_stop (by rw [ht]; omega) _
theorem jo_1 {c : Int} {a b : Int × Int} {t : Int} (h : IT p x cv ch B n (b :: a :: vs) (c :: ws)) (hp : 0 < p) (hn : n < 40) (hc : c = 43 ∨ c = 45 ∨ c = 42) (h1 : t ≤ lvl c) (hl : lvl (ws.headD (-1)) < t) : IT p x cv ch (sJoinF t B) (n + 1) (opv c p a b :: vs) ws := by
  have r := IT_r h
  have q := st_op h hp hn hc
  have ht := IT_top q
  show IT p x cv ch (sJoin t (wP B).toNat B) _ _ _
  rw [show (wP B).toNat = ws.length + 1 by rw [r.2.2.2, List.length_cons]; omega, sJoin_step (by rw [IT_top h]; exact h1), sJoin_stop (by rw [ht]; omega)]
  exact q
theorem jo_2 {c d : Int} {a b b2 : Int × Int} {t : Int} (h : IT p x cv ch B n (b2 :: b :: a :: vs) (c :: d :: ws)) (hp : 0 < p) (hn : n < 39) (hc : c = 43 ∨ c = 45 ∨ c = 42) (hd : d = 43 ∨ d = 45 ∨ d = 42) (h1 : t ≤ lvl c) (h2 : t ≤ lvl d) (hl : lvl (ws.headD (-1)) < t) : IT p x cv ch (sJoinF t B) (n + 2) (opv d p a (opv c p b b2) :: vs) ws := by
  have r := IT_r h
  have q := st_op h hp (by omega) hc
  have q2 := st_op q hp (by omega) hd
  have ht := IT_top q2
  show IT p x cv ch (sJoin t (wP B).toNat B) _ _ _
  rw [show (wP B).toNat = ws.length + 1 + 1 by rw [r.2.2.2, List.length_cons, List.length_cons]; omega, sJoin_step (by rw [IT_top h]; exact h1), sJoin_step (by rw [IT_top q]; exact h2), sJoin_stop (by rw [ht]; omega), show n + 2 = n + 1 + 1 by omega]
  exact q2
/-- a parenthesis closes, behind what was joined -/
theorem st_close {ws1 : List Int} {n1 : Int} {vs1 : List (Int × Int)} (hj : IT p x cv ch (sJoinF 1 B) n1 vs1 (40 :: ws1)) (htop : ¬ ws1.headD (-1) = 110) : IT p x cv ch (sClose B) n1 vs1 ws1 := by
  obtain ⟨t1, t2, t3⟩ := cs_cons hj.2.2.1
  have e : fnO (wTop (sJoinF 1 B)) = -1 := by rw [t2]; decide
  have hp : IT p x cv ch (sWPop (sJoinF 1 B)) n1 vs1 ws1 := by
    obtain ⟨ht, ⟨hz, hbn, hw⟩, hc, hl, hvs, hok⟩ := hj
    refine ⟨ht, ⟨hz, hbn, ?_⟩, t3, hl, hvs, hok⟩
    show 0 ≤ oN (wP (sJoinF 1 B))
    unfold oN
    split <;> omega
  unfold sClose
  rw [if_pos e]
  show IT p x cv ch (sFin (wP (sWPop (sJoinF 1 B))).toNat (sWPop (sJoinF 1 B))) _ _ _
  rw [sFin_stop (by rw [IT_top hp]; exact htop)]
  exact hp
end RDS
/-! the parser's steps -/
section TKS
variable {B : BT} {a o m : Int}
theorem tk0 {c : Int} : tk (mkP B 0 o m) c = tkA (mkP B 0 o m) c := if_pos rfl
theorem tk2 {c : Int} : tk (mkP B 2 o m) c = tkE (mkP B 2 o m) c := by
  show (if (2 : Int) = 0 then _ else if (2 : Int) = 1 then _ else if (2 : Int) = 2 then tkE (mkP B 2 o m) c else _) = _
  rw [if_neg (by decide), if_neg (by decide), if_pos rfl]
theorem tk34 {c : Int} (ha : a = 3 ∨ a = 4) : tk (mkP B a o m) c = tkB (mkP B a o m) c := by
  show (if a = 0 then _ else if a = 1 then _ else if a = 2 then _ else tkB (mkP B a o m) c) = _
  rw [if_neg (by omega), if_neg (by omega), if_neg (by omega)]
theorem tk_d {d : Int} (hd : 0 ≤ d ∧ d ≤ 9) : tk (mkP B 0 o m) (48 + d) = (mkP (sAddNum B d) 3 o (bN B), 1) := by
  rw [tk0]
  show (if 48 ≤ 48 + d ∧ 48 + d ≤ 57 then (mkP (sAddNum B (48 + d - 48)) 3 o (bN B), (1 : Int)) else _) = _
  rw [if_pos (by omega), show 48 + d - 48 = d by omega]
theorem tk_x : tk (mkP B 0 o m) 120 = (mkP (sAddX B) 3 o m, 1) := by
  rw [tk0]
  show (if (48 : Int) ≤ 120 ∧ (120 : Int) ≤ 57 then _ else if (120 : Int) = 120 then (mkP (sAddX B) 3 o m, (1 : Int)) else _) = _
  rw [if_neg (by decide), if_pos rfl]
theorem tk_n : tk (mkP B 0 o m) 45 = (mkP (sWait B 110) 0 o m, 1) := by
  rw [tk0]
  show (if (48 : Int) ≤ 45 ∧ (45 : Int) ≤ 57 then _ else if (45 : Int) = 120 then _ else if (45 : Int) = 45 then (mkP (sWait B 110) 0 o m, (1 : Int)) else _) = _
  rw [if_neg (by decide), if_neg (by decide), if_pos rfl]
theorem tk_o : tk (mkP B 0 o m) 40 = (mkP (sWait B 40) 0 (o + 1) m, 1) := by
  rw [tk0]
  show (if (48 : Int) ≤ 40 ∧ (40 : Int) ≤ 57 then _ else if (40 : Int) = 120 then _ else if (40 : Int) = 45 then _ else if (40 : Int) = 40 then (mkP (sWait B 40) 0 (o + 1) m, (1 : Int)) else _) = _
  rw [if_neg (by decide), if_neg (by decide), if_neg (by decide), if_pos rfl]
theorem tk_w : tk (mkP B 3 o m) 94 = (mkP B 2 o (-1), 1) := by
  rw [tk34 (Or.inl rfl)]
  show (if (48 : Int) ≤ 94 ∧ (94 : Int) ≤ 57 then _ else if (94 : Int) = 94 ∧ (3 : Int) = 3 then (mkP B 2 o (-1), (1 : Int)) else _) = _
  rw [if_neg (by decide), if_pos ⟨rfl, rfl⟩]
theorem tk_e {e : Int} (he : 0 ≤ e ∧ e ≤ 9) : tk (mkP B 2 o m) (48 + e) = (mkP (sPower B e) 4 o m, 1) := by
  rw [tk2]
  show (if 48 ≤ 48 + e ∧ 48 + e ≤ 57 then (mkP (sPower B (48 + e - 48)) 4 o m, (1 : Int)) else _) = _
  rw [if_pos (by omega), show 48 + e - 48 = e by omega]
theorem tk_s {c : Int} (ha : a = 3 ∨ a = 4) (hc : c = 43 ∨ c = 45 ∨ c = 42 ∨ c = 47) : tk (mkP B a o m) c = (mkP (sSign B c) 0 o (-1), 1) := by
  rw [tk34 ha]
  show (if (48 : Int) ≤ c ∧ c ≤ 57 then _ else if c = 94 ∧ a = 3 then _ else if c = 41 ∧ 0 < o then _ else if c = 43 ∨ c = 45 ∨ c = 42 ∨ c = 47 then (mkP (sSign B c) 0 o (-1), (1 : Int)) else _) = _
  rw [if_neg (by omega), if_neg (by omega), if_neg (by omega), if_pos hc]
theorem tk_c (ha : a = 3 ∨ a = 4) (ho : 0 < o) : tk (mkP B a o m) 41 = (mkP (sClose B) 3 (o - 1) (-1), 1) := by
  rw [tk34 ha]
  show (if (48 : Int) ≤ 41 ∧ (41 : Int) ≤ 57 then _ else if (41 : Int) = 94 ∧ a = 3 then _ else if (41 : Int) = 41 ∧ 0 < o then (mkP (sClose B) 3 (o - 1) (-1), (1 : Int)) else _) = _
  rw [if_neg (by decide), if_neg (by omega), if_pos ⟨rfl, ho⟩]
/-- a row of signs is taken -/
def RD : List Int → PT → PT → Prop
  | [], S, T => S = T
  | c :: l, S, T => ∃ S1, tk S c = (S1, 1) ∧ RD l S1 T
theorem RD_app {l1 l2 : List Int} {S T W : PT} (h : RD l1 S T) (h2 : RD l2 T W) : RD (l1 ++ l2) S W := by
  induction l1 generalizing S with
  | nil => cases h; exact h2
  | cons c l ih =>
    obtain ⟨S1, e, h⟩ := h
    exact ⟨S1, e, ih h⟩
/-- the signs of a row, from place i on -/
def MT (f : Nat → Int) : Int → List Int → Prop
  | _, [] => True
  | i, c :: l => f i.toNat = c ∧ MT f (i + 1) l
theorem RD_feL {f : Nat → Int} : ∀ (l : List Int) (i : Int) (S T : PT), RD l S T → MT f i l → feL f l.length i S = (T, -2)
  | [], _, S, T, h, _ => by cases h; rfl
  | c :: l, i, S, T, h, hm => by
    obtain ⟨S1, e, h⟩ := h
    obtain ⟨m1, m2⟩ := hm
    have e2 : tk S (f i.toNat) = (S1, 1) := by rw [m1]; exact e
    have e3 : (c :: l).length = l.length + 1 := List.length_cons
    rw [e3, feL_step (by rw [e2]; exact (by decide : ¬ (1 : Int) = 0)), e2]
    exact RD_feL l (i + 1) S1 T h m2
theorem MT_app {f : Nat → Int} : ∀ (l1 l2 : List Int) (i : Int), MT f i l1 → MT f (i + (l1.length : Nat)) l2 → MT f i (l1 ++ l2)
  | [], _, i, _, h => by
    have e : i + ((([] : List Int).length : Nat) : Int) = i := by show i + 0 = i; omega
    rw [e] at h
    exact h
  | c :: l, l2, i, h, h2 => by
    refine ⟨h.1, MT_app l l2 (i + 1) h.2 ?_⟩
    rw [List.length_cons] at h2
    rw [show i + 1 + (l.length : Int) = i + ((l.length + 1 : Nat) : Int) by omega]
    exact h2
theorem MT_cg {f g : Nat → Int} : ∀ (l : List Int) (i : Int), 0 ≤ i → (∀ j : Nat, i ≤ j → (j : Int) < i + (l.length : Nat) → g j = f j) → MT f i l → MT g i l
  | [], _, _, _, _ => trivial
  | c :: l, i, hi, h, hm => by
    rw [List.length_cons] at h
    refine ⟨by rw [h i.toNat (by omega) (by omega)]; exact hm.1, MT_cg l (i + 1) (by omega) (fun j h1 h2 => h j (by omega) (by omega)) hm.2⟩
/-- a row of signs is put behind others -/
def wr : List Int → Int → (Nat → Int) → (Nat → Int)
  | [], _, f => f
  | c :: l, n, f => wr l (n + 1) (up f n.toNat c)
theorem wr_old : ∀ (l : List Int) (n : Int) (f : Nat → Int) (j : Nat), 0 ≤ n → (j : Int) < n → wr l n f j = f j
  | [], _, _, _, _, _ => rfl
  | c :: l, n, f, j, hn, hj => by
    show wr l (n + 1) (up f n.toNat c) j = f j
    rw [wr_old l (n + 1) _ j (by omega) (by omega), up_n (by omega)]
theorem wr_MT : ∀ (l : List Int) (n : Int) (f : Nat → Int), 0 ≤ n → MT (wr l n f) n l
  | [], _, _, _ => trivial
  | c :: l, n, f, hn => by
    refine ⟨?_, wr_MT l (n + 1) _ (by omega)⟩
    show wr l (n + 1) (up f n.toNat c) n.toNat = c
    rw [wr_old l (n + 1) _ n.toNat (by omega) (by omega), up_s]
theorem wr_rng : ∀ (l : List Int) (n : Int) (f : Nat → Int), (∀ j, 0 ≤ f j ∧ f j < 65536) → (∀ c, c ∈ l → 0 ≤ c ∧ c < 65536) → ∀ j, 0 ≤ wr l n f j ∧ wr l n f j < 65536
  | [], _, _, h, _ => h
  | c :: l, n, f, h, hl => by
    refine wr_rng l (n + 1) _ (fun j => ?_) (fun d hd => hl d (List.mem_cons_of_mem _ hd))
    by_cases e : j = n.toNat
    · rw [e, up_s]; exact hl c List.mem_cons_self
    · rw [up_n e]; exact h j
theorem wr_add {l l0 : List Int} {n : Int} {f : Nat → Int} (hn : n = (l0.length : Nat)) (h : MT f 0 l0) : MT (wr l n f) 0 (l0 ++ l) := by
  refine MT_app l0 l 0 (MT_cg l0 0 (by omega) (fun j h1 h2 => wr_old l n f j (by omega) (by omega)) h) ?_
  rw [show (0 : Int) + ((l0.length : Nat) : Int) = n by omega]
  exact wr_MT l n f (by omega)
end TKS
end
section
/-! the texts of the law, and what is read out of them -/
/-- a term's signs: kind k, factor F, number c, exponent e -/
def tT (k F c e : Int) : List Int := (48 + F) :: 42 :: (if k = 0 then [48 + c] else if k = 1 then [120, 94, 48 + e] else if k = 2 then [45, 120, 94, 48 + e] else [40, 120, 43, 48 + c, 41, 94, 48 + e])
/-- its nodes, but for the product -/
def tN (k : Int) : Int := if k = 0 then 2 else if k = 1 then 3 else if k = 2 then 4 else 5
/-- value and slope of its second factor -/
def tVs (p x k c e : Int) : Int × Int := if k = 0 then (c % p, 0) else if k = 1 then pwv p x 1 e else if k = 2 then pwv p ((0 - x) % p) ((0 - 1) % p) e else pwv p ((x + c % p) % p) ((1 + 0) % p) e
def tP (p x k F c e : Int) : Int × Int := opv 42 p (F % p, 0) (tVs p x k c e)
def okT (k F c e : Int) : Prop := (0 ≤ k ∧ k < 4) ∧ (0 ≤ F ∧ F ≤ 9) ∧ (0 ≤ c ∧ c ≤ 9) ∧ (0 ≤ e ∧ e ≤ 9)
theorem tN_r (k : Int) : 2 ≤ tN k ∧ tN k ≤ 5 := by
  unfold tN
  split
  · omega
  · split
    · omega
    · split <;> omega
theorem tT_0 {F c e : Int} : tT 0 F c e = [48 + F, 42, 48 + c] := by
  unfold tT
  rw [if_pos rfl]
theorem tT_1 {F c e : Int} : tT 1 F c e = [48 + F, 42, 120, 94, 48 + e] := by
  unfold tT
  rw [if_neg (by decide), if_pos rfl]
theorem tT_2 {F c e : Int} : tT 2 F c e = [48 + F, 42, 45, 120, 94, 48 + e] := by
  unfold tT
  rw [if_neg (by decide), if_neg (by decide), if_pos rfl]
theorem tT_3 {F c e : Int} : tT 3 F c e = [48 + F, 42, 40, 120, 43, 48 + c, 41, 94, 48 + e] := by
  unfold tT
  rw [if_neg (by decide), if_neg (by decide), if_neg (by decide)]
theorem tN_0 : tN 0 = 2 := by decide
theorem tN_1 : tN 1 = 3 := by decide
theorem tN_2 : tN 2 = 4 := by decide
theorem tN_3 : tN 3 = 5 := by decide
theorem tVs_0 {p x c e : Int} : tVs p x 0 c e = (c % p, 0) := by
  unfold tVs
  rw [if_pos rfl]
theorem tVs_1 {p x c e : Int} : tVs p x 1 c e = pwv p x 1 e := by
  unfold tVs
  rw [if_neg (by decide), if_pos rfl]
theorem tVs_2 {p x c e : Int} : tVs p x 2 c e = pwv p ((0 - x) % p) ((0 - 1) % p) e := by
  unfold tVs
  rw [if_neg (by decide), if_neg (by decide), if_pos rfl]
theorem tVs_3 {p x c e : Int} : tVs p x 3 c e = pwv p ((x + c % p) % p) ((1 + 0) % p) e := by
  unfold tVs
  rw [if_neg (by decide), if_neg (by decide), if_neg (by decide)]
theorem tT_len (k F c e : Int) : 3 ≤ (tT k F c e).length ∧ (tT k F c e).length ≤ 9 := by
  unfold tT
  split
  · exact ⟨Nat.le_of_ble_eq_true rfl, Nat.le_of_ble_eq_true rfl⟩
  · split
    · exact ⟨Nat.le_of_ble_eq_true rfl, Nat.le_of_ble_eq_true rfl⟩
    · split
      · exact ⟨Nat.le_of_ble_eq_true rfl, Nat.le_of_ble_eq_true rfl⟩
      · exact ⟨Nat.le_of_ble_eq_true rfl, Nat.le_of_ble_eq_true rfl⟩
section RDT
variable {p x : Int} {cv ch : Nat → Int → Int} {B : BT} {n : Int} {vs : List (Int × Int)} {ws : List Int}
theorem RD_term {k F c e o m : Int} (hp : 0 < p) (hx : 0 ≤ x) (ht : okT k F c e) (h : IT p x cv ch B n vs ws) (hn : n ≤ 30) (hw : ws.length ≤ 10) (h110 : ¬ ws.headD (-1) = 110) (hl : lvl (ws.headD (-1)) < 2) (ho : 0 ≤ o) :
    ∃ T, RD (tT k F c e) (mkP B 0 o m) T ∧ (pA T = 3 ∨ pA T = 4) ∧ pO T = o ∧ IT p x cv ch (pB T) (n + tN k) (tVs p x k c e :: (F % p, 0) :: vs) (42 :: ws) := by
  obtain ⟨hk, hF, hc, he⟩ := ht
  have a1 := st_num h hp (by omega) hF h110
  have a2 : IT p x cv ch (sSign (sAddNum B F) 42) (n + 1) ((F % p, 0) :: vs) (42 :: ws) := by
    unfold sSign
    rw [show lvl 42 = 2 by decide, jo_stop a1 hl]
    exact st_wait a1 (by omega)
  have b1 : tk (mkP B 0 o m) (48 + F) = (mkP (sAddNum B F) 3 o (bN B), 1) := tk_d hF
  have b2 : tk (mkP (sAddNum B F) 3 o (bN B)) 42 = (mkP (sSign (sAddNum B F) 42) 0 o (-1), 1) := tk_s (Or.inl rfl) (by omega)
  generalize sSign (sAddNum B F) 42 = B2 at *
  have h42 : ¬ (42 :: ws).headD (-1) = 110 := by show ¬ (42 : Int) = 110; decide
  have hk4 : k = 0 ∨ k = 1 ∨ k = 2 ∨ k = 3 := by omega
  rcases hk4 with rfl | rfl | rfl | rfl
  · rw [tT_0]
    have a3 := st_num a2 hp (by omega) hc h42
    refine ⟨_, ⟨_, b1, _, b2, _, tk_d hc, rfl⟩, Or.inl rfl, rfl, ?_⟩
    rw [tN_0, tVs_0, show n + 2 = n + 1 + 1 by omega]
    exact a3
  · rw [tT_1]
    have a3 := st_x a2 hx (by omega) h42
    have a4 := st_pow a3 hp (by omega) he
    refine ⟨_, ⟨_, b1, _, b2, _, tk_x, _, tk_w, _, tk_e he, rfl⟩, Or.inr rfl, rfl, ?_⟩
    rw [tN_1, tVs_1, show n + 3 = n + 1 + 1 + 1 by omega]
    exact a4
  · rw [tT_2]
    have a3 := st_wait (c := 110) a2 (by rw [List.length_cons]; omega)
    have a4 := st_negx a3 hp hx (by omega) h42
    have a5 := st_pow a4 hp (by omega) he
    refine ⟨_, ⟨_, b1, _, b2, _, tk_n, _, tk_x, _, tk_w, _, tk_e he, rfl⟩, Or.inr rfl, rfl, ?_⟩
    rw [tN_2, tVs_2, show n + 4 = n + 1 + 2 + 1 by omega]
    exact a5
  · rw [tT_3]
    have h40 : ¬ (40 :: 42 :: ws).headD (-1) = 110 := by show ¬ (40 : Int) = 110; decide
    have h43 : ¬ (43 :: 40 :: 42 :: ws).headD (-1) = 110 := by show ¬ (43 : Int) = 110; decide
    have a3 := st_wait (c := 40) a2 (by rw [List.length_cons]; omega)
    have a4 := st_x a3 hx (by omega) h40
    have a5 : IT p x cv ch (sSign (sAddX (sWait B2 40)) 43) (n + 1 + 1) ((x, 1) :: (F % p, 0) :: vs) (43 :: 40 :: 42 :: ws) := by
      unfold sSign
      rw [show lvl 43 = 1 by decide, jo_stop a4 (by show lvl 40 < 1; decide)]
      exact st_wait a4 (by rw [List.length_cons, List.length_cons]; omega)
    have a6 := st_num a5 hp (by omega) hc h43
    have a7 := jo_1 (t := 1) a6 hp (by omega) (Or.inl rfl) (by decide) (by show lvl 40 < 1; decide)
    rw [opv_43] at a7
    have a8 := st_close a7 h42
    have a9 := st_pow (v := (x + c % p) % p) (s := (1 + 0) % p) a8 hp (by omega) he
    refine ⟨_, ⟨_, b1, _, b2, _, tk_o, _, tk_x, _, tk_s (Or.inl rfl) (Or.inl rfl), _, tk_d hc, _, tk_c (Or.inl rfl) (by omega), _, tk_w, _, tk_e he, rfl⟩, Or.inr rfl, ?_, ?_⟩
    · show o + 1 - 1 = o
      omega
    · rw [tN_3, tVs_3, show n + 5 = n + 1 + 1 + 1 + 1 + 1 by omega]
      exact a9
theorem mkP_eta (T : PT) : T = mkP (pB T) (pA T) (pO T) (pM T) := rfl
/-- a sign, 43 or 45 -/
def sgn (less : Prop) [Decidable less] : Int := if less then 45 else 43
theorem sgn_r (less : Prop) [Decidable less] : (sgn less = 43 ∨ sgn less = 45) ∧ lvl (sgn less) = 1 := by
  unfold sgn
  split
  · exact ⟨Or.inr rfl, by decide⟩
  · exact ⟨Or.inl rfl, by decide⟩
/-- two terms and the sign between -/
def twT (k1 F1 c1 e1 sg k2 F2 c2 e2 : Int) : List Int := tT k1 F1 c1 e1 ++ (sg :: tT k2 F2 c2 e2)
theorem RD_two {k1 F1 c1 e1 sg k2 F2 c2 e2 o m : Int} (hp : 0 < p) (hx : 0 ≤ x) (ht1 : okT k1 F1 c1 e1) (ht2 : okT k2 F2 c2 e2) (hsg : sg = 43 ∨ sg = 45) (h : IT p x cv ch B n vs ws) (hn : n ≤ 20) (hw : ws.length ≤ 8) (h110 : ¬ ws.headD (-1) = 110) (hl : lvl (ws.headD (-1)) < 1) (ho : 0 ≤ o) :
    ∃ T, RD (twT k1 F1 c1 e1 sg k2 F2 c2 e2) (mkP B 0 o m) T ∧ (pA T = 3 ∨ pA T = 4) ∧ pO T = o ∧ IT p x cv ch (sJoinF 1 (pB T)) (n + tN k1 + tN k2 + 3) (opv sg p (tP p x k1 F1 c1 e1) (tP p x k2 F2 c2 e2) :: vs) ws := by
  have r1 := tN_r k1
  have r2 := tN_r k2
  obtain ⟨T1, d1, d2, d3, d4⟩ := RD_term (o := o) (m := m) hp hx ht1 h (by omega) (by omega) h110 (by omega) ho
  have a1 := jo_1 (t := 1) d4 hp (by omega) (Or.inr (Or.inr rfl)) (by decide) hl
  have hlv : lvl sg = 1 := by rcases hsg with rfl | rfl <;> decide
  have a2 : IT p x cv ch (sSign (pB T1) sg) (n + tN k1 + 1) (tP p x k1 F1 c1 e1 :: vs) (sg :: ws) := by
    unfold sSign
    rw [hlv]
    exact st_wait a1 (by omega)
  have b1 : tk T1 sg = (mkP (sSign (pB T1) sg) 0 o (-1), 1) := by
    rw [mkP_eta T1, d3]
    exact tk_s d2 (by omega)
  obtain ⟨T2, g1, g2, g3, g4⟩ := RD_term (o := o) (m := -1) hp hx ht2 a2 (by omega) (by rw [List.length_cons]; omega) (by show ¬ sg = 110; omega) (by show lvl sg < 2; omega) ho
  have a3 := jo_2 (t := 1) g4 hp (by omega) (Or.inr (Or.inr rfl)) (by omega) (by decide) (by omega) hl
  refine ⟨T2, RD_app d1 ⟨_, b1, g1⟩, g2, g3, ?_⟩
  rw [show n + tN k1 + tN k2 + 3 = n + tN k1 + 1 + tN k2 + 2 by omega]
  exact a3
theorem IT_0 : IT p x cv ch (sClear B) 0 [] [] := by
  refine ⟨⟨⟨?_, ?_, ?_, ?_⟩, fun k hk => ?_, fun i hi => ?_, fun i j hij hj => ?_, fun h0 => ?_, fun j hj => ?_⟩, ⟨rfl, rfl, ?_⟩, rfl, rfl, rfl, rfl⟩
  · show (0 : Int) ≤ 0; decide
  · show (0 : Int) ≤ 40; decide
  · show (0 : Int) ≤ 0; decide
  · show (0 : Int) ≤ 0; decide
  · have h : (k : Int) < 0 := hk
    omega
  · have h : (i : Int) < 0 := hi
    omega
  · have h : (j : Int) < 0 := hj
    omega
  · have h : (0 : Int) < 0 := h0
    omega
  · have h : (j : Int) < 0 := hj
    omega
  · show (0 : Int) ≤ 0; decide
/-- what a whole text gives: n nodes, of value v and slope s -/
def GD (p x : Int) (cv ch : Nat → Int → Int) (B : BT) (n : Int) (a : Int × Int) : Prop := TRE B ∧ bZ B = 0 ∧ bN B = n ∧ lP B = 1 ∧ vof p (EB B) cv x = a.1 ∧ hof p (EB B) cv ch x 1 = a.2
theorem GD_of {a : Int × Int} (h : IT p x cv ch B n [a] ws) : GD p x cv ch B n a := by
  obtain ⟨ht, ⟨hz, hbn, hw⟩, hc, hl, hvs, hok⟩ := h
  have t1 := ht.1
  have hl1 : lP B = 1 := hl
  have t5 := (ht.2.2.2.2.1 (by omega)).2
  rw [hl1, show ((1 : Int) - 1).toNat = 0 by decide] at t5
  obtain ⟨v, s⟩ := a
  obtain ⟨c1, c2, -⟩ := lvk_cons (k := 0) hvs
  rw [t5, hbn, show (n - 1).toNat = n.toNat - 1 by omega] at c1 c2
  have he : evs p (EB B) cv x n.toNat = evs p (XE (bK B) (bU B) (bL B) (bV B)) cv x n.toNat := evs_cgE (E := EB B) (E' := XE (bK B) (bU B) (bL B) (bV B)) n.toNat (fun j _ => ⟨rfl, rfl, rfl, rfl⟩)
  have hh9 : hns p (EB B) cv ch x 1 n.toNat = hns p (XE (bK B) (bU B) (bL B) (bV B)) cv ch x 1 n.toNat := hns_cgE (E := EB B) (E' := XE (bK B) (bU B) (bL B) (bV B)) n.toNat (fun j _ => ⟨rfl, rfl, rfl, rfl⟩)
  have en : eN (EB B) = n.toNat := by
    show (bN B).toNat = n.toNat
    rw [hbn]
  refine ⟨ht, hz, hbn, hl1, ?_, ?_⟩
  · unfold vof
    rw [en, he, if_pos hok]
    exact c1
  · unfold hof
    rw [en, he, hh9, if_pos hok]
    exact c2
/-- a quotient: banned, or not -/
def dvp (p : Int) (a b : Int × Int) : Int × Int := if b.1 = 0 then (-1, -1) else (a.1 * inv' p b.1 % p, ((a.2 * b.1 - a.1 * b.2) % p) * inv' p (b.1 * b.1 % p) % p)
theorem GD_div {a b : Int × Int} (h : IT p x cv ch B n [b, a] [47]) (hp : 0 < p) (hn : n < 40) : GD p x cv ch (sJoinF 1 B) (n + 1) (dvp p a b) := by
  have r := IT_r h
  have e1 : sJoinF 1 B = sOp B := by
    show sJoin 1 (wP B).toNat B = _
    rw [show (wP B).toNat = 0 + 1 by have q := r.2.2.2; rw [List.length_cons, List.length_nil] at q; omega, sJoin_step (by rw [IT_top h]; decide)]
    rfl
  rw [e1]
  by_cases z : b.1 = 0
  · -- the division is banned
    obtain ⟨v1, s1⟩ := a
    obtain ⟨v2, s2⟩ := b
    obtain ⟨ht, ⟨hz, hbn, hw⟩, hc, hl, hvs, hok⟩ := h
    subst hbn
    have t1 := ht.1
    have hl2 : lP B = 2 := hl
    have t3 := ht.2.2.1 0 (by omega)
    have t3' := ht.2.2.1 1 (by omega)
    have t4 := ht.2.2.2.1 0 1 (by omega) (by omega)
    have e : ary 47 = 2 := by decide
    have ev := lTop_v (B := B) (by omega)
    have el : (lP B - 1).toNat = 1 := by omega
    have el2 : (lP B - 2).toNat = 0 := by omega
    have eo1 : oN (lP B) = 1 := by unfold oN; rw [if_pos (by omega)]; omega
    have eo : oN (oN (lP B)) = 0 := by rw [eo1]; decide
    have ev2 : lTop (sLPop B) = lQ B (lP B - 2).toNat := by
      show tp (oN (lP B)) (lQ B) = _
      rw [eo1, el2]
      rfl
    have ea : ary 47 = 2 → lTop B = lQ B (lP B - 1).toNat ∧ lTop (sLPop B) = lQ B (lP B - 2).toNat := fun _ => ⟨ev, ev2⟩
    have t := TR_add (k := 47) (u := 0) (a := lTop (sLPop B)) (b := lTop B) ht hn (by omega) (WFK_mk (by rw [ev, ev2, el, el2]; omega)) (fun q => by omega) (fun q => by omega) ea
    obtain ⟨t0, q2, q3⟩ := cs_cons hc
    have es : sOp B = sAdd (mkB (bK B) (bU B) (bL B) (bV B) (bD B) (bE B) (bN B) (bZ B) (oN (oN (lP B))) (lQ B) (oN (wP B)) (wQ B)) 47 0 (lTop (sLPop B)) (lTop B) := by
      show sAdd (sLPop (sWPop (sLPop B))) (wTop B) 0 (lTop (sLPop B)) (lTop B) = _
      rw [q2]
      rfl
    rw [es, sAdd_eq ⟨t1.1, hn⟩ (by rw [eo]; omega), eo]
    rw [e, hl2, show (2 : Int) - 2 = 0 by decide] at t
    rw [ev, ev2, el, el2] at t ⊢
    obtain ⟨c1, c2, c3⟩ := lvk_cons (k := 1) hvs
    have hag : ∀ j, j < (bN B).toNat → eK (XE (up (bK B) (bN B).toNat 47) (up (bU B) (bN B).toNat 0) (up (bL B) (bN B).toNat (lQ B 0)) (up (bV B) (bN B).toNat (lQ B 1))) j = eK (XE (bK B) (bU B) (bL B) (bV B)) j ∧ eU (XE (up (bK B) (bN B).toNat 47) (up (bU B) (bN B).toNat 0) (up (bL B) (bN B).toNat (lQ B 0)) (up (bV B) (bN B).toNat (lQ B 1))) j = eU (XE (bK B) (bU B) (bL B) (bV B)) j ∧ eL (XE (up (bK B) (bN B).toNat 47) (up (bU B) (bN B).toNat 0) (up (bL B) (bN B).toNat (lQ B 0)) (up (bV B) (bN B).toNat (lQ B 1))) j = eL (XE (bK B) (bU B) (bL B) (bV B)) j ∧ eV (XE (up (bK B) (bN B).toNat 47) (up (bU B) (bN B).toNat 0) (up (bL B) (bN B).toNat (lQ B 0)) (up (bV B) (bN B).toNat (lQ B 1))) j = eV (XE (bK B) (bU B) (bL B) (bV B)) j := fun j hj => ⟨(up_n (by omega) : up (bK B) (bN B).toNat 47 j = bK B j), (up_n (by omega) : up (bU B) (bN B).toNat 0 j = bU B j), (up_n (by omega) : up (bL B) (bN B).toNat (lQ B 0) j = bL B j), (up_n (by omega) : up (bV B) (bN B).toNat (lQ B 1) j = bV B j)⟩
    have he := evs_cgE (p := p) (cv := cv) (x := x) (bN B).toNat hag
    have hbad : ¬ (evs p (mkE (bN B + 1).toNat (up (bK B) (bN B).toNat 47) (up (bU B) (bN B).toNat 0) (up (bL B) (bN B).toNat (lQ B 0)) (up (bV B) (bN B).toNat (lQ B 1))) cv x (bN B + 1).toNat).2 = true := by
      rw [evs_cgE (E := mkE (bN B + 1).toNat (up (bK B) (bN B).toNat 47) (up (bU B) (bN B).toNat 0) (up (bL B) (bN B).toNat (lQ B 0)) (up (bV B) (bN B).toNat (lQ B 1))) (E' := XE (up (bK B) (bN B).toNat 47) (up (bU B) (bN B).toNat 0) (up (bL B) (bN B).toNat (lQ B 0)) (up (bV B) (bN B).toNat (lQ B 1))) (bN B + 1).toNat (fun j _ => ⟨rfl, rfl, rfl, rfl⟩), show (bN B + 1).toNat = (bN B).toNat + 1 by omega]
      intro hq
      refine evs_nb hq ?_
      have hk47 : eK (XE (up (bK B) (bN B).toNat 47) (up (bU B) (bN B).toNat 0) (up (bL B) (bN B).toNat (lQ B 0)) (up (bV B) (bN B).toNat (lQ B 1))) (bN B).toNat = 47 := up_s
      rw [he, nv_47 hk47]
      rw [show eV (XE (up (bK B) (bN B).toNat 47) (up (bU B) (bN B).toNat 0) (up (bL B) (bN B).toNat (lQ B 0)) (up (bV B) (bN B).toNat (lQ B 1))) (bN B).toNat = lQ B 1 from up_s, gv_of (by omega), c1]
      exact if_pos z
    have ed : dvp p (v1, s1) (v2, s2) = (-1, -1) := if_pos z
    refine ⟨by exact t, hz, rfl, by show (0 : Int) + 1 = 1; decide, ?_, ?_⟩
    · rw [ed]
      unfold vof
      exact if_neg hbad
    · rw [ed]
      unfold hof
      exact if_neg hbad
  · obtain ⟨v1, s1⟩ := a
    obtain ⟨v2, s2⟩ := b
    obtain ⟨t1, t2, t3⟩ := cs_cons h.2.2.1
    have hwp : 0 ≤ oN (wP B) := by unfold oN; split <;> omega
    have ed : dvp p (v1, s1) (v2, s2) = (v1 * inv' p v2 % p, ((s1 * v2 - v1 * s2) % p) * inv' p (v2 * v2 % p) % p) := if_neg z
    rw [ed]
    have q := IT_bin (k := 47) (wp := oN (wP B)) (wq := wQ B) h hn (Or.inr (Or.inr (Or.inr rfl))) hwp (v' := v1 * inv' p v2 % p) (s' := ((s1 * v2 - v1 * s2) % p) * inv' p (v2 * v2 % p) % p) (fun E m w z9 h1 h3 h4 h5 h6 => ⟨by rw [nv_47 h1, h3, h5, if_neg z], by rw [ns_47 h1, h3, h4, h5, h6]⟩) (by have := emod_rng (v1 * inv' p v2) hp; omega)
    have q2 := GD_of q
    show GD p x cv ch (sAdd (sLPop (sWPop (sLPop B))) (wTop B) 0 (lTop (sLPop B)) (lTop B)) _ _
    rw [t2]
    exact q2
theorem fe_ok {l : List Int} {tf : Nat → Int} {N : Int} {T : PT} (hN : N = (l.length : Nat)) (hr : RD l (fe0 B) T) (hm : MT tf 0 l) (ho : pO T = 0) (ha : pA T = 3 ∨ pA T = 4) : fe B tf N = (mkP (sJoinF 1 (pB T)) (pA T) (pO T) (pM T), -1) := by
  have e := RD_feL l 0 (fe0 B) T hr hm
  unfold fe
  rw [show N.toNat = l.length by omega, e]
  show (if (-2 : Int) = -2 then (if 0 < pO T ∨ (¬ pA T = 3 ∧ ¬ pA T = 4) then (T, N) else (mkP (sJoinF 1 (pB T)) (pA T) (pO T) (pM T), (-1 : Int))) else (T, (-2 : Int))) = _
  rw [if_pos rfl, if_neg (by omega)]
theorem READ1 {k1 F1 c1 e1 sg k2 F2 c2 e2 N : Int} {tf : Nat → Int} (hp : 0 < p) (hx : 0 ≤ x) (ht1 : okT k1 F1 c1 e1) (ht2 : okT k2 F2 c2 e2) (hsg : sg = 43 ∨ sg = 45) (hN : N = ((twT k1 F1 c1 e1 sg k2 F2 c2 e2).length : Nat)) (hm : MT tf 0 (twT k1 F1 c1 e1 sg k2 F2 c2 e2)) :
    (fe B tf N).2 = -1 ∧ GD p x cv ch (pB (fe B tf N).1) (tN k1 + tN k2 + 3) (opv sg p (tP p x k1 F1 c1 e1) (tP p x k2 F2 c2 e2)) := by
  have h0 : IT p x cv ch (sClear B) 0 [] [] := IT_0
  obtain ⟨T, d1, d2, d3, d4⟩ := RD_two (o := 0) (m := -1) hp hx ht1 ht2 hsg h0 (by omega) (by show 0 ≤ 8; omega) (by show ¬ (-1 : Int) = 110; decide) (by show lvl (-1) < 1; decide) (by omega)
  have e := fe_ok hN d1 hm d3 d2
  rw [e]
  refine ⟨rfl, ?_⟩
  rw [show tN k1 + tN k2 + 3 = 0 + tN k1 + tN k2 + 3 by omega]
  exact GD_of d4
/-- a quotient's text -/
def ovT (k1 F1 c1 e1 sg k2 F2 c2 e2 k3 F3 c3 e3 : Int) : List Int := 40 :: (twT k1 F1 c1 e1 sg k2 F2 c2 e2 ++ (41 :: 47 :: 40 :: (tT k3 F3 c3 e3 ++ [41])))
theorem READ2 {k1 F1 c1 e1 sg k2 F2 c2 e2 k3 F3 c3 e3 N : Int} {tf : Nat → Int} (hp : 0 < p) (hx : 0 ≤ x) (ht1 : okT k1 F1 c1 e1) (ht2 : okT k2 F2 c2 e2) (ht3 : okT k3 F3 c3 e3) (hsg : sg = 43 ∨ sg = 45) (hN : N = ((ovT k1 F1 c1 e1 sg k2 F2 c2 e2 k3 F3 c3 e3).length : Nat)) (hm : MT tf 0 (ovT k1 F1 c1 e1 sg k2 F2 c2 e2 k3 F3 c3 e3)) :
    (fe B tf N).2 = -1 ∧ GD p x cv ch (pB (fe B tf N).1) (tN k1 + tN k2 + tN k3 + 5) (dvp p (opv sg p (tP p x k1 F1 c1 e1) (tP p x k2 F2 c2 e2)) (tP p x k3 F3 c3 e3)) := by
  have r1 := tN_r k1
  have r2 := tN_r k2
  have r3 := tN_r k3
  have h0 : IT p x cv ch (sClear B) 0 [] [] := IT_0
  have h1 := st_wait (c := 40) h0 (by show 0 < 40; omega)
  obtain ⟨T, d1, d2, d3, d4⟩ := RD_two (o := 0 + 1) (m := -1) hp hx ht1 ht2 hsg h1 (by omega) (by show 1 ≤ 8; omega) (by show ¬ (40 : Int) = 110; decide) (by show lvl 40 < 1; decide) (by omega)
  have h2 := st_close d4 (by show ¬ (-1 : Int) = 110; decide)
  have b1 : tk T 41 = (mkP (sClose (pB T)) 3 (0 + 1 - 1) (-1), 1) := by
    rw [mkP_eta T, d3]
    exact tk_c d2 (by omega)
  have h3 : IT p x cv ch (sSign (sClose (pB T)) 47) (0 + tN k1 + tN k2 + 3) [opv sg p (tP p x k1 F1 c1 e1) (tP p x k2 F2 c2 e2)] [47] := by
    unfold sSign
    rw [show lvl 47 = 2 by decide, jo_stop h2 (by show lvl (-1) < 2; decide)]
    exact st_wait h2 (by show 0 < 40; omega)
  have b2 : tk (mkP (sClose (pB T)) 3 (0 + 1 - 1) (-1)) 47 = (mkP (sSign (sClose (pB T)) 47) 0 (0 + 1 - 1) (-1), 1) := tk_s (Or.inl rfl) (by omega)
  have h4 := st_wait (c := 40) h3 (by show 1 < 40; omega)
  have b3 : tk (mkP (sSign (sClose (pB T)) 47) 0 (0 + 1 - 1) (-1)) 40 = (mkP (sWait (sSign (sClose (pB T)) 47) 40) 0 (0 + 1 - 1 + 1) (-1), 1) := tk_o
  obtain ⟨T3, g1, g2, g3, g4⟩ := RD_term (o := 0 + 1 - 1 + 1) (m := -1) hp hx ht3 h4 (by omega) (by show 2 ≤ 10; omega) (by show ¬ (40 : Int) = 110; decide) (by show lvl 40 < 2; decide) (by omega)
  have h5 := jo_1 (t := 1) g4 hp (by omega) (Or.inr (Or.inr rfl)) (by decide) (by show lvl 40 < 1; decide)
  have h6 := st_close h5 (by show ¬ (47 : Int) = 110; decide)
  have b4 : tk T3 41 = (mkP (sClose (pB T3)) 3 (0 + 1 - 1 + 1 - 1) (-1), 1) := by
    rw [mkP_eta T3, g3]
    exact tk_c g2 (by omega)
  have hD := GD_div h6 hp (by omega)
  have hR : RD (ovT k1 F1 c1 e1 sg k2 F2 c2 e2 k3 F3 c3 e3) (fe0 B) (mkP (sClose (pB T3)) 3 (0 + 1 - 1 + 1 - 1) (-1)) :=
    ⟨_, tk_o, RD_app d1 ⟨_, b1, _, b2, _, b3, RD_app g1 ⟨_, b4, rfl⟩⟩⟩
  have e := fe_ok hN hR hm (by show (0 : Int) + 1 - 1 + 1 - 1 = 0; decide) (Or.inl rfl)
  rw [e]
  refine ⟨rfl, ?_⟩
  rw [show tN k1 + tN k2 + tN k3 + 5 = 0 + tN k1 + tN k2 + 3 + tN k3 + 1 + 1 by omega]
  exact hD
end RDT
end
section
/-! the law's rows of coefficients -/
theorem cg_0 {p a b : Int} (h : cg p a b) (c : Int) : cg p (a * c) (b * c) := cg_mul h (cg_rfl p c)
theorem cg_l {p a b : Int} (c : Int) (h : cg p a b) : cg p (c * a) (c * b) := cg_mul (cg_rfl p c) h
theorem cg_pow {p a b : Int} (h : cg p a b) : ∀ k : Nat, cg p (a ^ k) (b ^ k)
  | 0 => by
    rw [Int.pow_zero, Int.pow_zero]
    exact cg_rfl p 1
  | k + 1 => by
    rw [Int.pow_succ, Int.pow_succ]
    exact cg_mul (cg_pow h k) h
/-- the first k coefficients at x -/
def pv (f : Nat → Int) (x : Int) : Nat → Int
  | 0 => 0
  | k + 1 => pv f x k + f k * x ^ k
def dv (f : Nat → Int) : Nat → Int := fun d => f (d + 1) * ((d : Int) + 1)
/-- from the highest one down, each time a remainder -/
def hor (f : Nat → Int) (x p : Int) : Nat → Int → Int
  | 0, v => v
  | k + 1, v => hor f x p k ((v * x + f k) % p)
theorem hor_cg (f : Nat → Int) (x p : Int) : ∀ (k : Nat) (v : Int), cg p (hor f x p k v) (v * x ^ k + pv f x k)
  | 0, v => by
    show cg p v (v * x ^ 0 + 0)
    rw [Int.pow_zero, Int.mul_one, Int.add_zero]
    exact cg_rfl p v
  | k + 1, v => by
    have ih := hor_cg f x p k ((v * x + f k) % p)
    show cg p (hor f x p k ((v * x + f k) % p)) (v * x ^ (k + 1) + (pv f x k + f k * x ^ k))
    refine cg_trans ih ?_
    have e : v * x ^ (k + 1) + (pv f x k + f k * x ^ k) = (v * x + f k) * x ^ k + pv f x k := by
      rw [Int.pow_succ, Int.add_mul, Int.mul_comm (x ^ k) x, Int.mul_assoc]
      omega
    rw [e]
    exact cg_add (cg_0 (cg_mod p _) _) (cg_rfl p _)
theorem hor_rng {f : Nat → Int} {x p : Int} (hp : 0 < p) : ∀ (k : Nat) (v : Int), 0 ≤ v ∧ v < p → 0 ≤ hor f x p k v ∧ hor f x p k v < p
  | 0, _, h => h
  | k + 1, v, _ => hor_rng hp k _ (emod_rng _ hp)
theorem pv_cg {f g : Nat → Int} {x p : Int} : ∀ k : Nat, (∀ d, d < k → cg p (f d) (g d)) → cg p (pv f x k) (pv g x k)
  | 0, _ => cg_rfl p 0
  | k + 1, h => cg_add (pv_cg k (fun d hd => h d (by omega))) (cg_0 (h k (by omega)) _)
theorem pv_0 {f : Nat → Int} {x : Int} : ∀ k : Nat, (∀ d, d < k → f d = 0) → pv f x k = 0
  | 0, _ => rfl
  | k + 1, h => by
    show pv f x k + f k * x ^ k = 0
    rw [pv_0 k (fun d hd => h d (by omega)), h k (by omega), Int.zero_mul]
    rfl
/-- a row times x + c -/
def mulx (c p : Int) (f : Nat → Int) : Nat → Int := fun d => if d < 40 then (f d * c + (if 0 < d then f (d - 1) else 0)) % p else f d
def tms (c p : Int) : Nat → (Nat → Int) → (Nat → Int)
  | 0, f => f
  | n + 1, f => tms c p n (mulx c p f)
theorem tms_s (c p : Int) : ∀ (n : Nat) (f : Nat → Int), tms c p (n + 1) f = mulx c p (tms c p n f)
  | 0, _ => rfl
  | n + 1, f => by
    show tms c p (n + 1) (mulx c p f) = _
    rw [tms_s c p n (mulx c p f)]
    rfl
theorem pv_mulx {c p x : Int} {f : Nat → Int} : ∀ k : Nat, k < 40 → cg p (pv (mulx c p f) x (k + 1)) (c * pv f x (k + 1) + x * pv f x k)
  | 0, _ => by
    show cg p (0 + mulx c p f 0 * x ^ 0) (c * (0 + f 0 * x ^ 0) + x * 0)
    have e : mulx c p f 0 = (f 0 * c + 0) % p := by
      unfold mulx
      rw [if_pos (by omega), if_neg (by omega)]
    rw [e, Int.pow_zero, Int.mul_one, Int.mul_one, Int.mul_zero, Int.add_zero, Int.zero_add, Int.zero_add, Int.add_zero, Int.mul_comm c]
    exact cg_mod p _
  | k + 1, h => by
    have ih := pv_mulx (c := c) (p := p) (x := x) (f := f) k (by omega)
    have e : mulx c p f (k + 1) = (f (k + 1) * c + f k) % p := by
      unfold mulx
      rw [if_pos h, if_pos (by omega), show k + 1 - 1 = k by omega]
    show cg p (pv (mulx c p f) x (k + 1) + mulx c p f (k + 1) * x ^ (k + 1)) (c * (pv f x (k + 1) + f (k + 1) * x ^ (k + 1)) + x * (pv f x k + f k * x ^ k))
    rw [e]
    have e2 : c * (pv f x (k + 1) + f (k + 1) * x ^ (k + 1)) + x * (pv f x k + f k * x ^ k) = (c * pv f x (k + 1) + x * pv f x k) + (f (k + 1) * c + f k) * x ^ (k + 1) := by
      rw [Int.mul_add, Int.mul_add, Int.add_mul, Int.pow_succ x k]
      have q1 : c * (f (k + 1) * (x ^ k * x)) = f (k + 1) * c * (x ^ k * x) := by rw [← Int.mul_assoc, Int.mul_comm c]
      have q2 : x * (f k * x ^ k) = f k * (x ^ k * x) := by rw [← Int.mul_assoc, Int.mul_comm x, Int.mul_assoc, Int.mul_comm x]
      rw [q1, q2]
      omega
    rw [e2]
    exact cg_add ih (cg_0 (cg_mod p _) _)
theorem dv_mulx {c p x : Int} {f : Nat → Int} : ∀ k : Nat, k < 39 → cg p (pv (dv (mulx c p f)) x (k + 1)) (c * pv (dv f) x (k + 1) + pv f x (k + 1) + x * pv (dv f) x k)
  | 0, _ => by
    show cg p (0 + (mulx c p f 1 * (((0 : Nat) : Int) + 1)) * x ^ 0) (c * (0 + (f 1 * (((0 : Nat) : Int) + 1)) * x ^ 0) + (0 + f 0 * x ^ 0) + x * 0)
    have e : mulx c p f 1 = (f 1 * c + f 0) % p := by
      unfold mulx
      rw [if_pos (by omega), if_pos (by omega)]
    rw [e, Int.pow_zero, Int.mul_one, Int.mul_one, Int.mul_one, Int.mul_zero, Int.add_zero, Int.zero_add, Int.zero_add, Int.zero_add, show (((0 : Nat) : Int) + 1) = 1 by decide, Int.mul_one, Int.mul_one, Int.mul_comm c]
    exact cg_mod p _
  | k + 1, h => by
    have ih := dv_mulx (c := c) (p := p) (x := x) (f := f) k (by omega)
    have e : mulx c p f (k + 1 + 1) = (f (k + 1 + 1) * c + f (k + 1)) % p := by
      unfold mulx
      rw [if_pos (by omega), if_pos (by omega), show k + 1 + 1 - 1 = k + 1 by omega]
    show cg p (pv (dv (mulx c p f)) x (k + 1) + (mulx c p f (k + 1 + 1) * (((k + 1 : Nat) : Int) + 1)) * x ^ (k + 1)) (c * (pv (dv f) x (k + 1) + (f (k + 1 + 1) * (((k + 1 : Nat) : Int) + 1)) * x ^ (k + 1)) + (pv f x (k + 1) + f (k + 1) * x ^ (k + 1)) + x * (pv (dv f) x k + (f (k + 1) * ((k : Int) + 1)) * x ^ k))
    rw [e]
    have e2 : c * (pv (dv f) x (k + 1) + (f (k + 1 + 1) * (((k + 1 : Nat) : Int) + 1)) * x ^ (k + 1)) + (pv f x (k + 1) + f (k + 1) * x ^ (k + 1)) + x * (pv (dv f) x k + (f (k + 1) * ((k : Int) + 1)) * x ^ k) = (c * pv (dv f) x (k + 1) + pv f x (k + 1) + x * pv (dv f) x k) + ((f (k + 1 + 1) * c + f (k + 1)) * (((k + 1 : Nat) : Int) + 1)) * x ^ (k + 1) := by
      have q1 : c * ((f (k + 1 + 1) * (((k + 1 : Nat) : Int) + 1)) * x ^ (k + 1)) = (f (k + 1 + 1) * c * (((k + 1 : Nat) : Int) + 1)) * x ^ (k + 1) := by
        rw [← Int.mul_assoc, ← Int.mul_assoc, Int.mul_comm c]
      have q2 : x * ((f (k + 1) * ((k : Int) + 1)) * x ^ k) = (f (k + 1) * ((k : Int) + 1)) * x ^ (k + 1) := by
        rw [Int.pow_succ, ← Int.mul_assoc, Int.mul_comm x, Int.mul_assoc, Int.mul_comm x]
      have q3 : ((f (k + 1 + 1) * c + f (k + 1)) * (((k + 1 : Nat) : Int) + 1)) * x ^ (k + 1) = (f (k + 1 + 1) * c * (((k + 1 : Nat) : Int) + 1)) * x ^ (k + 1) + ((f (k + 1) * ((k : Int) + 1)) * x ^ (k + 1) + f (k + 1) * x ^ (k + 1)) := by
        rw [Int.add_mul, Int.add_mul, ← Int.add_mul (f (k + 1) * ((k : Int) + 1)) (f (k + 1)), show (((k + 1 : Nat) : Int) + 1) = ((k : Int) + 1) + 1 by omega, Int.mul_add (f (k + 1)) ((k : Int) + 1) 1, Int.mul_one]
      rw [Int.mul_add c (pv (dv f) x (k + 1)), Int.mul_add x (pv (dv f) x k), q1, q2, q3]
      omega
    rw [e2]
    exact cg_add ih (cg_0 (cg_0 (cg_mod p _) _) _)
/-- value and slope of a row at x -/
def pe (f : Nat → Int) (x : Int) : Int := pv f x 40
def pd (f : Nat → Int) (x : Int) : Int := pv (dv f) x 39
theorem pe_mulx {c p x : Int} {f : Nat → Int} (h : f 39 = 0) : cg p (pe (mulx c p f) x) ((x + c) * pe f x) := by
  have q := pv_mulx (c := c) (p := p) (x := x) (f := f) 39 (by omega)
  have e : pv f x 40 = pv f x 39 := by
    show pv f x 39 + f 39 * x ^ 39 = pv f x 39
    rw [h, Int.zero_mul, Int.add_zero]
  have e2 : (x + c) * pe f x = c * pv f x (39 + 1) + x * pv f x 39 := by
    show (x + c) * pv f x 40 = c * pv f x 40 + x * pv f x 39
    rw [e, Int.add_mul]
    omega
  rw [e2]
  exact q
theorem pd_mulx {c p x : Int} {f : Nat → Int} (h : f 39 = 0) : cg p (pd (mulx c p f) x) (pe f x + (x + c) * pd f x) := by
  have q := dv_mulx (c := c) (p := p) (x := x) (f := f) 38 (by omega)
  have e : pe f x = pv f x 39 := by
    show pv f x 39 + f 39 * x ^ 39 = pv f x 39
    rw [h, Int.zero_mul, Int.add_zero]
  have e3 : pd f x = pv (dv f) x 38 := by
    show pv (dv f) x 38 + (f 39 * (((38 : Nat) : Int) + 1)) * x ^ 38 = pv (dv f) x 38
    rw [h, Int.zero_mul, Int.zero_mul, Int.add_zero]
  have e2 : pe f x + (x + c) * pd f x = c * pv (dv f) x (38 + 1) + pv f x (38 + 1) + x * pv (dv f) x 38 := by
    show pe f x + (x + c) * pd f x = c * pd f x + pv f x 39 + x * pv (dv f) x 38
    rw [← e, ← e3, Int.add_mul]
    omega
  rw [e2]
  exact q
/-- the row that begins with F -/
def r0 (F : Int) : Nat → Int := up (fun _ => 0) 0 F
theorem tms_deg {c p F : Int} : ∀ (n : Nat) (d : Nat), n < d → tms c p n (r0 F) d = 0
  | 0, d, h => by
    show up (fun _ => 0) 0 F d = 0
    rw [up_n (by omega)]
  | n + 1, d, h => by
    rw [tms_s]
    unfold mulx
    have h1 := tms_deg (c := c) (p := p) (F := F) n d (by omega)
    by_cases z : d < 40
    · rw [if_pos z, if_pos (by omega), h1, tms_deg (c := c) (p := p) (F := F) n (d - 1) (by omega), Int.zero_mul, Int.add_zero, Int.zero_emod]
    · rw [if_neg z]
      exact h1
theorem pe_r0 (F x : Int) : pe (r0 F) x = F := by
  have h : ∀ k : Nat, pv (r0 F) x (k + 1) = F := by
    intro k
    induction k with
    | zero =>
      show 0 + F * x ^ 0 = F
      rw [Int.pow_zero, Int.mul_one, Int.zero_add]
    | succ k ih =>
      show pv (r0 F) x (k + 1) + r0 F (k + 1) * x ^ (k + 1) = F
      have z : r0 F (k + 1) = 0 := up_n (by omega)
      rw [ih, z, Int.zero_mul, Int.add_zero]
  exact h 39
theorem pd_r0 (F x : Int) : pd (r0 F) x = 0 := pv_0 39 (fun d _ => by
  have z : r0 F (d + 1) = 0 := up_n (by omega)
  show r0 F (d + 1) * ((d : Int) + 1) = 0
  rw [z, Int.zero_mul])
theorem pe_tms {c p F x : Int} : ∀ n : Nat, n < 39 → cg p (pe (tms c p n (r0 F)) x) (F * (x + c) ^ n)
  | 0, _ => by
    show cg p (pe (r0 F) x) (F * (x + c) ^ 0)
    rw [pe_r0, Int.pow_zero, Int.mul_one]
    exact cg_rfl p F
  | n + 1, h => by
    have ih := pe_tms (c := c) (p := p) (F := F) (x := x) n (by omega)
    rw [tms_s]
    refine cg_trans (pe_mulx (tms_deg n 39 (by omega))) (cg_trans (cg_l (x + c) ih) (cg_of_eq ?_))
    rw [Int.pow_succ, ← Int.mul_assoc, Int.mul_comm (x + c) F, Int.mul_assoc, Int.mul_comm (x + c)]
theorem pd_tms {c p F x : Int} : ∀ n : Nat, n < 39 → cg p (pd (tms c p n (r0 F)) x) (F * ((n : Int) * (x + c) ^ (n - 1)))
  | 0, _ => by
    show cg p (pd (r0 F) x) (F * (((0 : Nat) : Int) * (x + c) ^ (0 - 1)))
    rw [pd_r0, show (((0 : Nat) : Int)) = 0 by rfl, Int.zero_mul, Int.mul_zero]
    exact cg_rfl p 0
  | n + 1, h => by
    have ih := pd_tms (c := c) (p := p) (F := F) (x := x) n (by omega)
    have ie := pe_tms (c := c) (p := p) (F := F) (x := x) n (by omega)
    rw [tms_s]
    refine cg_trans (pd_mulx (tms_deg n 39 (by omega))) (cg_trans (cg_add ie (cg_l (x + c) ih)) (cg_of_eq ?_))
    rw [show n + 1 - 1 = n by omega]
    cases n with
    | zero =>
      rw [Int.pow_zero, show (((0 : Nat) : Int)) = 0 by rfl, Int.zero_mul, Int.mul_zero, Int.mul_zero, Int.add_zero]
      rfl
    | succ m =>
      rw [show m + 1 - 1 = m by omega]
      have q : (x + c) * (F * (((m + 1 : Nat) : Int) * (x + c) ^ m)) = F * (((m + 1 : Nat) : Int) * (x + c) ^ (m + 1)) := by
        rw [Int.pow_succ, ← Int.mul_assoc, Int.mul_comm (x + c) F, Int.mul_assoc, ← Int.mul_assoc (x + c), Int.mul_comm (x + c), Int.mul_assoc, Int.mul_comm (x + c)]
      rw [q, ← Int.mul_add, show (((m + 1 + 1 : Nat) : Int)) = 1 + ((m + 1 : Nat) : Int) by omega, Int.add_mul, Int.one_mul]
/-- a term's row: kind k, factor F, number c, exponent e -/
def tB (p k F c e : Int) : Nat → Int := if k = 0 then up (up (fun _ => 0) 0 (F % p)) 0 (F * c % p) else tms (if k = 3 then c % p else 0) p e.toNat (r0 (F % p))
/-- the sign that the row gets -/
def neg9 (k e less : Int) : Int := if less = (if k = 2 ∧ e % 2 = 1 then 1 else 0) then 0 else 1
/-- two rows added -/
def addr (p s : Int) (f g : Nat → Int) : Nat → Int := fun d => if d < 40 then (f d + (if s = 0 then g d else -g d)) % p else f d
def sg9 (s : Int) : Int := if s = 0 then 1 else -1
theorem sg9_0 : sg9 0 = 1 := if_pos rfl
theorem sg9_1 : sg9 1 = -1 := if_neg (by decide)
theorem pe_addr {p s x : Int} {f g : Nat → Int} : cg p (pe (addr p s f g) x) (pe f x + sg9 s * pe g x) := by
  have h : ∀ k : Nat, k ≤ 40 → cg p (pv (addr p s f g) x k) (pv f x k + sg9 s * pv g x k) := by
    intro k
    induction k with
    | zero =>
      intro _
      show cg p 0 (0 + sg9 s * 0)
      rw [Int.mul_zero]
      exact cg_rfl p 0
    | succ k ih =>
      intro hk
      have e : addr p s f g k = (f k + sg9 s * g k) % p := by
        unfold addr sg9
        rw [if_pos (by omega)]
        split
        · rw [Int.one_mul]
        · rw [Int.neg_mul, Int.one_mul]
      show cg p (pv (addr p s f g) x k + addr p s f g k * x ^ k) (pv f x k + f k * x ^ k + sg9 s * (pv g x k + g k * x ^ k))
      rw [e]
      refine cg_trans (cg_add (ih (by omega)) (cg_0 (cg_mod p _) _)) (cg_of_eq ?_)
      rw [Int.add_mul, Int.mul_add, Int.mul_assoc]
      omega
  exact h 40 (Nat.le_refl _)
theorem pd_addr {p s x : Int} {f g : Nat → Int} : cg p (pd (addr p s f g) x) (pd f x + sg9 s * pd g x) := by
  have h : ∀ k : Nat, k ≤ 39 → cg p (pv (dv (addr p s f g)) x k) (pv (dv f) x k + sg9 s * pv (dv g) x k) := by
    intro k
    induction k with
    | zero =>
      intro _
      show cg p 0 (0 + sg9 s * 0)
      rw [Int.mul_zero]
      exact cg_rfl p 0
    | succ k ih =>
      intro hk
      have e : addr p s f g (k + 1) = (f (k + 1) + sg9 s * g (k + 1)) % p := by
        unfold addr sg9
        rw [if_pos (by omega)]
        split
        · rw [Int.one_mul]
        · rw [Int.neg_mul, Int.one_mul]
      show cg p (pv (dv (addr p s f g)) x k + (addr p s f g (k + 1) * ((k : Int) + 1)) * x ^ k) (pv (dv f) x k + (f (k + 1) * ((k : Int) + 1)) * x ^ k + sg9 s * (pv (dv g) x k + (g (k + 1) * ((k : Int) + 1)) * x ^ k))
      rw [e]
      refine cg_trans (cg_add (ih (by omega)) (cg_0 (cg_0 (cg_mod p _) _) _)) (cg_of_eq ?_)
      rw [Int.add_mul, Int.add_mul, Int.mul_add (sg9 s) (pv (dv g) x k), Int.mul_assoc (sg9 s) (g (k + 1)), Int.mul_assoc (sg9 s)]
      omega
  exact h 39 (Nat.le_refl _)
theorem neg_pow (x : Int) : ∀ n : Nat, (-x) ^ n = (if (n : Int) % 2 = 1 then -1 else 1) * x ^ n
  | 0 => by
    rw [Int.pow_zero, Int.pow_zero, if_neg (by omega)]
    rfl
  | n + 1 => by
    rw [Int.pow_succ, Int.pow_succ, neg_pow x n]
    by_cases z : (n : Int) % 2 = 1
    · rw [if_pos z, if_neg (by omega), Int.neg_mul, Int.one_mul, Int.one_mul, Int.neg_mul_neg]
    · rw [if_neg z, if_pos (by omega), Int.one_mul, Int.neg_mul, Int.one_mul, Int.mul_neg]
/-- a term's value and slope -/
def vT (x k F c e : Int) : Int := if k = 0 then F * c else if k = 1 then F * x ^ e.toNat else if k = 2 then F * (-x) ^ e.toNat else F * (x + c) ^ e.toNat
def sT (x k F c e : Int) : Int := if k = 0 then 0 else if k = 1 then F * (e * x ^ (e - 1).toNat) else if k = 2 then F * (e * (-x) ^ (e - 1).toNat * (-1)) else F * (e * (x + c) ^ (e - 1).toNat)
theorem vT_0 {x F c e : Int} : vT x 0 F c e = F * c ∧ sT x 0 F c e = 0 := by
  unfold vT sT
  rw [if_pos rfl, if_pos rfl]
  exact ⟨rfl, rfl⟩
theorem vT_1 {x F c e : Int} : vT x 1 F c e = F * x ^ e.toNat ∧ sT x 1 F c e = F * (e * x ^ (e - 1).toNat) := by
  unfold vT sT
  rw [if_neg (by decide), if_pos rfl, if_neg (by decide), if_pos rfl]
  exact ⟨rfl, rfl⟩
theorem vT_2 {x F c e : Int} : vT x 2 F c e = F * (-x) ^ e.toNat ∧ sT x 2 F c e = F * (e * (-x) ^ (e - 1).toNat * (-1)) := by
  unfold vT sT
  rw [if_neg (by decide), if_neg (by decide), if_pos rfl, if_neg (by decide), if_neg (by decide), if_pos rfl]
  exact ⟨rfl, rfl⟩
theorem vT_3 {x F c e : Int} : vT x 3 F c e = F * (x + c) ^ e.toNat ∧ sT x 3 F c e = F * (e * (x + c) ^ (e - 1).toNat) := by
  unfold vT sT
  rw [if_neg (by decide), if_neg (by decide), if_neg (by decide), if_neg (by decide), if_neg (by decide), if_neg (by decide)]
  exact ⟨rfl, rfl⟩
/-- what the class's term gives is it, but for multiples of p -/
theorem tP_cg {p x k F c e : Int} (ht : okT k F c e) : cg p (tP p x k F c e).1 (vT x k F c e) ∧ cg p (tP p x k F c e).2 (sT x k F c e) := by
  obtain ⟨hk, hF, hc, he⟩ := ht
  have cF := cg_mod p F
  unfold tP
  rw [opv_42]
  have hk4 : k = 0 ∨ k = 1 ∨ k = 2 ∨ k = 3 := by omega
  rcases hk4 with rfl | rfl | rfl | rfl
  · rw [tVs_0, vT_0.1, vT_0.2]
    refine ⟨cg_mod2 (cg_mul cF (cg_mod p c)), ?_⟩
    show cg p ((0 * (c % p) + F % p * 0) % p) 0
    rw [Int.zero_mul, Int.mul_zero]
    exact cg_mod2 (cg_rfl p 0)
  · rw [tVs_1, vT_1.1, vT_1.2]
    refine ⟨cg_mod2 (cg_mul cF (cg_mod p _)), ?_⟩
    show cg p ((0 * (x ^ e.toNat % p) + F % p * ((e * (x ^ (e - 1).toNat % p) % p) * 1 % p)) % p) _
    rw [Int.zero_mul, Int.zero_add, Int.mul_one]
    exact cg_mod2 (cg_mul cF (cg_mod2 (cg_mod2 (cg_l e (cg_mod p _)))))
  · rw [tVs_2, vT_2.1, vT_2.2]
    have cx : cg p ((0 - x) % p) (-x) := cg_mod2 (cg_of_eq (by omega))
    have c1 : cg p ((0 - 1) % p) (-1) := cg_mod2 (cg_of_eq (by omega))
    refine ⟨cg_mod2 (cg_mul cF (cg_mod2 (cg_pow cx _))), ?_⟩
    show cg p ((0 * (((0 - x) % p) ^ e.toNat % p) + F % p * ((e * (((0 - x) % p) ^ (e - 1).toNat % p) % p) * ((0 - 1) % p) % p)) % p) _
    rw [Int.zero_mul, Int.zero_add]
    exact cg_mod2 (cg_mul cF (cg_mod2 (cg_mul (cg_mod2 (cg_l e (cg_mod2 (cg_pow cx _)))) c1)))
  · rw [tVs_3, vT_3.1, vT_3.2]
    have cx : cg p ((x + c % p) % p) (x + c) := cg_mod2 (cg_add (cg_rfl p x) (cg_mod p c))
    have c1 : cg p ((1 + 0) % p) 1 := cg_mod2 (cg_of_eq (by omega))
    refine ⟨cg_mod2 (cg_mul cF (cg_mod2 (cg_pow cx _))), ?_⟩
    show cg p ((0 * (((x + c % p) % p) ^ e.toNat % p) + F % p * ((e * (((x + c % p) % p) ^ (e - 1).toNat % p) % p) * ((1 + 0) % p) % p)) % p) _
    rw [Int.zero_mul, Int.zero_add]
    have q := cg_mul cF (cg_mod2 (cg_mul (cg_mod2 (cg_l e (cg_mod2 (cg_pow cx (e - 1).toNat)))) c1))
    rw [Int.mul_one] at q
    exact cg_mod2 q
/-- and so is the law's row, with its sign -/
theorem tB_cg {p x k F c e less : Int} (ht : okT k F c e) (hl : less = 0 ∨ less = 1) :
    cg p (sg9 (neg9 k e less) * pe (tB p k F c e) x) (sg9 less * vT x k F c e) ∧ cg p (sg9 (neg9 k e less) * pd (tB p k F c e) x) (sg9 less * sT x k F c e) := by
  obtain ⟨hk, hF, hc, he⟩ := ht
  have cF := cg_mod p F
  have e1 : ((e.toNat : Nat) : Int) = e := by omega
  have e2 : e.toNat - 1 = (e - 1).toNat := by omega
  have hk4 : k = 0 ∨ k = 1 ∨ k = 2 ∨ k = 3 := by omega
  have hn : ¬ k = 2 → neg9 k e less = less := by
    intro q
    unfold neg9
    rw [if_neg (show ¬ (k = 2 ∧ e % 2 = 1) from fun w => q w.1)]
    split <;> omega
  have gen : ∀ a : Int, cg p (pe (tms a p e.toNat (r0 (F % p))) x) (F * (x + a) ^ e.toNat) ∧ cg p (pd (tms a p e.toNat (r0 (F % p))) x) (F * (e * (x + a) ^ (e - 1).toNat)) := by
    intro a
    have q1 := pe_tms (c := a) (p := p) (F := F % p) (x := x) e.toNat (by omega)
    have q2 := pd_tms (c := a) (p := p) (F := F % p) (x := x) e.toNat (by omega)
    rw [e1, e2] at q2
    exact ⟨cg_trans q1 (cg_0 cF _), cg_trans q2 (cg_0 cF _)⟩
  rcases hk4 with rfl | rfl | rfl | rfl
  · rw [hn (by decide), vT_0.1, vT_0.2]
    have et : tB p 0 F c e = r0 (F * c % p) := by
      unfold tB
      rw [if_pos rfl]
      funext j
      show up (up (fun _ => 0) 0 (F % p)) 0 (F * c % p) j = up (fun _ => 0) 0 (F * c % p) j
      by_cases z : j = 0
      · rw [z, up_s, up_s]
      · rw [up_n z, up_n z, up_n z]
    rw [et, pe_r0, pd_r0]
    exact ⟨cg_l _ (cg_mod p _), cg_l _ (cg_rfl p 0)⟩
  · rw [hn (by decide), vT_1.1, vT_1.2]
    have et : tB p 1 F c e = tms 0 p e.toNat (r0 (F % p)) := by
      unfold tB
      rw [if_neg (by decide), if_neg (by decide)]
    rw [et]
    have q := gen 0
    rw [Int.add_zero] at q
    exact ⟨cg_l _ q.1, cg_l _ q.2⟩
  · rw [vT_2.1, vT_2.2]
    have et : tB p 2 F c e = tms 0 p e.toNat (r0 (F % p)) := by
      unfold tB
      rw [if_neg (by decide), if_neg (by decide)]
    rw [et]
    have q := gen 0
    rw [Int.add_zero] at q
    have es : ∀ a : Int, sg9 (neg9 2 e less) * a = sg9 less * ((if e % 2 = 1 then -1 else 1) * a) := by
      intro a
      rcases hl with rfl | rfl <;> by_cases z : e % 2 = 1
      · have e9 : neg9 2 e 0 = 1 := by
          unfold neg9
          rw [if_pos (show (2 : Int) = 2 ∧ e % 2 = 1 from ⟨rfl, z⟩), if_neg (by decide)]
        rw [e9, if_pos z, sg9_0, sg9_1]
        omega
      · have e9 : neg9 2 e 0 = 0 := by
          unfold neg9
          rw [if_neg (show ¬ ((2 : Int) = 2 ∧ e % 2 = 1) from fun w => z w.2), if_pos rfl]
        rw [e9, if_neg z, sg9_0]
        omega
      · have e9 : neg9 2 e 1 = 0 := by
          unfold neg9
          rw [if_pos (show (2 : Int) = 2 ∧ e % 2 = 1 from ⟨rfl, z⟩), if_pos rfl]
        rw [e9, if_pos z, sg9_0, sg9_1]
        omega
      · have e9 : neg9 2 e 1 = 1 := by
          unfold neg9
          rw [if_neg (show ¬ ((2 : Int) = 2 ∧ e % 2 = 1) from fun w => z w.2), if_neg (by decide)]
        rw [e9, if_neg z, sg9_1]
        omega
    rw [es, es]
    have n1 := neg_pow x e.toNat
    have n2 := neg_pow x (e - 1).toNat
    rw [e1] at n1
    refine ⟨cg_l _ (cg_trans (cg_l _ q.1) (cg_of_eq ?_)), cg_l _ (cg_trans (cg_l _ q.2) (cg_of_eq ?_))⟩
    · rw [n1, ← Int.mul_assoc, Int.mul_comm _ F, Int.mul_assoc]
    · by_cases z0 : e = 0
      · rw [z0]
        simp
      · rw [n2, show ((((e - 1).toNat : Nat) : Int)) = e - 1 by omega]
        by_cases z : e % 2 = 1
        · rw [if_pos z, if_neg (by omega)]
          generalize x ^ (e - 1).toNat = y
          grind
        · rw [if_neg z, if_pos (by omega)]
          generalize x ^ (e - 1).toNat = y
          grind
  · rw [hn (by decide), vT_3.1, vT_3.2]
    have et : tB p 3 F c e = tms (c % p) p e.toNat (r0 (F % p)) := by
      unfold tB
      rw [if_neg (by decide), if_pos rfl]
    rw [et]
    have q := gen (c % p)
    have cx : cg p (x + c % p) (x + c) := cg_add (cg_rfl p x) (cg_mod p c)
    exact ⟨cg_l _ (cg_trans q.1 (cg_l F (cg_pow cx _))), cg_l _ (cg_trans q.2 (cg_l F (cg_l e (cg_pow cx _))))⟩
end
section
/-! the law's numbers and the class's agree -/
def dh (f : Nat → Int) (p : Int) : Nat → Int := fun d => f (d + 1) * (((d : Int) + 1) % p)
/-- the law's value and slope at x -/
def lvV (p : Int) (a b : Nat → Int) (x : Int) : Int := if hor b x p 40 0 = 0 then -1 else hor a x p 40 0 * inv' p (hor b x p 40 0) % p
def lsS (p : Int) (a b : Nat → Int) (x : Int) : Int := if hor b x p 40 0 = 0 then -1 else ((hor (dh a p) x p 39 0 * hor b x p 40 0 - hor a x p 40 0 * hor (dh b p) x p 39 0) % p) * (inv' p (hor b x p 40 0) * inv' p (hor b x p 40 0) % p) % p
theorem at_pe {p x : Int} {a : Nat → Int} : cg p (hor a x p 40 0) (pe a x) := by
  have h := hor_cg a x p 40 0
  rw [Int.zero_mul, Int.zero_add] at h
  exact h
theorem sl_pd {p x : Int} {a : Nat → Int} : cg p (hor (dh a p) x p 39 0) (pd a x) := by
  have h := hor_cg (dh a p) x p 39 0
  rw [Int.zero_mul, Int.zero_add] at h
  exact cg_trans h (pv_cg 39 (fun d _ => cg_l _ (cg_mod p _)))
theorem at_eq {p x V A : Int} {a : Nat → Int} (hp : 0 < p) (h : cg p (pe a x) V) (hA : cg p A V) (hr : 0 ≤ A ∧ A < p) : hor a x p 40 0 = A :=
  cg_eq (cg_trans at_pe (cg_trans h (cg_symm hA))) (hor_rng hp 40 0 ⟨by omega, hp⟩) hr
theorem sl_eq {p x V A : Int} {a : Nat → Int} (hp : 0 < p) (h : cg p (pd a x) V) (hA : cg p A V) (hr : 0 ≤ A ∧ A < p) : hor (dh a p) x p 39 0 = A :=
  cg_eq (cg_trans sl_pd (cg_trans h (cg_symm hA))) (hor_rng hp 39 0 ⟨by omega, hp⟩) hr
theorem inv_2 {p v : Int} : inv' p (v * v % p) = inv' p v * inv' p v % p := by
  unfold inv'
  refine cg_emod (cg_trans (cg_pow (cg_mod p (v * v)) _) ?_)
  rw [Int.mul_pow]
  exact cg_symm (cg_mul (cg_mod p _) (cg_mod p _))
def aR (p k1 F1 c1 e1 less k2 F2 c2 e2 : Int) : Nat → Int := addr p (neg9 k2 e2 less) (addr p (neg9 k1 e1 0) (fun _ => 0) (tB p k1 F1 c1 e1)) (tB p k2 F2 c2 e2)
def bR (p k3 F3 c3 e3 : Int) : Nat → Int := addr p (neg9 k3 e3 0) (up (up (fun _ => 0) 0 1) 0 0) (tB p k3 F3 c3 e3)
theorem row_one {p x k F c e : Int} {z : Nat → Int} (hz : pe z x = 0 ∧ pd z x = 0) (ht : okT k F c e) : cg p (pe (addr p (neg9 k e 0) z (tB p k F c e)) x) (vT x k F c e) ∧ cg p (pd (addr p (neg9 k e 0) z (tB p k F c e)) x) (sT x k F c e) := by
  have q := tB_cg (p := p) (x := x) (less := 0) ht (Or.inl rfl)
  have e1 : ∀ a : Int, sg9 0 * a = a := fun a => by
    unfold sg9
    rw [if_pos rfl, Int.one_mul]
  rw [e1, e1] at q
  have h1 := pe_addr (p := p) (s := neg9 k e 0) (x := x) (f := z) (g := tB p k F c e)
  have h2 := pd_addr (p := p) (s := neg9 k e 0) (x := x) (f := z) (g := tB p k F c e)
  rw [hz.1, Int.zero_add] at h1
  rw [hz.2, Int.zero_add] at h2
  exact ⟨cg_trans h1 q.1, cg_trans h2 q.2⟩
theorem z_row {x : Int} : pe (fun _ => 0) x = 0 ∧ pd (fun _ => 0) x = 0 := ⟨pv_0 40 (fun _ _ => rfl), pv_0 39 (fun d _ => by show (0 : Int) * _ = 0; rw [Int.zero_mul])⟩
theorem z_row2 {x : Int} : pe (up (up (fun _ => 0) 0 1) 0 0) x = 0 ∧ pd (up (up (fun _ => 0) 0 1) 0 0) x = 0 := by
  have e : (up (up (fun _ => 0) 0 1) 0 0 : Nat → Int) = fun _ => 0 := by
    funext j
    by_cases z : j = 0
    · rw [z, up_s]
    · rw [up_n z, up_n z]
  rw [e]
  exact z_row
theorem aR_cg {p x k1 F1 c1 e1 less k2 F2 c2 e2 : Int} (h1 : okT k1 F1 c1 e1) (h2 : okT k2 F2 c2 e2) (hl : less = 0 ∨ less = 1) :
    cg p (pe (aR p k1 F1 c1 e1 less k2 F2 c2 e2) x) (vT x k1 F1 c1 e1 + sg9 less * vT x k2 F2 c2 e2) ∧ cg p (pd (aR p k1 F1 c1 e1 less k2 F2 c2 e2) x) (sT x k1 F1 c1 e1 + sg9 less * sT x k2 F2 c2 e2) := by
  have q1 := row_one (p := p) (x := x) z_row h1
  have q2 := tB_cg (p := p) (x := x) h2 hl
  exact ⟨cg_trans pe_addr (cg_add q1.1 q2.1), cg_trans pd_addr (cg_add q1.2 q2.2)⟩
theorem tP_rng {p x k F c e : Int} (hp : 0 < p) : (0 ≤ (tP p x k F c e).1 ∧ (tP p x k F c e).1 < p) ∧ (0 ≤ (tP p x k F c e).2 ∧ (tP p x k F c e).2 < p) := by
  unfold tP
  rw [opv_42]
  exact ⟨emod_rng _ hp, emod_rng _ hp⟩
theorem sum_cg {p x k1 F1 c1 e1 less k2 F2 c2 e2 : Int} (h1 : okT k1 F1 c1 e1) (h2 : okT k2 F2 c2 e2) (hl : less = 0 ∨ less = 1) (hp : 0 < p) :
    (cg p (opv (sgn (less = 1)) p (tP p x k1 F1 c1 e1) (tP p x k2 F2 c2 e2)).1 (vT x k1 F1 c1 e1 + sg9 less * vT x k2 F2 c2 e2) ∧ cg p (opv (sgn (less = 1)) p (tP p x k1 F1 c1 e1) (tP p x k2 F2 c2 e2)).2 (sT x k1 F1 c1 e1 + sg9 less * sT x k2 F2 c2 e2)) ∧
    (0 ≤ (opv (sgn (less = 1)) p (tP p x k1 F1 c1 e1) (tP p x k2 F2 c2 e2)).1 ∧ (opv (sgn (less = 1)) p (tP p x k1 F1 c1 e1) (tP p x k2 F2 c2 e2)).1 < p) ∧ (0 ≤ (opv (sgn (less = 1)) p (tP p x k1 F1 c1 e1) (tP p x k2 F2 c2 e2)).2 ∧ (opv (sgn (less = 1)) p (tP p x k1 F1 c1 e1) (tP p x k2 F2 c2 e2)).2 < p) := by
  have q1 := tP_cg (p := p) (x := x) h1
  have q2 := tP_cg (p := p) (x := x) h2
  rcases hl with rfl | rfl
  · have es : sgn ((0 : Int) = 1) = 43 := if_neg (by decide)
    have e9 : ∀ a : Int, sg9 0 * a = a := fun a => by
      unfold sg9
      rw [if_pos rfl, Int.one_mul]
    rw [es, opv_43, e9, e9]
    exact ⟨⟨cg_mod2 (cg_add q1.1 q2.1), cg_mod2 (cg_add q1.2 q2.2)⟩, emod_rng _ hp, emod_rng _ hp⟩
  · have es : sgn ((1 : Int) = 1) = 45 := if_pos rfl
    have e9 : ∀ a b : Int, a + sg9 1 * b = a - b := fun a b => by
      unfold sg9
      rw [if_neg (by decide), Int.neg_mul, Int.one_mul]
      omega
    rw [es, opv_45, e9, e9]
    exact ⟨⟨cg_mod2 (cg_sub q1.1 q2.1), cg_mod2 (cg_sub q1.2 q2.2)⟩, emod_rng _ hp, emod_rng _ hp⟩
theorem AG1 {p x k1 F1 c1 e1 less k2 F2 c2 e2 : Int} (h1 : okT k1 F1 c1 e1) (h2 : okT k2 F2 c2 e2) (hl : less = 0 ∨ less = 1) (hp : 2 ≤ p) :
    lvV p (aR p k1 F1 c1 e1 less k2 F2 c2 e2) (r0 1) x = (opv (sgn (less = 1)) p (tP p x k1 F1 c1 e1) (tP p x k2 F2 c2 e2)).1 ∧ lsS p (aR p k1 F1 c1 e1 less k2 F2 c2 e2) (r0 1) x = (opv (sgn (less = 1)) p (tP p x k1 F1 c1 e1) (tP p x k2 F2 c2 e2)).2 := by
  have s := sum_cg (p := p) (x := x) h1 h2 hl (by omega)
  have r := aR_cg (p := p) (x := x) h1 h2 hl
  have ea := at_eq (by omega) r.1 s.1.1 s.2.1
  have es := sl_eq (by omega) r.2 s.1.2 s.2.2
  have eb : hor (r0 1) x p 40 0 = 1 := at_eq (V := 1) (by omega) (by rw [pe_r0]; exact cg_rfl p 1) (cg_rfl p 1) (by omega)
  have ed : hor (dh (r0 1) p) x p 39 0 = 0 := sl_eq (V := 0) (by omega) (by rw [pd_r0]; exact cg_rfl p 0) (cg_rfl p 0) (by omega)
  have ei : inv' p 1 = 1 := by
    unfold inv'
    rw [Int.one_pow]
    exact Int.emod_eq_of_lt (by omega) (by omega)
  generalize hA : (opv (sgn (less = 1)) p (tP p x k1 F1 c1 e1) (tP p x k2 F2 c2 e2)).1 = A at *
  generalize hS : (opv (sgn (less = 1)) p (tP p x k1 F1 c1 e1) (tP p x k2 F2 c2 e2)).2 = S at *
  unfold lvV lsS
  rw [ea, es, eb, ed, ei, if_neg (by decide), if_neg (by decide), Int.mul_one, Int.mul_one, Int.mul_zero, Int.sub_zero, Int.mul_one, Int.emod_eq_of_lt (a := (1 : Int)) (by omega) (by omega), Int.mul_one, Int.emod_emod, Int.emod_eq_of_lt s.2.1.1 s.2.1.2, Int.emod_eq_of_lt s.2.2.1 s.2.2.2]
  exact ⟨rfl, rfl⟩
theorem AG2 {p x k1 F1 c1 e1 less k2 F2 c2 e2 k3 F3 c3 e3 : Int} (h1 : okT k1 F1 c1 e1) (h2 : okT k2 F2 c2 e2) (h3 : okT k3 F3 c3 e3) (hl : less = 0 ∨ less = 1) (hp : 2 ≤ p) :
    lvV p (aR p k1 F1 c1 e1 less k2 F2 c2 e2) (bR p k3 F3 c3 e3) x = (dvp p (opv (sgn (less = 1)) p (tP p x k1 F1 c1 e1) (tP p x k2 F2 c2 e2)) (tP p x k3 F3 c3 e3)).1 ∧ lsS p (aR p k1 F1 c1 e1 less k2 F2 c2 e2) (bR p k3 F3 c3 e3) x = (dvp p (opv (sgn (less = 1)) p (tP p x k1 F1 c1 e1) (tP p x k2 F2 c2 e2)) (tP p x k3 F3 c3 e3)).2 := by
  have s := sum_cg (p := p) (x := x) h1 h2 hl (by omega)
  have r := aR_cg (p := p) (x := x) h1 h2 hl
  have ea := at_eq (by omega) r.1 s.1.1 s.2.1
  have es := sl_eq (by omega) r.2 s.1.2 s.2.2
  have q := row_one (p := p) (x := x) z_row2 h3
  have t := tP_cg (p := p) (x := x) h3
  have u := tP_rng (p := p) (x := x) (k := k3) (F := F3) (c := c3) (e := e3) (by omega)
  have eb : hor (bR p k3 F3 c3 e3) x p 40 0 = (tP p x k3 F3 c3 e3).1 := at_eq (by omega) q.1 t.1 u.1
  have ed : hor (dh (bR p k3 F3 c3 e3) p) x p 39 0 = (tP p x k3 F3 c3 e3).2 := sl_eq (by omega) q.2 t.2 u.2
  unfold lvV lsS dvp
  rw [ea, es, eb, ed]
  by_cases z : (tP p x k3 F3 c3 e3).1 = 0
  · rw [if_pos z, if_pos z, if_pos z]
    exact ⟨rfl, rfl⟩
  · rw [if_neg z, if_neg z, if_neg z, inv_2]
    exact ⟨rfl, rfl⟩
/-- the next place -/
theorem nx_eq {p x v s : Int} : (x - v * inv' p s % p) % p = (x - v * inv' p s) % p := cg_emod (cg_sub (cg_rfl p x) (cg_mod p _))
/-- the law's inverse -/
def itm (v p : Int) : Nat → Int → Int
  | 0, r => r
  | k + 1, r => itm v p k (r * v % p)
theorem itm_eq {v p : Int} (hp : 0 < p) : ∀ (k : Nat) (r : Int), 0 ≤ r ∧ r < p → itm v p k r = r * v ^ k % p
  | 0, r, h => by
    show r = r * v ^ 0 % p
    rw [Int.pow_zero, Int.mul_one, Int.emod_eq_of_lt h.1 h.2]
  | k + 1, r, h => by
    show itm v p k (r * v % p) = _
    rw [itm_eq hp k _ (emod_rng _ hp)]
    refine cg_emod (cg_trans (cg_0 (cg_mod p _) _) (cg_of_eq ?_))
    rw [Int.pow_succ, Int.mul_assoc, Int.mul_comm v]
theorem itm_inv {v p : Int} (hp : 2 ≤ p) : itm v p (p - 2).toNat 1 = inv' p v := by
  rw [itm_eq (by omega) _ 1 (by omega), Int.one_mul]
  rfl
end
section
theorem zz_end : True := trivial
end
