section TAKE
variable {x y b0 s0 np na nm nr ne : Nat} {g : Nat → Nat → Nat} {m : Nat → Nat} {h h1 : Hp} {M : Nat → List Nat} {N : Nat} {F K : Nat → Bool}
theorem GQ.xx (hG : GQ h g na N M) (e : eqX F K h h1) (hF : F 260 = false) (hK : K 102 = false) : GQ h1 g na N M := by
  obtain ⟨e1, e2, e3, e4, e5, e6, e7, e8, e9⟩ := e
  unfold GQ at hG ⊢
  rw [e6 260 hF, e7 102 hK, e9]
  exact hG
theorem QQ.xx {W : List Nat} (hq : QQ g m h W) (e : eqX F K h h1) (hF : F 771 = false) (h6 : K 106 = false) (h7 : K 107 = false) (h4 : K 204 = false) : QQ g m h1 W := by
  obtain ⟨e1, e2, e3, e4, e5, e6, e7, e8, e9⟩ := e
  unfold QQ clP at hq ⊢
  rw [e6 771 hF, e7 106 h6, e7 107 h7, e7 204 h4]
  exact hq
theorem sgV_same (e : eqB h h1) (m : Nat → Nat) : sgV h1 m = sgV h m := by
  have E := eqB_l e
  funext na L d
  unfold sgV saV mgF mcN
  simp only [E]
/-- what a group says best, and by which join -/
noncomputable def bsV (h : Hp) (m : Nat → Nat) (na : Nat) (L : List Nat) : Nat → Int32 × Int32
  | 0 => (0, 0)
  | d + 1 => iF ((bsV h m na L d).1 < sgV h m na L d) (sgV h m na L d, nI (d + 1)) (bsV h m na L d)
theorem bsV_same (e : eqB h h1) (m : Nat → Nat) : bsV h1 m = bsV h m := by
  funext na L d
  induction d with
  | zero => rfl
  | succ d ih =>
    show iF ((bsV h1 m na L d).1 < sgV h1 m na L d) (sgV h1 m na L d, nI (d + 1)) (bsV h1 m na L d) = iF ((bsV h m na L d).1 < sgV h m na L d) (sgV h m na L d, nI (d + 1)) (bsV h m na L d)
    rw [ih, sgV_same e]
def tkF (_ : Nat) : Bool := false
def tkK (k : Nat) : Bool := k == 100 || k == 101
theorem tk_bF : ∀ f, isBf f = false → tkF f = false := fun _ _ => rfl
theorem tk_bK : ∀ k, isBk k = false → tkK k = false := by
  intro k q
  unfold isBk at q
  unfold tkK
  simp at q ⊢
  omega
theorem takeGroup_e (hC : CB x na g m h) (hG : GQ h g na N M) (hN : N ≤ 10) {j : Nat} (hj : j < N) (hl : (M j).length ≤ 24) (Q : Hp → Prop) (hQ : ∀ h', eqX tkF tkK h h' → aI h' 100 (g 0 20) j = (bsV h m na (M j) 3).1 → aI h' 101 (g 0 21) j = (bsV h m na (M j) 3).2 → (∀ i, ¬ i = j → aI h' 100 (g 0 20) i = aI h 100 (g 0 20) i ∧ aI h' 101 (g 0 21) i = aI h 101 (g 0 21) i) → Q h') : w_X1_takeGroup (some (g 0 11)) (nI j) (some (g 0 9)) h Q := by
  have hB := hC.1
  unfold JS at hB
  have c := cnF (show j < 10 by omega) (Nat.le_refl 10) (by decide)
  unfold w_X1_takeGroup n_X1_takeGroup_0
  simp (config := {decide := true}) only [gI_e, gR_e, pI_e, pZ_e, pR_e, ldI_e, ldZ_e, ldL_e, ldR_e, stI_e, stZ_e, stL_e, stR_e, alN_e, nwA_e, nwO_e, dvI_e, rmI_e, oV_e, oN_e, lt_e, rZ_e, br_T, br_F, fR_sI, aI_sI, aL_sI, aR_sI, kd_sI, ln_sI, hn_sI, hm_sI, fI_sI_n, fI_sR, aI_sR, aL_sR, aR_sR, kd_sR, ln_sR, hn_sR, hm_sR, fR_sR_n, fI_tI, fR_tI, aL_tI, aR_tI, kd_tI, ln_tI, hn_tI, hm_tI, aI_tI_n, fI_tL, fR_tL, aI_tL, aR_tL, kd_tL, ln_tL, hn_tL, hm_tL, aL_tL_n, fI_tR, fR_tR, aI_tR, aL_tR, kd_tR, ln_tR, hn_tR, hm_tR, aR_tR_n, hn_nw, hm_nw, rc400, rc403, rc404, rc405, rc407, rc409, rc420, rc440, bI_0, bI_1, bI_T, bI_F, iF_T, iF_F, br_not, le_nlt, not_true_eq_false, not_false_eq_true, and_self, and_true, true_and, and_false, false_and, or_true, true_or, or_false, false_or, ne_eq, reduceCtorEq, Nat.reduceLeDiff, Nat.reduceEqDiff, Nat.reduceLT, Nat.reduceAdd, Nat.reduceSub, Nat.reduceMul, Int32.reduceLT, Int32.reduceLE, Int32.reduceToNatClampNeg, Int32.reduceAdd, Int32.reduceSub, implies_true, forall_const, isIn_e, bit_e, lits, hB, c]
  unfold l_X1_takeGroup_16
  refine Lo.count 3 (fun d s h' => eqX tkF tkK h h' ∧ s = nI d ∧ aI h' 100 (g 0 20) j = (bsV h m na (M j) d).1 ∧ aI h' 101 (g 0 21) j = (bsV h m na (M j) d).2 ∧ ∀ i, ¬ i = j → aI h' 100 (g 0 20) i = aI h 100 (g 0 20) i ∧ aI h' 101 (g 0 21) i = aI h 101 (g 0 21) i) ?_ 0 (Nat.zero_le _) _ _ ⟨((eqX.rf h).tI rfl _ _ _).tI rfl _ _ _, rfl, ?_, ?_, ?_⟩
  rotate_left
  · simp (config := {decide := true}) only [fR_sI, aI_sI, aL_sI, aR_sI, kd_sI, ln_sI, hn_sI, hm_sI, fI_sI_n, fI_sR, aI_sR, aL_sR, aR_sR, kd_sR, ln_sR, hn_sR, hm_sR, fR_sR_n, fI_tI, fR_tI, aL_tI, aR_tI, kd_tI, ln_tI, hn_tI, hm_tI, aI_tI_n, fI_tL, fR_tL, aI_tL, aR_tL, kd_tL, ln_tL, hn_tL, hm_tL, aL_tL_n, fI_tR, fR_tR, aI_tR, aL_tR, kd_tR, ln_tR, hn_tR, hm_tR, aR_tR_n, hn_nw, hm_nw, fI_sI_e, fR_sR_e, aI_tI_e, aL_tL_e, aR_tR_e, true_and, if_true]
    rfl
  · simp (config := {decide := true}) only [fR_sI, aI_sI, aL_sI, aR_sI, kd_sI, ln_sI, hn_sI, hm_sI, fI_sI_n, fI_sR, aI_sR, aL_sR, aR_sR, kd_sR, ln_sR, hn_sR, hm_sR, fR_sR_n, fI_tI, fR_tI, aL_tI, aR_tI, kd_tI, ln_tI, hn_tI, hm_tI, aI_tI_n, fI_tL, fR_tL, aI_tL, aR_tL, kd_tL, ln_tL, hn_tL, hm_tL, aL_tL_n, fI_tR, fR_tR, aI_tR, aL_tR, kd_tR, ln_tR, hn_tR, hm_tR, aR_tR_n, hn_nw, hm_nw, fI_sI_e, fR_sR_e, aI_tI_e, aL_tL_e, aR_tR_e, true_and, if_true]
    rfl
  · intro i hi
    simp (config := {decide := true}) only [fR_sI, aI_sI, aL_sI, aR_sI, kd_sI, ln_sI, hn_sI, hm_sI, fI_sI_n, fI_sR, aI_sR, aL_sR, aR_sR, kd_sR, ln_sR, hn_sR, hm_sR, fR_sR_n, fI_tI, fR_tI, aL_tI, aR_tI, kd_tI, ln_tI, hn_tI, hm_tI, aI_tI_n, fI_tL, fR_tL, aI_tL, aR_tL, kd_tL, ln_tL, hn_tL, hm_tL, aL_tL_n, fI_tR, fR_tR, aI_tR, aL_tR, kd_tR, ln_tR, hn_tR, hm_tR, aR_tR_n, hn_nw, hm_nw, fI_sI_e, fR_sR_e, aI_tI_e, aL_tL_e, aR_tR_e, true_and]
    rw [if_neg hi, if_neg hi]
    exact ⟨rfl, rfl⟩
  rintro d s h' hd ⟨hS, rfl, t1, t2, t3⟩ K1 hK
  have eB := eqX.b tk_bF tk_bK hS
  have hC' := hC.of eB
  have hB' := hC'.1
  unfold JS at hB'
  unfold b_X1_takeGroup_16 n_X1_takeGroup_64
  by_cases e : d < 3
  · have cd := cnF e (Nat.le_refl 3) (by decide)
    have c3 : nI d < 3 := cd.1
    simp (config := {decide := true}) only [gI_e, gR_e, pI_e, pZ_e, pR_e, ldI_e, ldZ_e, ldL_e, ldR_e, stI_e, stZ_e, stL_e, stR_e, alN_e, nwA_e, nwO_e, dvI_e, rmI_e, oV_e, oN_e, lt_e, rZ_e, br_T, br_F, fR_sI, aI_sI, aL_sI, aR_sI, kd_sI, ln_sI, hn_sI, hm_sI, fI_sI_n, fI_sR, aI_sR, aL_sR, aR_sR, kd_sR, ln_sR, hn_sR, hm_sR, fR_sR_n, fI_tI, fR_tI, aL_tI, aR_tI, kd_tI, ln_tI, hn_tI, hm_tI, aI_tI_n, fI_tL, fR_tL, aI_tL, aR_tL, kd_tL, ln_tL, hn_tL, hm_tL, aL_tL_n, fI_tR, fR_tR, aI_tR, aL_tR, kd_tR, ln_tR, hn_tR, hm_tR, aR_tR_n, hn_nw, hm_nw, rc400, rc403, rc404, rc405, rc407, rc409, rc420, rc440, bI_0, bI_1, bI_T, bI_F, iF_T, iF_F, br_not, le_nlt, not_true_eq_false, not_false_eq_true, and_self, and_true, true_and, and_false, false_and, or_true, true_or, or_false, false_or, ne_eq, reduceCtorEq, Nat.reduceLeDiff, Nat.reduceEqDiff, Nat.reduceLT, Nat.reduceAdd, Nat.reduceSub, Nat.reduceMul, Int32.reduceLT, Int32.reduceLE, Int32.reduceToNatClampNeg, Int32.reduceAdd, Int32.reduceSub, implies_true, forall_const, isIn_e, bit_e, lits, hB', c3]
    refine ⟨cd.2.1, ?_⟩
    rw [cd.2.2.1]
    simp (config := {decide := true}) only [gI_e, gR_e, pI_e, pZ_e, pR_e, ldI_e, ldZ_e, ldL_e, ldR_e, stI_e, stZ_e, stL_e, stR_e, alN_e, nwA_e, nwO_e, dvI_e, rmI_e, oV_e, oN_e, lt_e, rZ_e, br_T, br_F, fR_sI, aI_sI, aL_sI, aR_sI, kd_sI, ln_sI, hn_sI, hm_sI, fI_sI_n, fI_sR, aI_sR, aL_sR, aR_sR, kd_sR, ln_sR, hn_sR, hm_sR, fR_sR_n, fI_tI, fR_tI, aL_tI, aR_tI, kd_tI, ln_tI, hn_tI, hm_tI, aI_tI_n, fI_tL, fR_tL, aI_tL, aR_tL, kd_tL, ln_tL, hn_tL, hm_tL, aL_tL_n, fI_tR, fR_tR, aI_tR, aL_tR, kd_tR, ln_tR, hn_tR, hm_tR, aR_tR_n, hn_nw, hm_nw, rc400, rc403, rc404, rc405, rc407, rc409, rc420, rc440, bI_0, bI_1, bI_T, bI_F, iF_T, iF_F, br_not, le_nlt, not_true_eq_false, not_false_eq_true, and_self, and_true, true_and, and_false, false_and, or_true, true_or, or_false, false_or, ne_eq, reduceCtorEq, Nat.reduceLeDiff, Nat.reduceEqDiff, Nat.reduceLT, Nat.reduceAdd, Nat.reduceSub, Nat.reduceMul, Int32.reduceLT, Int32.reduceLE, Int32.reduceToNatClampNeg, Int32.reduceAdd, Int32.reduceSub, implies_true, forall_const, isIn_e, bit_e, lits, hB']
    refine saidBy_e hC' (hG.xx hS rfl rfl) (by omega) hj e hl _ ?_
    rw [sgV_same eB]
    have bv : bsV h m na (M j) (d + 1) = iF ((bsV h m na (M j) d).1 < sgV h m na (M j) d) (sgV h m na (M j) d, nI (d + 1)) (bsV h m na (M j) d) := rfl
    by_cases t : (bsV h m na (M j) d).1 < sgV h m na (M j) d
    · rw [iF_y t] at bv
      simp (config := {decide := true}) only [gI_e, gR_e, pI_e, pZ_e, pR_e, ldI_e, ldZ_e, ldL_e, ldR_e, stI_e, stZ_e, stL_e, stR_e, alN_e, nwA_e, nwO_e, dvI_e, rmI_e, oV_e, oN_e, lt_e, rZ_e, br_T, br_F, fR_sI, aI_sI, aL_sI, aR_sI, kd_sI, ln_sI, hn_sI, hm_sI, fI_sI_n, fI_sR, aI_sR, aL_sR, aR_sR, kd_sR, ln_sR, hn_sR, hm_sR, fR_sR_n, fI_tI, fR_tI, aL_tI, aR_tI, kd_tI, ln_tI, hn_tI, hm_tI, aI_tI_n, fI_tL, fR_tL, aI_tL, aR_tL, kd_tL, ln_tL, hn_tL, hm_tL, aL_tL_n, fI_tR, fR_tR, aI_tR, aL_tR, kd_tR, ln_tR, hn_tR, hm_tR, aR_tR_n, hn_nw, hm_nw, rc400, rc403, rc404, rc405, rc407, rc409, rc420, rc440, bI_0, bI_1, bI_T, bI_F, iF_T, iF_F, br_not, le_nlt, not_true_eq_false, not_false_eq_true, and_self, and_true, true_and, and_false, false_and, or_true, true_or, or_false, false_or, ne_eq, reduceCtorEq, Nat.reduceLeDiff, Nat.reduceEqDiff, Nat.reduceLT, Nat.reduceAdd, Nat.reduceSub, Nat.reduceMul, Int32.reduceLT, Int32.reduceLE, Int32.reduceToNatClampNeg, Int32.reduceAdd, Int32.reduceSub, implies_true, forall_const, isIn_e, bit_e, lits, hB', c, t1, t, cd]
      refine hK _ _ e ⟨(hS.tI rfl _ _ _).tI rfl _ _ _, rfl, ?_, ?_, ?_⟩
      · rw [bv]
        simp (config := {decide := true}) only [fR_sI, aI_sI, aL_sI, aR_sI, kd_sI, ln_sI, hn_sI, hm_sI, fI_sI_n, fI_sR, aI_sR, aL_sR, aR_sR, kd_sR, ln_sR, hn_sR, hm_sR, fR_sR_n, fI_tI, fR_tI, aL_tI, aR_tI, kd_tI, ln_tI, hn_tI, hm_tI, aI_tI_n, fI_tL, fR_tL, aI_tL, aR_tL, kd_tL, ln_tL, hn_tL, hm_tL, aL_tL_n, fI_tR, fR_tR, aI_tR, aL_tR, kd_tR, ln_tR, hn_tR, hm_tR, aR_tR_n, hn_nw, hm_nw, fI_sI_e, fR_sR_e, aI_tI_e, aL_tL_e, aR_tR_e, true_and, if_true]
      · rw [bv]
        simp (config := {decide := true}) only [fR_sI, aI_sI, aL_sI, aR_sI, kd_sI, ln_sI, hn_sI, hm_sI, fI_sI_n, fI_sR, aI_sR, aL_sR, aR_sR, kd_sR, ln_sR, hn_sR, hm_sR, fR_sR_n, fI_tI, fR_tI, aL_tI, aR_tI, kd_tI, ln_tI, hn_tI, hm_tI, aI_tI_n, fI_tL, fR_tL, aI_tL, aR_tL, kd_tL, ln_tL, hn_tL, hm_tL, aL_tL_n, fI_tR, fR_tR, aI_tR, aL_tR, kd_tR, ln_tR, hn_tR, hm_tR, aR_tR_n, hn_nw, hm_nw, fI_sI_e, fR_sR_e, aI_tI_e, aL_tL_e, aR_tR_e, true_and, if_true]
      · intro i hi
        simp (config := {decide := true}) only [fR_sI, aI_sI, aL_sI, aR_sI, kd_sI, ln_sI, hn_sI, hm_sI, fI_sI_n, fI_sR, aI_sR, aL_sR, aR_sR, kd_sR, ln_sR, hn_sR, hm_sR, fR_sR_n, fI_tI, fR_tI, aL_tI, aR_tI, kd_tI, ln_tI, hn_tI, hm_tI, aI_tI_n, fI_tL, fR_tL, aI_tL, aR_tL, kd_tL, ln_tL, hn_tL, hm_tL, aL_tL_n, fI_tR, fR_tR, aI_tR, aL_tR, kd_tR, ln_tR, hn_tR, hm_tR, aR_tR_n, hn_nw, hm_nw, fI_sI_e, fR_sR_e, aI_tI_e, aL_tL_e, aR_tR_e, true_and]
        rw [if_neg hi, if_neg hi]
        exact t3 i hi
    · rw [iF_n t] at bv
      simp (config := {decide := true}) only [gI_e, gR_e, pI_e, pZ_e, pR_e, ldI_e, ldZ_e, ldL_e, ldR_e, stI_e, stZ_e, stL_e, stR_e, alN_e, nwA_e, nwO_e, dvI_e, rmI_e, oV_e, oN_e, lt_e, rZ_e, br_T, br_F, fR_sI, aI_sI, aL_sI, aR_sI, kd_sI, ln_sI, hn_sI, hm_sI, fI_sI_n, fI_sR, aI_sR, aL_sR, aR_sR, kd_sR, ln_sR, hn_sR, hm_sR, fR_sR_n, fI_tI, fR_tI, aL_tI, aR_tI, kd_tI, ln_tI, hn_tI, hm_tI, aI_tI_n, fI_tL, fR_tL, aI_tL, aR_tL, kd_tL, ln_tL, hn_tL, hm_tL, aL_tL_n, fI_tR, fR_tR, aI_tR, aL_tR, kd_tR, ln_tR, hn_tR, hm_tR, aR_tR_n, hn_nw, hm_nw, rc400, rc403, rc404, rc405, rc407, rc409, rc420, rc440, bI_0, bI_1, bI_T, bI_F, iF_T, iF_F, br_not, le_nlt, not_true_eq_false, not_false_eq_true, and_self, and_true, true_and, and_false, false_and, or_true, true_or, or_false, false_or, ne_eq, reduceCtorEq, Nat.reduceLeDiff, Nat.reduceEqDiff, Nat.reduceLT, Nat.reduceAdd, Nat.reduceSub, Nat.reduceMul, Int32.reduceLT, Int32.reduceLE, Int32.reduceToNatClampNeg, Int32.reduceAdd, Int32.reduceSub, implies_true, forall_const, isIn_e, bit_e, lits, hB', c, t1, t, cd]
      exact hK _ _ e ⟨hS, rfl, by rw [bv]; exact t1, by rw [bv]; exact t2, t3⟩
  · obtain rfl : d = 3 := by omega
    have c3 : ¬ nI 3 < 3 := by decide
    simp (config := {decide := true}) only [gI_e, gR_e, pI_e, pZ_e, pR_e, ldI_e, ldZ_e, ldL_e, ldR_e, stI_e, stZ_e, stL_e, stR_e, alN_e, nwA_e, nwO_e, dvI_e, rmI_e, oV_e, oN_e, lt_e, rZ_e, br_T, br_F, fR_sI, aI_sI, aL_sI, aR_sI, kd_sI, ln_sI, hn_sI, hm_sI, fI_sI_n, fI_sR, aI_sR, aL_sR, aR_sR, kd_sR, ln_sR, hn_sR, hm_sR, fR_sR_n, fI_tI, fR_tI, aL_tI, aR_tI, kd_tI, ln_tI, hn_tI, hm_tI, aI_tI_n, fI_tL, fR_tL, aI_tL, aR_tL, kd_tL, ln_tL, hn_tL, hm_tL, aL_tL_n, fI_tR, fR_tR, aI_tR, aL_tR, kd_tR, ln_tR, hn_tR, hm_tR, aR_tR_n, hn_nw, hm_nw, rc400, rc403, rc404, rc405, rc407, rc409, rc420, rc440, bI_0, bI_1, bI_T, bI_F, iF_T, iF_F, br_not, le_nlt, not_true_eq_false, not_false_eq_true, and_self, and_true, true_and, and_false, false_and, or_true, true_or, or_false, false_or, ne_eq, reduceCtorEq, Nat.reduceLeDiff, Nat.reduceEqDiff, Nat.reduceLT, Nat.reduceAdd, Nat.reduceSub, Nat.reduceMul, Int32.reduceLT, Int32.reduceLE, Int32.reduceToNatClampNeg, Int32.reduceAdd, Int32.reduceSub, implies_true, forall_const, isIn_e, bit_e, lits, c3]
    exact hQ h' hS t1 t2 t3
def lpF (f : Nat) : Bool := f == 771
def lpK (k : Nat) : Bool := k == 100 || k == 101 || k == 106 || k == 107
theorem lp_bF : ∀ f, isBf f = false → lpF f = false := by
  intro k q
  unfold isBf isSf at q
  unfold lpF
  simp at q ⊢
  omega
theorem lp_bK : ∀ k, isBk k = false → lpK k = false := by
  intro k q
  unfold isBk isSk at q
  unfold lpK
  simp at q ⊢
  omega
theorem qa_lF : ∀ f, lpF f = false → qaF f = false := fun _ q => q
theorem qa_lK : ∀ k, lpK k = false → qaK k = false := by
  intro k q
  unfold lpK at q
  unfold qaK
  simp at q ⊢
  omega
theorem tk_lF : ∀ f, lpF f = false → tkF f = false := fun _ _ => rfl
theorem tk_lK : ∀ k, lpK k = false → tkK k = false := by
  intro k q
  unfold lpK at q
  unfold tkK
  simp at q ⊢
  omega
/-- the WHATS of the groups -/
def wlL (h : Hp) (m : Nat → Nat) (M : Nat → List Nat) (j : Nat) : List Nat := (List.range j).map (fun i => whN h m ((M i).getD 0 0))
theorem wlL_len (h : Hp) (m : Nat → Nat) (M : Nat → List Nat) (j : Nat) : (wlL h m M j).length = j := by
  unfold wlL
  rw [List.length_map, List.length_range]
theorem takeAll_e (hC : CB x na g m h) (hG : GQ h g na N M) (hN : N ≤ 10) (hl : ∀ j, j < N → (M j).length ≤ 24) (hq : QQ g m h []) (l2 : Int32) (Q : Int32 → Hp → Prop) (hQ : ∀ h', eqX lpF lpK h h' → QQ g m h' (wlL h m M N) → (∀ i, i < N → aI h' 100 (g 0 20) i = (bsV h m na (M i) 3).1 ∧ aI h' 101 (g 0 21) i = (bsV h m na (M i) 3).2) → w_X1_find (some (g 0 11)) (nI N) l2 (some (g 0 10)) h' Q) : l_X10_best_74 (some x) l2 0 h Q := by
  unfold l_X10_best_74
  refine Lo.count N (fun j s h' => eqX lpF lpK h h' ∧ s = nI j ∧ QQ g m h' (wlL h m M j) ∧ ∀ i, i < j → aI h' 100 (g 0 20) i = (bsV h m na (M i) 3).1 ∧ aI h' 101 (g 0 21) i = (bsV h m na (M i) 3).2) ?_ 0 (Nat.zero_le _) _ _ ⟨eqX.rf h, rfl, hq, fun i hi => absurd hi (Nat.not_lt_zero _)⟩
  rintro j s h' hj ⟨hS, rfl, hq', hT⟩ K1 hK
  have eB := eqX.b lp_bF lp_bK hS
  have hC' := hC.of eB
  have hG' := hG.xx hS rfl rfl
  have hB' := hC'.1
  unfold JS at hB'
  have hn := hG'.1
  unfold b_X10_best_74
  by_cases e : j < N
  · have c := cnF e hN (by decide)
    simp (config := {decide := true}) only [gI_e, gR_e, pI_e, pZ_e, pR_e, ldI_e, ldZ_e, ldL_e, ldR_e, stI_e, stZ_e, stL_e, stR_e, alN_e, nwA_e, nwO_e, dvI_e, rmI_e, oV_e, oN_e, lt_e, rZ_e, br_T, br_F, fR_sI, aI_sI, aL_sI, aR_sI, kd_sI, ln_sI, hn_sI, hm_sI, fI_sI_n, fI_sR, aI_sR, aL_sR, aR_sR, kd_sR, ln_sR, hn_sR, hm_sR, fR_sR_n, fI_tI, fR_tI, aL_tI, aR_tI, kd_tI, ln_tI, hn_tI, hm_tI, aI_tI_n, fI_tL, fR_tL, aI_tL, aR_tL, kd_tL, ln_tL, hn_tL, hm_tL, aL_tL_n, fI_tR, fR_tR, aI_tR, aL_tR, kd_tR, ln_tR, hn_tR, hm_tR, aR_tR_n, hn_nw, hm_nw, rc400, rc403, rc404, rc405, rc407, rc409, rc420, rc440, bI_0, bI_1, bI_T, bI_F, iF_T, iF_F, br_not, le_nlt, not_true_eq_false, not_false_eq_true, and_self, and_true, true_and, and_false, false_and, or_true, true_or, or_false, false_or, ne_eq, reduceCtorEq, Nat.reduceLeDiff, Nat.reduceEqDiff, Nat.reduceLT, Nat.reduceAdd, Nat.reduceSub, Nat.reduceMul, Int32.reduceLT, Int32.reduceLE, Int32.reduceToNatClampNeg, Int32.reduceAdd, Int32.reduceSub, implies_true, forall_const, isIn_e, bit_e, lits, hB', hn, c]
    refine firstC_e hC' hG' (by omega) e _ ?_
    have l0 : 0 < (M j).length := by
      obtain ⟨-, st, hst⟩ := hG
      exact (hst j e).1
    have f0 : (M j).getD 0 0 < na := by
      obtain ⟨-, st, hst⟩ := hG
      exact ((hst j e).2.2.2.2 0 l0).1
    obtain ⟨q1, q2, -⟩ := hC'.2.1 _ f0
    have wv := hC'.2.2.2.2.2 _ f0
    have we : aI h' 133 (m 133) ((M j).getD 0 0) = nI (whN h m ((M j).getD 0 0)) := by
      have E := eqB_l eB
      have := vp_nN wv
      rw [this]
      unfold whN
      simp only [E]
    have w16 : whN h m ((M j).getD 0 0) < 16 := by
      have E := eqB_l eB
      have := vp_lt2 wv
      unfold whN
      simp only [E] at this
      exact this
    simp (config := {decide := true}) only [gI_e, gR_e, pI_e, pZ_e, pR_e, ldI_e, ldZ_e, ldL_e, ldR_e, stI_e, stZ_e, stL_e, stR_e, alN_e, nwA_e, nwO_e, dvI_e, rmI_e, oV_e, oN_e, lt_e, rZ_e, br_T, br_F, fR_sI, aI_sI, aL_sI, aR_sI, kd_sI, ln_sI, hn_sI, hm_sI, fI_sI_n, fI_sR, aI_sR, aL_sR, aR_sR, kd_sR, ln_sR, hn_sR, hm_sR, fR_sR_n, fI_tI, fR_tI, aL_tI, aR_tI, kd_tI, ln_tI, hn_tI, hm_tI, aI_tI_n, fI_tL, fR_tL, aI_tL, aR_tL, kd_tL, ln_tL, hn_tL, hm_tL, aL_tL_n, fI_tR, fR_tR, aI_tR, aL_tR, kd_tR, ln_tR, hn_tR, hm_tR, aR_tR_n, hn_nw, hm_nw, rc400, rc403, rc404, rc405, rc407, rc409, rc420, rc440, bI_0, bI_1, bI_T, bI_F, iF_T, iF_F, br_not, le_nlt, not_true_eq_false, not_false_eq_true, and_self, and_true, true_and, and_false, false_and, or_true, true_or, or_false, false_or, ne_eq, reduceCtorEq, Nat.reduceLeDiff, Nat.reduceEqDiff, Nat.reduceLT, Nat.reduceAdd, Nat.reduceSub, Nat.reduceMul, Int32.reduceLT, Int32.reduceLE, Int32.reduceToNatClampNeg, Int32.reduceAdd, Int32.reduceSub, implies_true, forall_const, isIn_e, bit_e, lits, hB', q1, q2, we]
    refine addB_e hC' hq' (by rw [wlL_len]; omega) w16 _ ?_
    intro h2 e2 hq2
    have eB2 := eqX.b (fun f q => qa_lF f (lp_bF f q)) (fun k q => qa_lK k (lp_bK k q)) e2
    have hC2 := hC'.of eB2
    have hB2 := hC2.1
    unfold JS at hB2
    simp (config := {decide := true}) only [gI_e, gR_e, pI_e, pZ_e, pR_e, ldI_e, ldZ_e, ldL_e, ldR_e, stI_e, stZ_e, stL_e, stR_e, alN_e, nwA_e, nwO_e, dvI_e, rmI_e, oV_e, oN_e, lt_e, rZ_e, br_T, br_F, fR_sI, aI_sI, aL_sI, aR_sI, kd_sI, ln_sI, hn_sI, hm_sI, fI_sI_n, fI_sR, aI_sR, aL_sR, aR_sR, kd_sR, ln_sR, hn_sR, hm_sR, fR_sR_n, fI_tI, fR_tI, aL_tI, aR_tI, kd_tI, ln_tI, hn_tI, hm_tI, aI_tI_n, fI_tL, fR_tL, aI_tL, aR_tL, kd_tL, ln_tL, hn_tL, hm_tL, aL_tL_n, fI_tR, fR_tR, aI_tR, aL_tR, kd_tR, ln_tR, hn_tR, hm_tR, aR_tR_n, hn_nw, hm_nw, rc400, rc403, rc404, rc405, rc407, rc409, rc420, rc440, bI_0, bI_1, bI_T, bI_F, iF_T, iF_F, br_not, le_nlt, not_true_eq_false, not_false_eq_true, and_self, and_true, true_and, and_false, false_and, or_true, true_or, or_false, false_or, ne_eq, reduceCtorEq, Nat.reduceLeDiff, Nat.reduceEqDiff, Nat.reduceLT, Nat.reduceAdd, Nat.reduceSub, Nat.reduceMul, Int32.reduceLT, Int32.reduceLE, Int32.reduceToNatClampNeg, Int32.reduceAdd, Int32.reduceSub, implies_true, forall_const, isIn_e, bit_e, lits, hB2]
    refine takeGroup_e hC2 (hG'.xx e2 rfl rfl) hN e (hl j e) _ ?_
    intro h3 e3 a1 a2 a3
    rw [bsV_same (eB.tr eB2)] at a1 a2
    refine hK _ _ e ⟨(hS.tr (eqX.up qa_lF qa_lK e2)).tr (eqX.up tk_lF tk_lK e3), rfl, ?_, ?_⟩
    · have : wlL h m M (j + 1) = wlL h m M j ++ [whN h m ((M j).getD 0 0)] := by
        unfold wlL
        rw [List.range_succ, List.map_append]
        rfl
      rw [this]
      exact hq2.xx e3 rfl rfl rfl rfl
    · intro i hi
      by_cases z : i = j
      · rw [z]
        exact ⟨a1, a2⟩
      · obtain ⟨b1, b2⟩ := a3 i z
        obtain ⟨c1, c2⟩ := hT i (by omega)
        have x1 : aI h2 100 = aI h' 100 := e2.2.2.2.2.2.2.1 100 rfl
        have x2 : aI h2 101 = aI h' 101 := e2.2.2.2.2.2.2.1 101 rfl
        rw [b1, b2, x1, x2]
        exact ⟨c1, c2⟩
  · obtain rfl : j = N := by omega
    simp (config := {decide := true}) only [gI_e, gR_e, pI_e, pZ_e, pR_e, ldI_e, ldZ_e, ldL_e, ldR_e, stI_e, stZ_e, stL_e, stR_e, alN_e, nwA_e, nwO_e, dvI_e, rmI_e, oV_e, oN_e, lt_e, rZ_e, br_T, br_F, fR_sI, aI_sI, aL_sI, aR_sI, kd_sI, ln_sI, hn_sI, hm_sI, fI_sI_n, fI_sR, aI_sR, aL_sR, aR_sR, kd_sR, ln_sR, hn_sR, hm_sR, fR_sR_n, fI_tI, fR_tI, aL_tI, aR_tI, kd_tI, ln_tI, hn_tI, hm_tI, aI_tI_n, fI_tL, fR_tL, aI_tL, aR_tL, kd_tL, ln_tL, hn_tL, hm_tL, aL_tL_n, fI_tR, fR_tR, aI_tR, aL_tR, kd_tR, ln_tR, hn_tR, hm_tR, aR_tR_n, hn_nw, hm_nw, rc400, rc403, rc404, rc405, rc407, rc409, rc420, rc440, bI_0, bI_1, bI_T, bI_F, iF_T, iF_F, br_not, le_nlt, not_true_eq_false, not_false_eq_true, and_self, and_true, true_and, and_false, false_and, or_true, true_or, or_false, false_or, ne_eq, reduceCtorEq, Nat.reduceLeDiff, Nat.reduceEqDiff, Nat.reduceLT, Nat.reduceAdd, Nat.reduceSub, Nat.reduceMul, Int32.reduceLT, Int32.reduceLE, Int32.reduceToNatClampNeg, Int32.reduceAdd, Int32.reduceSub, implies_true, forall_const, isIn_e, bit_e, lits, hB', hn, lt_irr]
    exact hQ h' hS hq' hT
end TAKE
