def tfF (_ : Nat) : Bool := false
def tfK (k : Nat) : Bool := k == 109
def sfF (f : Nat) : Bool := f == 1026 || f == 1027 || f == 1028 || f == 1029 || f == 1030
def sfK (k : Nat) : Bool := k == 103 || k == 108 || k == 109
theorem sf_sF : ∀ f, isSf f = false → sfF f = false := by
  intro f q
  unfold isSf at q
  unfold sfF
  simp at q ⊢
  omega
theorem sf_sK : ∀ k, isSk k = false → sfK k = false := by
  intro f q
  unfold isSk at q
  unfold sfK
  simp at q ⊢
  omega
theorem tf_fF : ∀ f, sfF f = false → tfF f = false := fun _ _ => rfl
theorem tf_fK : ∀ k, sfK k = false → tfK k = false := by
  intro f q
  unfold sfK at q
  unfold tfK
  simp at q ⊢
  omega
theorem tl_fF : ∀ f, sfF f = false → tlF f = false := by
  intro f q
  unfold sfF at q
  unfold tlF
  simp at q ⊢
  omega
theorem tl_fK : ∀ k, sfK k = false → tlK k = false := by
  intro f q
  unfold sfK at q
  unfold tlK
  simp at q ⊢
  omega
theorem rr_fF : ∀ f, sfF f = false → rrF f = false := by
  intro f q
  unfold sfF at q
  unfold rrF
  simp at q ⊢
  omega
theorem rr_fK : ∀ k, sfK k = false → crK k = false := fun _ _ => rfl
section SIFT
variable {x y b0 s0 np na nm nr ne : Nat} {g : Nat → Nat → Nat} {m : Nat → Nat} {h h1 : Hp} {M : Nat → List Nat} {N : Nat}
theorem vaF_S (e : eqS h h1) (m : Nat → Nat) : vaF h1 m = vaF h m := by
  funext y np na L p k i
  have E := eqS_l e
  unfold vaF mgF mcN
  simp only [E]
/-- whether a group is kept by a rule, or by none -/
def KPr (h : Hp) (m : Nat → Nat) (y np na p : Nat) (g : Nat → Nat → Nat) (ro : Option Nat) (L : List Nat) (k : Nat) : Prop := ∀ r, ro = some r → (grA (grN (fun j => (aL h 399 (g 12 r) j).toInt32) (ln h (g 12 r)))).2.2.2 (gtE (vaF h m y np na L p k))
def jdv (h : Hp) (m : Nat → Nat) : Option Nat → Nat
  | none => 0
  | some r => (aI h 152 (m 152) r).toNatClampNeg - 1
theorem tellC_e (hJ : JA x y b0 s0 np na nm nr ne g m h) (hG : GQ h g na N M) (hN : N ≤ 128) {j : Nat} (hj : j < N) (hl : (M j).length ≤ 24) {p k : Nat} (hp : p < np) (hk : k < 128) (hw : whN h m ((M j).getD 0 0) = k / 8) (Q : Hp → Prop) (hQ : ∀ h', eqX tfF tfK h h' → (∀ i, i < 8 → aI h' 109 (g 0 13) i = vaF h m y np na (M j) p k i) → Q h') : w_X10_tellFields (some x) (some (g 1 p)) (nI j) h Q := by
  have hB := hJ.2.1
  unfold JS at hB
  have hC := hJ.2.2.1.1
  have hC0 := hJ.cb
  have hbd := hJ.2.2.1.2
  have hW := hJ.2.2.2.2.2.1
  have hE := hJ.2.2.2.2.2.2.1
  have qp := plF hJ hp
  obtain ⟨f0, mem⟩ : 0 < (M j).length ∧ ∀ i, i < (M j).length → (M j).getD i 0 < na := by
    obtain ⟨-, st, hst⟩ := hG
    exact ⟨(hst j hj).1, fun i hi => ((hst j hj).2.2.2.2 i hi).1⟩
  have q0 := asF hJ (mem 0 f0)
  have we : aI h 133 (m 133) ((M j).getD 0 0) = nI (k / 8) := by
    rw [vp_nN (hW.w_wha _ (mem 0 f0))]
    exact congrArg nI hw
  have c16 := cnF (show k / 8 < 16 by omega) (Nat.le_refl 16) (by decide)
  have py := hJ.2.2.2.1
  have cst : ∀ i, i < 8 → vp_in (nI i) 8 ∧ (nI i).toNatClampNeg = i := fun i hi => ⟨vp_in_nI hi (by decide), nI_clamp (by omega)⟩
  have L0 : vp_in (0 : Int32) 8 ∧ (0 : Int32).toNatClampNeg = 0 := cst 0 (by decide)
  have L1 : vp_in (1 : Int32) 8 ∧ (1 : Int32).toNatClampNeg = 1 := cst 1 (by decide)
  have L2 : vp_in (2 : Int32) 8 ∧ (2 : Int32).toNatClampNeg = 2 := cst 2 (by decide)
  have L3 : vp_in (3 : Int32) 8 ∧ (3 : Int32).toNatClampNeg = 3 := cst 3 (by decide)
  have L4 : vp_in (4 : Int32) 8 ∧ (4 : Int32).toNatClampNeg = 4 := cst 4 (by decide)
  have L5 : vp_in (5 : Int32) 8 ∧ (5 : Int32).toNatClampNeg = 5 := cst 5 (by decide)
  have L6 : vp_in (6 : Int32) 8 ∧ (6 : Int32).toNatClampNeg = 6 := cst 6 (by decide)
  have L7 : vp_in (7 : Int32) 8 ∧ (7 : Int32).toNatClampNeg = 7 := cst 7 (by decide)
  have tf_bF : ∀ f, isBf f = false → tfF f = false := fun _ _ => rfl
  have tf_bK : ∀ k, isBk k = false → tfK k = false := by
    intro k q
    unfold isBk isSk at q
    unfold tfK
    simp at q ⊢
    omega
  unfold w_X10_tellFields n_X10_tellFields_0
  simp (config := {decide := true}) only [gI_e, gR_e, pI_e, pZ_e, pR_e, ldI_e, ldZ_e, ldL_e, ldR_e, stI_e, stZ_e, stL_e, stR_e, alN_e, nwA_e, nwO_e, dvI_e, rmI_e, oV_e, oN_e, lt_e, rZ_e, br_T, br_F, fR_sI, aI_sI, aL_sI, aR_sI, kd_sI, ln_sI, hn_sI, hm_sI, fI_sI_n, fI_sR, aI_sR, aL_sR, aR_sR, kd_sR, ln_sR, hn_sR, hm_sR, fR_sR_n, fI_tI, fR_tI, aL_tI, aR_tI, kd_tI, ln_tI, hn_tI, hm_tI, aI_tI_n, fI_tL, fR_tL, aI_tL, aR_tL, kd_tL, ln_tL, hn_tL, hm_tL, aL_tL_n, fI_tR, fR_tR, aI_tR, aL_tR, kd_tR, ln_tR, hn_tR, hm_tR, aR_tR_n, hn_nw, hm_nw, rc400, rc403, rc404, rc405, rc407, rc409, rc420, rc440, bI_0, bI_1, bI_T, bI_F, iF_T, iF_F, br_not, le_nlt, not_true_eq_false, not_false_eq_true, and_self, and_true, true_and, and_false, false_and, or_true, true_or, or_false, false_or, ne_eq, reduceCtorEq, Nat.reduceLeDiff, Nat.reduceEqDiff, Nat.reduceLT, Nat.reduceAdd, Nat.reduceSub, Nat.reduceMul, Int32.reduceLT, Int32.reduceLE, Int32.reduceToNatClampNeg, Int32.reduceAdd, Int32.reduceSub, implies_true, forall_const, isIn_e, bit_e, lits, hB]
  refine firstC_e hC0 hG hN hj _ ?_
  simp (config := {decide := true}) only [gI_e, gR_e, pI_e, pZ_e, pR_e, ldI_e, ldZ_e, ldL_e, ldR_e, stI_e, stZ_e, stL_e, stR_e, alN_e, nwA_e, nwO_e, dvI_e, rmI_e, oV_e, oN_e, lt_e, rZ_e, br_T, br_F, fR_sI, aI_sI, aL_sI, aR_sI, kd_sI, ln_sI, hn_sI, hm_sI, fI_sI_n, fI_sR, aI_sR, aL_sR, aR_sR, kd_sR, ln_sR, hn_sR, hm_sR, fR_sR_n, fI_tI, fR_tI, aL_tI, aR_tI, kd_tI, ln_tI, hn_tI, hm_tI, aI_tI_n, fI_tL, fR_tL, aI_tL, aR_tL, kd_tL, ln_tL, hn_tL, hm_tL, aL_tL_n, fI_tR, fR_tR, aI_tR, aL_tR, kd_tR, ln_tR, hn_tR, hm_tR, aR_tR_n, hn_nw, hm_nw, rc400, rc403, rc404, rc405, rc407, rc409, rc420, rc440, bI_0, bI_1, bI_T, bI_F, iF_T, iF_F, br_not, le_nlt, not_true_eq_false, not_false_eq_true, and_self, and_true, true_and, and_false, false_and, or_true, true_or, or_false, false_or, ne_eq, reduceCtorEq, Nat.reduceLeDiff, Nat.reduceEqDiff, Nat.reduceLT, Nat.reduceAdd, Nat.reduceSub, Nat.reduceMul, Int32.reduceLT, Int32.reduceLE, Int32.reduceToNatClampNeg, Int32.reduceAdd, Int32.reduceSub, implies_true, forall_const, isIn_e, bit_e, lits, hB, q0, we]
  refine sizeC_e hC0 hG hN hj _ ?_
  have e1 : eqX tfF tfK h (tI (tI h 109 (g 0 13) 0 (nI (M j).length)) 109 (g 0 13) 1 (fI h 647 (g 1 p))) := ((eqX.rf h).tI rfl _ _ _).tI rfl _ _ _
  simp (config := {decide := true}) only [gI_e, gR_e, pI_e, pZ_e, pR_e, ldI_e, ldZ_e, ldL_e, ldR_e, stI_e, stZ_e, stL_e, stR_e, alN_e, nwA_e, nwO_e, dvI_e, rmI_e, oV_e, oN_e, lt_e, rZ_e, br_T, br_F, fR_sI, aI_sI, aL_sI, aR_sI, kd_sI, ln_sI, hn_sI, hm_sI, fI_sI_n, fI_sR, aI_sR, aL_sR, aR_sR, kd_sR, ln_sR, hn_sR, hm_sR, fR_sR_n, fI_tI, fR_tI, aL_tI, aR_tI, kd_tI, ln_tI, hn_tI, hm_tI, aI_tI_n, fI_tL, fR_tL, aI_tL, aR_tL, kd_tL, ln_tL, hn_tL, hm_tL, aL_tL_n, fI_tR, fR_tR, aI_tR, aL_tR, kd_tR, ln_tR, hn_tR, hm_tR, aR_tR_n, hn_nw, hm_nw, rc400, rc403, rc404, rc405, rc407, rc409, rc420, rc440, bI_0, bI_1, bI_T, bI_F, iF_T, iF_F, br_not, le_nlt, not_true_eq_false, not_false_eq_true, and_self, and_true, true_and, and_false, false_and, or_true, true_or, or_false, false_or, ne_eq, reduceCtorEq, Nat.reduceLeDiff, Nat.reduceEqDiff, Nat.reduceLT, Nat.reduceAdd, Nat.reduceSub, Nat.reduceMul, Int32.reduceLT, Int32.reduceLE, Int32.reduceToNatClampNeg, Int32.reduceAdd, Int32.reduceSub, implies_true, forall_const, isIn_e, bit_e, lits, hB, qp, L0, L1, L2, L3, L4, L5, L6, L7]
  have C1 := hC0.of (eqX.b tf_bF tf_bK e1)
  have G1 := hG.xx e1 rfl rfl
  refine hearthsC_e C1 G1 hN hj _ ?_
  simp (config := {decide := true}) only [gI_e, gR_e, pI_e, pZ_e, pR_e, ldI_e, ldZ_e, ldL_e, ldR_e, stI_e, stZ_e, stL_e, stR_e, alN_e, nwA_e, nwO_e, dvI_e, rmI_e, oV_e, oN_e, lt_e, rZ_e, br_T, br_F, fR_sI, aI_sI, aL_sI, aR_sI, kd_sI, ln_sI, hn_sI, hm_sI, fI_sI_n, fI_sR, aI_sR, aL_sR, aR_sR, kd_sR, ln_sR, hn_sR, hm_sR, fR_sR_n, fI_tI, fR_tI, aL_tI, aR_tI, kd_tI, ln_tI, hn_tI, hm_tI, aI_tI_n, fI_tL, fR_tL, aI_tL, aR_tL, kd_tL, ln_tL, hn_tL, hm_tL, aL_tL_n, fI_tR, fR_tR, aI_tR, aL_tR, kd_tR, ln_tR, hn_tR, hm_tR, aR_tR_n, hn_nw, hm_nw, rc400, rc403, rc404, rc405, rc407, rc409, rc420, rc440, bI_0, bI_1, bI_T, bI_F, iF_T, iF_F, br_not, le_nlt, not_true_eq_false, not_false_eq_true, and_self, and_true, true_and, and_false, false_and, or_true, true_or, or_false, false_or, ne_eq, reduceCtorEq, Nat.reduceLeDiff, Nat.reduceEqDiff, Nat.reduceLT, Nat.reduceAdd, Nat.reduceSub, Nat.reduceMul, Int32.reduceLT, Int32.reduceLE, Int32.reduceToNatClampNeg, Int32.reduceAdd, Int32.reduceSub, implies_true, forall_const, isIn_e, bit_e, lits, hB, qp, L0, L1, L2, L3, L4, L5, L6, L7]
  have e2 : ∀ v w, eqX tfF tfK h (tI (tI (tI (tI h 109 (g 0 13) 0 (nI (M j).length)) 109 (g 0 13) 1 (fI h 647 (g 1 p))) 109 (g 0 13) 2 v) 109 (g 0 13) 3 w) := fun v w => (e1.tI rfl _ _ _).tI rfl _ _ _
  have C2 := fun v w => hC0.of (eqX.b tf_bF tf_bK (e2 v w))
  have G2 := fun v w => hG.xx (e2 v w) rfl rfl
  have jc := joinC_e (C2 (acI (fun i => fI h 7 (g 3 ((M j).getD i 0))) (M j).length) (fI h 646 (g 1 p))) (G2 _ _) hN hj (d := 0) (by decide) hl
  have j0 : jnV 0 = 120 := rfl
  rw [j0] at jc
  refine jc _ ?_
  have sm : ∀ v w, mgF (tI (tI (tI (tI h 109 (g 0 13) 0 (nI (M j).length)) 109 (g 0 13) 1 (fI h 647 (g 1 p))) 109 (g 0 13) 2 v) 109 (g 0 13) 3 w) m (M j) = mgF h m (M j) := by
    intro v w
    funext i
    unfold mgF mcN
    simp (config := {decide := true}) only [fR_sI, aI_sI, aL_sI, aR_sI, kd_sI, ln_sI, hn_sI, hm_sI, fI_sI_n, fI_sR, aI_sR, aL_sR, aR_sR, kd_sR, ln_sR, hn_sR, hm_sR, fR_sR_n, fI_tI, fR_tI, aL_tI, aR_tI, kd_tI, ln_tI, hn_tI, hm_tI, aI_tI_n, fI_tL, fR_tL, aI_tL, aR_tL, kd_tL, ln_tL, hn_tL, hm_tL, aL_tL_n, fI_tR, fR_tR, aI_tR, aL_tR, kd_tR, ln_tR, hn_tR, hm_tR, aR_tR_n, hn_nw, hm_nw]
  rw [sm]
  have yes := hJ.2.2.2.2.1.d_yes p (k / 8) hp (by omega)
  have pk1 := py.py_at p hp
  have pk2 := py.py_kd p hp
  have pk3 := py.py_ln p hp
  simp (config := {decide := true}) only [gI_e, gR_e, pI_e, pZ_e, pR_e, ldI_e, ldZ_e, ldL_e, ldR_e, stI_e, stZ_e, stL_e, stR_e, alN_e, nwA_e, nwO_e, dvI_e, rmI_e, oV_e, oN_e, lt_e, rZ_e, br_T, br_F, fR_sI, aI_sI, aL_sI, aR_sI, kd_sI, ln_sI, hn_sI, hm_sI, fI_sI_n, fI_sR, aI_sR, aL_sR, aR_sR, kd_sR, ln_sR, hn_sR, hm_sR, fR_sR_n, fI_tI, fR_tI, aL_tI, aR_tI, kd_tI, ln_tI, hn_tI, hm_tI, aI_tI_n, fI_tL, fR_tL, aI_tL, aR_tL, kd_tL, ln_tL, hn_tL, hm_tL, aL_tL_n, fI_tR, fR_tR, aI_tR, aL_tR, kd_tR, ln_tR, hn_tR, hm_tR, aR_tR_n, hn_nw, hm_nw, rc400, rc403, rc404, rc405, rc407, rc409, rc420, rc440, bI_0, bI_1, bI_T, bI_F, iF_T, iF_F, br_not, le_nlt, not_true_eq_false, not_false_eq_true, and_self, and_true, true_and, and_false, false_and, or_true, true_or, or_false, false_or, ne_eq, reduceCtorEq, Nat.reduceLeDiff, Nat.reduceEqDiff, Nat.reduceLT, Nat.reduceAdd, Nat.reduceSub, Nat.reduceMul, Int32.reduceLT, Int32.reduceLE, Int32.reduceToNatClampNeg, Int32.reduceAdd, Int32.reduceSub, implies_true, forall_const, isIn_e, bit_e, lits, hB, hC, qp, L0, L1, L2, L3, L4, L5, L6, L7, c16, pk1, pk2, pk3, yes]
  refine hQ _ ((((((((eqX.rf h).tI rfl _ _ _).tI rfl _ _ _).tI rfl _ _ _).tI rfl _ _ _).tI rfl _ _ _).tI rfl _ _ _).tI rfl _ _ _ |>.tI rfl _ _ _) (fun i hi => ?_)
  simp (config := {decide := true}) only [fI_sI_e, fR_sR_e, aI_tI_e, aL_tL_e, aR_tR_e, true_and]
  obtain rfl | rfl | rfl | rfl | rfl | rfl | rfl | rfl : i = 0 ∨ i = 1 ∨ i = 2 ∨ i = 3 ∨ i = 4 ∨ i = 5 ∨ i = 6 ∨ i = 7 := by omega
  · rfl
  · exact hE.e_be p hp
  · exact acI_congr (fun i hi => hE.e_hb _ (mem i hi))
  · exact hE.e_hs p hp
  · rfl
  · rfl
  · rfl
  · rfl
end SIFT
