/-- what dropping a group leaves -/
def drH (g : Nat → Nat → Nat) (pl : Nat) (L : List Nat) : Nat → Hp → Hp
  | 0, h => h
  | i + 1, h => sR (drH g pl L i h) 16 (g 3 (L.getD i 0)) (some pl)
theorem eqU_dr {g : Nat → Nat → Nat} {pl : Nat} {L : List Nat} {h h1 : Hp} (a : eqU h h1) : ∀ i, eqU h (drH g pl L i h1) := by
  intro i
  induction i with
  | zero => exact a
  | succ i ih => exact eqU_sR ih (Or.inr (Or.inr rfl)) _
theorem eqU_lk {g : Nat → Nat → Nat} {A N : Nat} {L : List Nat} {h h1 : Hp} (a : eqU h h1) (hA : kd h A = 0) : ∀ i, eqU h (lkH g A N L i h1) := by
  intro i
  induction i with
  | zero => exact a
  | succ i ih => exact eqU_sR (eqU_tR ih (Or.inl hA) _ _) (Or.inr (Or.inl rfl)) _
theorem lk_kd (g : Nat → Nat → Nat) (A N : Nat) (L : List Nat) (h : Hp) : ∀ i, kd (lkH g A N L i h) = kd h := by
  intro i
  induction i with
  | zero => rfl
  | succ i ih => exact ih
theorem lk_ln (g : Nat → Nat → Nat) (A N : Nat) (L : List Nat) (h : Hp) : ∀ i, ln (lkH g A N L i h) = ln h := by
  intro i
  induction i with
  | zero => rfl
  | succ i ih => exact ih
theorem lk_fI (g : Nat → Nat → Nat) (A N : Nat) (L : List Nat) (h : Hp) : ∀ i, fI (lkH g A N L i h) = fI h := by
  intro i
  induction i with
  | zero => rfl
  | succ i ih => exact ih
theorem dr_kd (g : Nat → Nat → Nat) (pl : Nat) (L : List Nat) (h : Hp) : ∀ i, kd (drH g pl L i h) = kd h := by
  intro i
  induction i with
  | zero => rfl
  | succ i ih => exact ih
theorem eqU_mk {h : Hp} (hz : ∀ a, hn h ≤ a → kd h a = 0) (na pl : Nat) (c d v now hs : Int32) (n : Nat) : eqU h (mkH h na pl c d v now hs n) := by
  have z := hz _ (Nat.le_refl _)
  have e1 : eqU h (nw h 1 19) := eqU_nw (eqU.rf h) z 1 19
  refine eqU_nw (eqU_sI (eqU_sI (eqU_sI (eqU_sI (eqU_sI (eqU_sR (eqU_sI (eqU_sI (eqU_sI (eqU_sI e1 (Or.inl z) _) (Or.inl z) _) (Or.inl z) _) (Or.inl z) _) (Or.inl z) _) (Or.inl z) _) (Or.inl z) _) (Or.inl z) _) (Or.inl z) _) (Or.inl z) _) ?_ 420 n
  show kd (nw h 1 19) (hn h + 1) = 0
  rw [kd_nw_o _ _ _ _ (by omega)]
  exact hz _ (by omega)
section MRG2
variable {x y b0 s0 np na nm nr ne : Nat} {g : Nat → Nat → Nat} {m : Nat → Nat} {h h1 : Hp} {M : Nat → List Nat} {N : Nat}
theorem JM.u (hM : JM y m h) (e : eqU h h1) : JM y m h1 := by
  have hA := hM
  unfold JM at hA
  have e1 : ∀ a, kd h a ≠ 0 → kd h1 a = kd h a := fun a q => (e a q).1
  have e2 : ∀ a, kd h a ≠ 0 → ln h1 a = ln h a := fun a q => (e a q).2.1
  have e4 : ∀ f a, f ≠ 15 → f ≠ 16 → kd h a ≠ 0 → fR h1 f a = fR h f a := fun f a r s q => (e a q).2.2.2.1 f r s
  unfold JM
  simp (config := {decide := true}) only [e1, e2, e4, hA, Nat.reduceLeDiff, Nat.reduceEqDiff, Nat.reduceLT, ne_eq, not_false_eq_true, not_true_eq_false, reduceCtorEq, and_self]
theorem dropAtC_e (hM : JM y m h) (hC : CB x na g m h) (hG : GQ h g na N M) (hN : N ≤ 128) {j : Nat} (hj : j < N) {pl : Nat} (Q : Hp → Prop) (hQ : Q (drH g pl (M j) (M j).length h)) : w_X2_dropAt (some (g 0 9)) (nI j) (some pl) h Q := by
  have hB := hC.1
  unfold JS at hB
  obtain ⟨-, st, hst⟩ := id hG
  obtain ⟨q1, q2, q3, q4, q5⟩ := hst j hj
  have c := cnF (show j < 161 by omega) (Nat.le_refl 161) (by decide)
  have c1 := cnF (show j + 1 < 161 by omega) (Nat.le_refl 161) (by decide)
  have eq1 := eqU_dr (g := g) (pl := pl) (L := M j) (eqU.rf h)
  unfold w_X2_dropAt n_X2_dropAt_0
  simp only [gI_e, gR_e, pI_e, pZ_e, pR_e, ldI_e, ldZ_e, ldL_e, ldR_e, stI_e, stZ_e, stL_e, stR_e, alN_e, nwA_e, nwO_e, dvI_e, rmI_e, oV_e, oN_e, lt_e, rZ_e, br_T, br_F, fR_sI, aI_sI, aL_sI, aR_sI, kd_sI, ln_sI, hn_sI, hm_sI, fI_sI_n, fI_sR, aI_sR, aL_sR, aR_sR, kd_sR, ln_sR, hn_sR, hm_sR, fR_sR_n, fI_tI, fR_tI, aL_tI, aR_tI, kd_tI, ln_tI, hn_tI, hm_tI, aI_tI_n, fI_tL, fR_tL, aI_tL, aR_tL, kd_tL, ln_tL, hn_tL, hm_tL, aL_tL_n, fI_tR, fR_tR, aI_tR, aL_tR, kd_tR, ln_tR, hn_tR, hm_tR, aR_tR_n, hn_nw, hm_nw, rc400, rc403, rc404, rc405, rc407, rc409, rc420, rc440, bI_0, bI_1, bI_T, bI_F, iF_T, iF_F, br_not, le_nlt, not_true_eq_false, not_false_eq_true, and_self, and_true, true_and, and_false, false_and, or_true, true_or, or_false, false_or, ne_eq, reduceCtorEq, Nat.reduceLeDiff, Nat.reduceEqDiff, Nat.reduceLT, Nat.reduceAdd, Nat.reduceSub, Nat.reduceMul, Int32.reduceLT, Int32.reduceLE, Int32.reduceToNatClampNeg, Int32.reduceAdd, Int32.reduceSub, implies_true, forall_const, isIn_e, bit_e, lits, hB, c, q3]
  unfold l_X2_dropAt_7
  refine Lo.run (M j).length (fun t => nI (st j + t)) (fun t => drH g pl (M j) t h) ?_ ?_ rfl rfl
  · intro t ht K hK
    have ct := cnF (show st j + t < st j + (M j).length by omega) (show st j + (M j).length ≤ 160 by omega) (by decide)
    obtain ⟨t1, t2⟩ := q5 t ht
    have b := (hC.2.1 _ t1).1
    have e := eq1 t
    have hS' := (hC.u hM e).1
    have a102 : aI (drH g pl (M j) t h) 102 (g 0 15) (j + 1) = nI (st j + (M j).length) := by
      rw [(e (g 0 15) (by simp only [hB]; decide)).2.2.2.2.1 102]; exact q4
    have a400 : aR (drH g pl (M j) t h) 400 (g 0 14) (st j + t) = some (g 3 ((M j).getD t 0)) := by
      rw [(e (g 0 14) (by simp only [hB]; decide)).2.2.2.2.2.1 400 (by decide)]; exact t2
    have kb : kd (drH g pl (M j) t h) (g 3 ((M j).getD t 0)) = 1 := by
      rw [dr_kd]; exact b
    have hK2 : K (nI (st j + (t + 1))) (sR (drH g pl (M j) t h) 16 (g 3 ((M j).getD t 0)) (some pl)) := hK
    clear hK
    generalize drH g pl (M j) t h = H at *
    unfold JS at hS'
    unfold b_X2_dropAt_7
    simp only [gI_e, gR_e, pI_e, pZ_e, pR_e, ldI_e, ldZ_e, ldL_e, ldR_e, stI_e, stZ_e, stL_e, stR_e, alN_e, nwA_e, nwO_e, dvI_e, rmI_e, oV_e, oN_e, lt_e, rZ_e, br_T, br_F, fR_sI, aI_sI, aL_sI, aR_sI, kd_sI, ln_sI, hn_sI, hm_sI, fI_sI_n, fI_sR, aI_sR, aL_sR, aR_sR, kd_sR, ln_sR, hn_sR, hm_sR, fR_sR_n, fI_tI, fR_tI, aL_tI, aR_tI, kd_tI, ln_tI, hn_tI, hm_tI, aI_tI_n, fI_tL, fR_tL, aI_tL, aR_tL, kd_tL, ln_tL, hn_tL, hm_tL, aL_tL_n, fI_tR, fR_tR, aI_tR, aL_tR, kd_tR, ln_tR, hn_tR, hm_tR, aR_tR_n, hn_nw, hm_nw, rc400, rc403, rc404, rc405, rc407, rc409, rc420, rc440, bI_0, bI_1, bI_T, bI_F, iF_T, iF_F, br_not, le_nlt, not_true_eq_false, not_false_eq_true, and_self, and_true, true_and, and_false, false_and, or_true, true_or, or_false, false_or, ne_eq, reduceCtorEq, Nat.reduceLeDiff, Nat.reduceEqDiff, Nat.reduceLT, Nat.reduceAdd, Nat.reduceSub, Nat.reduceMul, Int32.reduceLT, Int32.reduceLE, Int32.reduceToNatClampNeg, Int32.reduceAdd, Int32.reduceSub, implies_true, forall_const, isIn_e, bit_e, lits, hS', c, c1, a102, ct, a400, kb]
    exact hK2
  · intro K
    have e := eq1 (M j).length
    have hS' := (hC.u hM e).1
    have a102 : aI (drH g pl (M j) (M j).length h) 102 (g 0 15) (j + 1) = nI (st j + (M j).length) := by
      rw [(e (g 0 15) (by simp only [hB]; decide)).2.2.2.2.1 102]; exact q4
    generalize drH g pl (M j) (M j).length h = H at *
    unfold JS at hS'
    unfold b_X2_dropAt_7
    simp only [gI_e, gR_e, pI_e, pZ_e, pR_e, ldI_e, ldZ_e, ldL_e, ldR_e, stI_e, stZ_e, stL_e, stR_e, alN_e, nwA_e, nwO_e, dvI_e, rmI_e, oV_e, oN_e, lt_e, rZ_e, br_T, br_F, fR_sI, aI_sI, aL_sI, aR_sI, kd_sI, ln_sI, hn_sI, hm_sI, fI_sI_n, fI_sR, aI_sR, aL_sR, aR_sR, kd_sR, ln_sR, hn_sR, hm_sR, fR_sR_n, fI_tI, fR_tI, aL_tI, aR_tI, kd_tI, ln_tI, hn_tI, hm_tI, aI_tI_n, fI_tL, fR_tL, aI_tL, aR_tL, kd_tL, ln_tL, hn_tL, hm_tL, aL_tL_n, fI_tR, fR_tR, aI_tR, aL_tR, kd_tR, ln_tR, hn_tR, hm_tR, aR_tR_n, hn_nw, hm_nw, rc400, rc403, rc404, rc405, rc407, rc409, rc420, rc440, bI_0, bI_1, bI_T, bI_F, iF_T, iF_F, br_not, le_nlt, not_true_eq_false, not_false_eq_true, and_self, and_true, true_and, and_false, false_and, or_true, true_or, or_false, false_or, ne_eq, reduceCtorEq, Nat.reduceLeDiff, Nat.reduceEqDiff, Nat.reduceLT, Nat.reduceAdd, Nat.reduceSub, Nat.reduceMul, Int32.reduceLT, Int32.reduceLE, Int32.reduceToNatClampNeg, Int32.reduceAdd, Int32.reduceSub, implies_true, forall_const, isIn_e, bit_e, lits, hS', c, c1, a102, lt_irr]
    exact hQ
theorem merge_e (hM : JM y m h) (hC : CB x na g m h) (hG : GQ h g na N M) (hN : N ≤ 128) {j d : Nat} (hj : j < N) (hd : d < 3) (hl : (M j).length ≤ 24) {n : Nat} (n160 : n < 160) (hx : fI h 1293 x = nI n) (hz0 : ∀ a, hn h ≤ a → kd h a = 0) (hjd : aI h 103 (g 0 16) j = jnV d) {pl : Nat} (Q : Hp → Prop) (hQ : Q (mgH g x h n pl (fI h 2 (g 3 ((M j).getD 0 0))) (fI h 3 (g 3 ((M j).getD 0 0))) (nI (jvN (mgF h m (M j)) (M j).length (rkN (M j).length d))) (fI h 1297 x) (acI (fun i => fI h 7 (g 3 ((M j).getD i 0))) (M j).length) (M j))) : w_X10_merge (some x) (nI j) (some pl) h Q := by
  have hB := hC.1
  unfold JS at hB
  have hz := hz0 _ (Nat.le_refl _)
  have f0 : 0 < (M j).length := by
    obtain ⟨-, st, hst⟩ := hG
    exact (hst j hj).1
  have m0 : (M j).getD 0 0 < na := by
    obtain ⟨-, st, hst⟩ := hG
    exact ((hst j hj).2.2.2.2 0 f0).1
  have q0 := (hC.2.1 _ m0).1
  have c := cnF (show j < 160 by omega) (Nat.le_refl 160) (by decide)
  have cn := cnF n160 (Nat.le_refl 160) (by decide)
  unfold w_X10_merge n_X10_merge_0
  simp (config := {decide := true}) only [gI_e, gR_e, pI_e, pZ_e, pR_e, ldI_e, ldZ_e, ldL_e, ldR_e, stI_e, stZ_e, stL_e, stR_e, alN_e, nwA_e, nwO_e, dvI_e, rmI_e, oV_e, oN_e, lt_e, rZ_e, br_T, br_F, fR_sI, aI_sI, aL_sI, aR_sI, kd_sI, ln_sI, hn_sI, hm_sI, fI_sI_n, fI_sR, aI_sR, aL_sR, aR_sR, kd_sR, ln_sR, hn_sR, hm_sR, fR_sR_n, fI_tI, fR_tI, aL_tI, aR_tI, kd_tI, ln_tI, hn_tI, hm_tI, aI_tI_n, fI_tL, fR_tL, aI_tL, aR_tL, kd_tL, ln_tL, hn_tL, hm_tL, aL_tL_n, fI_tR, fR_tR, aI_tR, aL_tR, kd_tR, ln_tR, hn_tR, hm_tR, aR_tR_n, hn_nw, hm_nw, rc400, rc403, rc404, rc405, rc407, rc409, rc420, rc440, bI_0, bI_1, bI_T, bI_F, iF_T, iF_F, br_not, le_nlt, not_true_eq_false, not_false_eq_true, and_self, and_true, true_and, and_false, false_and, or_true, true_or, or_false, false_or, ne_eq, reduceCtorEq, Nat.reduceLeDiff, Nat.reduceEqDiff, Nat.reduceLT, Nat.reduceAdd, Nat.reduceSub, Nat.reduceMul, Int32.reduceLT, Int32.reduceLE, Int32.reduceToNatClampNeg, Int32.reduceAdd, Int32.reduceSub, implies_true, forall_const, isIn_e, bit_e, lits, hB]
  refine firstC_e hC hG hN hj _ ?_
  simp (config := {decide := true}) only [gI_e, gR_e, pI_e, pZ_e, pR_e, ldI_e, ldZ_e, ldL_e, ldR_e, stI_e, stZ_e, stL_e, stR_e, alN_e, nwA_e, nwO_e, dvI_e, rmI_e, oV_e, oN_e, lt_e, rZ_e, br_T, br_F, fR_sI, aI_sI, aL_sI, aR_sI, kd_sI, ln_sI, hn_sI, hm_sI, fI_sI_n, fI_sR, aI_sR, aL_sR, aR_sR, kd_sR, ln_sR, hn_sR, hm_sR, fR_sR_n, fI_tI, fR_tI, aL_tI, aR_tI, kd_tI, ln_tI, hn_tI, hm_tI, aI_tI_n, fI_tL, fR_tL, aI_tL, aR_tL, kd_tL, ln_tL, hn_tL, hm_tL, aL_tL_n, fI_tR, fR_tR, aI_tR, aL_tR, kd_tR, ln_tR, hn_tR, hm_tR, aR_tR_n, hn_nw, hm_nw, rc400, rc403, rc404, rc405, rc407, rc409, rc420, rc440, bI_0, bI_1, bI_T, bI_F, iF_T, iF_F, br_not, le_nlt, not_true_eq_false, not_false_eq_true, and_self, and_true, true_and, and_false, false_and, or_true, true_or, or_false, false_or, ne_eq, reduceCtorEq, Nat.reduceLeDiff, Nat.reduceEqDiff, Nat.reduceLT, Nat.reduceAdd, Nat.reduceSub, Nat.reduceMul, Int32.reduceLT, Int32.reduceLE, Int32.reduceToNatClampNeg, Int32.reduceAdd, Int32.reduceSub, implies_true, forall_const, isIn_e, bit_e, lits, hB, c, hjd]
  refine joinC_e hC hG hN hj hd hl _ ?_
  generalize nI (jvN (mgF h m (M j)) (M j).length (rkN (M j).length d)) = v at *
  unfold w_X0_init n_X0_init_0
  simp (config := {decide := true}) only [gI_e, gR_e, pI_e, pZ_e, pR_e, ldI_e, ldZ_e, ldL_e, ldR_e, stI_e, stZ_e, stL_e, stR_e, alN_e, nwA_e, nwO_e, dvI_e, rmI_e, oV_e, oN_e, lt_e, rZ_e, br_T, br_F, fR_sI, aI_sI, aL_sI, aR_sI, kd_sI, ln_sI, hn_sI, hm_sI, fI_sI_n, fI_sR, aI_sR, aL_sR, aR_sR, kd_sR, ln_sR, hn_sR, hm_sR, fR_sR_n, fI_tI, fR_tI, aL_tI, aR_tI, kd_tI, ln_tI, hn_tI, hm_tI, aI_tI_n, fI_tL, fR_tL, aI_tL, aR_tL, kd_tL, ln_tL, hn_tL, hm_tL, aL_tL_n, fI_tR, fR_tR, aI_tR, aL_tR, kd_tR, ln_tR, hn_tR, hm_tR, aR_tR_n, hn_nw, hm_nw, rc400, rc403, rc404, rc405, rc407, rc409, rc420, rc440, bI_0, bI_1, bI_T, bI_F, iF_T, iF_F, br_not, le_nlt, not_true_eq_false, not_false_eq_true, and_self, and_true, true_and, and_false, false_and, or_true, true_or, or_false, false_or, ne_eq, reduceCtorEq, Nat.reduceLeDiff, Nat.reduceEqDiff, Nat.reduceLT, Nat.reduceAdd, Nat.reduceSub, Nat.reduceMul, Int32.reduceLT, Int32.reduceLE, Int32.reduceToNatClampNeg, Int32.reduceAdd, Int32.reduceSub, implies_true, forall_const, isIn_e, bit_e, lits, kd_nw, ln_nw, fI_nw, fR_nw, if_true, if_false, nn_f hz, hB, hx, q0]
  have z := hz
  have e0 : eqU h (nw h 1 19) := eqU_nw (eqU.rf h) z 1 19
  have eE := eqU_sI (eqU_sI (eqU_sI (eqU_sI (eqU_sR (eqU_sI (eqU_sI (eqU_sI (eqU_sI e0 (Or.inl z) (f := 14) (-1)) (Or.inl z) (f := 18) (-1)) (Or.inl z) (f := 0) (nI n)) (Or.inl z) (f := 6) 2) (Or.inl z) (f := 1) (some pl)) (Or.inl z) (f := 2) (fI h 2 (g 3 ((M j).getD 0 0)))) (Or.inl z) (f := 3) (fI h 3 (g 3 ((M j).getD 0 0)))) (Or.inl z) (f := 4) v) (Or.inl z) (f := 5) (fI h 1297 x)
  have hx0 : fI (nw h 1 19) 1293 x = nI n := by
    rw [fI_nw_o _ _ _ _ _ (fun e => by
      have := hB.1
      rw [e, hz] at this
      exact absurd this (by decide))]
    exact hx
  unfold mgH mkH at hQ
  have nE : hn (sI (sI (sI (sI (sR (sI (sI (sI (sI (nw h 1 19) 14 (hn h) (-1)) 18 (hn h) (-1)) 0 (hn h) (nI n)) 6 (hn h) 2) 1 (hn h) (some pl)) 2 (hn h) (fI h 2 (g 3 ((M j).getD 0 0)))) 3 (hn h) (fI h 3 (g 3 ((M j).getD 0 0)))) 4 (hn h) v) 5 (hn h) (fI h 1297 x)) = hn h + 1 := rfl
  have kE : kd (sI (sI (sI (sI (sR (sI (sI (sI (sI (nw h 1 19) 14 (hn h) (-1)) 18 (hn h) (-1)) 0 (hn h) (nI n)) 6 (hn h) 2) 1 (hn h) (some pl)) 2 (hn h) (fI h 2 (g 3 ((M j).getD 0 0)))) 3 (hn h) (fI h 3 (g 3 ((M j).getD 0 0)))) 4 (hn h) v) 5 (hn h) (fI h 1297 x)) = kd (nw h 1 19) := rfl
  have xE : fI (sI (sI (sI (sI (sR (sI (sI (sI (sI (nw h 1 19) 14 (hn h) (-1)) 18 (hn h) (-1)) 0 (hn h) (nI n)) 6 (hn h) 2) 1 (hn h) (some pl)) 2 (hn h) (fI h 2 (g 3 ((M j).getD 0 0)))) 3 (hn h) (fI h 3 (g 3 ((M j).getD 0 0)))) 4 (hn h) v) 5 (hn h) (fI h 1297 x)) 1293 x = nI n := by
    simp (config := {decide := true}) only [fR_sI, aI_sI, aL_sI, aR_sI, kd_sI, ln_sI, hn_sI, hm_sI, fI_sI_n, fI_sR, aI_sR, aL_sR, aR_sR, kd_sR, ln_sR, hn_sR, hm_sR, fR_sR_n, fI_tI, fR_tI, aL_tI, aR_tI, kd_tI, ln_tI, hn_tI, hm_tI, aI_tI_n, fI_tL, fR_tL, aI_tL, aR_tL, kd_tL, ln_tL, hn_tL, hm_tL, aL_tL_n, fI_tR, fR_tR, aI_tR, aL_tR, kd_tR, ln_tR, hn_tR, hm_tR, aR_tR_n, hn_nw, hm_nw]
    exact hx0
  generalize sI (sI (sI (sI (sR (sI (sI (sI (sI (nw h 1 19) 14 (hn h) (-1)) 18 (hn h) (-1)) 0 (hn h) (nI n)) 6 (hn h) 2) 1 (hn h) (some pl)) 2 (hn h) (fI h 2 (g 3 ((M j).getD 0 0)))) 3 (hn h) (fI h 3 (g 3 ((M j).getD 0 0)))) 4 (hn h) v) 5 (hn h) (fI h 1297 x) = E at *
  have kN : kd E (hn h) = 1 := by
    rw [kE]
    show (if hn h = hn h then 1 else _) = 1
    rw [if_pos rfl]
  have kA : kd E (hn h + 1) = 0 := by
    rw [kE, kd_nw_o _ _ _ _ (by omega)]
    exact hz0 _ (by omega)
  have hCE := hC.u hM eE
  have hGE := hG.u hC.1 eE
  refine hearthsC_e hCE hGE hN hj _ ?_
  have hs : acI (fun i => fI E 7 (g 3 ((M j).getD i 0))) (M j).length = acI (fun i => fI h 7 (g 3 ((M j).getD i 0))) (M j).length := by
    apply acI_congr
    intro i hi
    refine (eE _ ?_).2.2.1 7 (by decide)
    obtain ⟨-, st, hst⟩ := hG
    rw [(hC.2.1 _ ((hst j hj).2.2.2.2 i hi).1).1]
    decide
  rw [hs]
  generalize acI (fun i => fI h 7 (g 3 ((M j).getD i 0))) (M j).length = u at *
  have hBE := hCE.1
  unfold JS at hBE
  simp (config := {decide := true}) only [gI_e, gR_e, pI_e, pZ_e, pR_e, ldI_e, ldZ_e, ldL_e, ldR_e, stI_e, stZ_e, stL_e, stR_e, alN_e, nwA_e, nwO_e, dvI_e, rmI_e, oV_e, oN_e, lt_e, rZ_e, br_T, br_F, fR_sI, aI_sI, aL_sI, aR_sI, kd_sI, ln_sI, hn_sI, hm_sI, fI_sI_n, fI_sR, aI_sR, aL_sR, aR_sR, kd_sR, ln_sR, hn_sR, hm_sR, fR_sR_n, fI_tI, fR_tI, aL_tI, aR_tI, kd_tI, ln_tI, hn_tI, hm_tI, aI_tI_n, fI_tL, fR_tL, aI_tL, aR_tL, kd_tL, ln_tL, hn_tL, hm_tL, aL_tL_n, fI_tR, fR_tR, aI_tR, aL_tR, kd_tR, ln_tR, hn_tR, hm_tR, aR_tR_n, hn_nw, hm_nw, rc400, rc403, rc404, rc405, rc407, rc409, rc420, rc440, bI_0, bI_1, bI_T, bI_F, iF_T, iF_F, br_not, le_nlt, not_true_eq_false, not_false_eq_true, and_self, and_true, true_and, and_false, false_and, or_true, true_or, or_false, false_or, ne_eq, reduceCtorEq, Nat.reduceLeDiff, Nat.reduceEqDiff, Nat.reduceLT, Nat.reduceAdd, Nat.reduceSub, Nat.reduceMul, Int32.reduceLT, Int32.reduceLE, Int32.reduceToNatClampNeg, Int32.reduceAdd, Int32.reduceSub, implies_true, forall_const, isIn_e, bit_e, lits, kN, hBE]
  have eF : eqU h (sI E 7 (hn h) u) := eqU_sI eE (Or.inl z) _
  have nF : hn (sI E 7 (hn h) u) = hn h + 1 := nE
  have kF : kd (sI E 7 (hn h) u) = kd E := rfl
  have xF : fI (sI E 7 (hn h) u) 1293 x = nI n := by
    simp (config := {decide := true}) only [fR_sI, aI_sI, aL_sI, aR_sI, kd_sI, ln_sI, hn_sI, hm_sI, fI_sI_n, fI_sR, aI_sR, aL_sR, aR_sR, kd_sR, ln_sR, hn_sR, hm_sR, fR_sR_n, fI_tI, fR_tI, aL_tI, aR_tI, kd_tI, ln_tI, hn_tI, hm_tI, aI_tI_n, fI_tL, fR_tL, aI_tL, aR_tL, kd_tL, ln_tL, hn_tL, hm_tL, aL_tL_n, fI_tR, fR_tR, aI_tR, aL_tR, kd_tR, ln_tR, hn_tR, hm_tR, aR_tR_n, hn_nw, hm_nw]
    exact xE
  generalize sI E 7 (hn h) u = F at *
  have hCF := hC.u hM eF
  have hGF := hG.u hC.1 eF
  refine partsIntoC_e (JM.u hM eF) hCF hGF hN hj hl (by rw [kF]; exact kN) (by rw [nF, kF]; exact kA) _ ?_
  rw [nF]
  have eN : eqU h (nw F 420 (M j).length) := eqU_nw eF (by rw [nF, kF]; exact kA) 420 _
  have eP := eqU_lk (g := g) (A := hn h + 1) (N := hn h) (L := M j) eN (hz0 _ (by omega)) (M j).length
  have kP : kd (lkH g (hn h + 1) (hn h) (M j) (M j).length (nw F 420 (M j).length)) (hn h) = 1 := by
    rw [lk_kd, kd_nw_o _ _ _ _ (by omega), kF]
    exact kN
  have xP : fI (lkH g (hn h + 1) (hn h) (M j) (M j).length (nw F 420 (M j).length)) 1293 x = nI n := by
    rw [lk_fI, fI_nw_o _ _ _ _ _ (fun e => by
      have := hBE.1
      rw [e, nF, kA] at this
      exact absurd this (by decide))]
    exact xF
  generalize lkH g (hn h + 1) (hn h) (M j) (M j).length (nw F 420 (M j).length) = P at *
  have hCP := hC.u hM eP
  have hBP := hCP.1
  unfold JS at hBP
  unfold w_X10_enter n_X10_enter_0
  simp (config := {decide := true}) only [gI_e, gR_e, pI_e, pZ_e, pR_e, ldI_e, ldZ_e, ldL_e, ldR_e, stI_e, stZ_e, stL_e, stR_e, alN_e, nwA_e, nwO_e, dvI_e, rmI_e, oV_e, oN_e, lt_e, rZ_e, br_T, br_F, fR_sI, aI_sI, aL_sI, aR_sI, kd_sI, ln_sI, hn_sI, hm_sI, fI_sI_n, fI_sR, aI_sR, aL_sR, aR_sR, kd_sR, ln_sR, hn_sR, hm_sR, fR_sR_n, fI_tI, fR_tI, aL_tI, aR_tI, kd_tI, ln_tI, hn_tI, hm_tI, aI_tI_n, fI_tL, fR_tL, aI_tL, aR_tL, kd_tL, ln_tL, hn_tL, hm_tL, aL_tL_n, fI_tR, fR_tR, aI_tR, aL_tR, kd_tR, ln_tR, hn_tR, hm_tR, aR_tR_n, hn_nw, hm_nw, rc400, rc403, rc404, rc405, rc407, rc409, rc420, rc440, bI_0, bI_1, bI_T, bI_F, iF_T, iF_F, br_not, le_nlt, not_true_eq_false, not_false_eq_true, and_self, and_true, true_and, and_false, false_and, or_true, true_or, or_false, false_or, ne_eq, reduceCtorEq, Nat.reduceLeDiff, Nat.reduceEqDiff, Nat.reduceLT, Nat.reduceAdd, Nat.reduceSub, Nat.reduceMul, Int32.reduceLT, Int32.reduceLE, Int32.reduceToNatClampNeg, Int32.reduceAdd, Int32.reduceSub, implies_true, forall_const, isIn_e, bit_e, lits, kP, hBP, xP]
  refine stR_i (k := 440) (by simp only [gI_e, gR_e, pI_e, pZ_e, pR_e, ldI_e, ldZ_e, ldL_e, ldR_e, stI_e, stZ_e, stL_e, stR_e, alN_e, nwA_e, nwO_e, dvI_e, rmI_e, oV_e, oN_e, lt_e, rZ_e, br_T, br_F, fR_sI, aI_sI, aL_sI, aR_sI, kd_sI, ln_sI, hn_sI, hm_sI, fI_sI_n, fI_sR, aI_sR, aL_sR, aR_sR, kd_sR, ln_sR, hn_sR, hm_sR, fR_sR_n, fI_tI, fR_tI, aL_tI, aR_tI, kd_tI, ln_tI, hn_tI, hm_tI, aI_tI_n, fI_tL, fR_tL, aI_tL, aR_tL, kd_tL, ln_tL, hn_tL, hm_tL, aL_tL_n, fI_tR, fR_tR, aI_tR, aL_tR, kd_tR, ln_tR, hn_tR, hm_tR, aR_tR_n, hn_nw, hm_nw, rc400, rc403, rc404, rc405, rc407, rc409, rc420, rc440, bI_0, bI_1, bI_T, bI_F, iF_T, iF_F, br_not, le_nlt, not_true_eq_false, not_false_eq_true, and_self, and_true, true_and, and_false, false_and, or_true, true_or, or_false, false_or, ne_eq, reduceCtorEq, Nat.reduceLeDiff, Nat.reduceEqDiff, Nat.reduceLT, Nat.reduceAdd, Nat.reduceSub, Nat.reduceMul, Int32.reduceLT, Int32.reduceLE, Int32.reduceToNatClampNeg, Int32.reduceAdd, Int32.reduceSub, implies_true, forall_const, isIn_e, bit_e, lits, hBP]) (by decide) rc440 (fun b hb => by cases hb; simp only [gI_e, gR_e, pI_e, pZ_e, pR_e, ldI_e, ldZ_e, ldL_e, ldR_e, stI_e, stZ_e, stL_e, stR_e, alN_e, nwA_e, nwO_e, dvI_e, rmI_e, oV_e, oN_e, lt_e, rZ_e, br_T, br_F, fR_sI, aI_sI, aL_sI, aR_sI, kd_sI, ln_sI, hn_sI, hm_sI, fI_sI_n, fI_sR, aI_sR, aL_sR, aR_sR, kd_sR, ln_sR, hn_sR, hm_sR, fR_sR_n, fI_tI, fR_tI, aL_tI, aR_tI, kd_tI, ln_tI, hn_tI, hm_tI, aI_tI_n, fI_tL, fR_tL, aI_tL, aR_tL, kd_tL, ln_tL, hn_tL, hm_tL, aL_tL_n, fI_tR, fR_tR, aI_tR, aL_tR, kd_tR, ln_tR, hn_tR, hm_tR, aR_tR_n, hn_nw, hm_nw, rc400, rc403, rc404, rc405, rc407, rc409, rc420, rc440, bI_0, bI_1, bI_T, bI_F, iF_T, iF_F, br_not, le_nlt, not_true_eq_false, not_false_eq_true, and_self, and_true, true_and, and_false, false_and, or_true, true_or, or_false, false_or, ne_eq, reduceCtorEq, Nat.reduceLeDiff, Nat.reduceEqDiff, Nat.reduceLT, Nat.reduceAdd, Nat.reduceSub, Nat.reduceMul, Int32.reduceLT, Int32.reduceLE, Int32.reduceToNatClampNeg, Int32.reduceAdd, Int32.reduceSub, implies_true, forall_const, isIn_e, bit_e, lits, kP]; rfl) (by simp only [gI_e, gR_e, pI_e, pZ_e, pR_e, ldI_e, ldZ_e, ldL_e, ldR_e, stI_e, stZ_e, stL_e, stR_e, alN_e, nwA_e, nwO_e, dvI_e, rmI_e, oV_e, oN_e, lt_e, rZ_e, br_T, br_F, fR_sI, aI_sI, aL_sI, aR_sI, kd_sI, ln_sI, hn_sI, hm_sI, fI_sI_n, fI_sR, aI_sR, aL_sR, aR_sR, kd_sR, ln_sR, hn_sR, hm_sR, fR_sR_n, fI_tI, fR_tI, aL_tI, aR_tI, kd_tI, ln_tI, hn_tI, hm_tI, aI_tI_n, fI_tL, fR_tL, aI_tL, aR_tL, kd_tL, ln_tL, hn_tL, hm_tL, aL_tL_n, fI_tR, fR_tR, aI_tR, aL_tR, kd_tR, ln_tR, hn_tR, hm_tR, aR_tR_n, hn_nw, hm_nw, rc400, rc403, rc404, rc405, rc407, rc409, rc420, rc440, bI_0, bI_1, bI_T, bI_F, iF_T, iF_F, br_not, le_nlt, not_true_eq_false, not_false_eq_true, and_self, and_true, true_and, and_false, false_and, or_true, true_or, or_false, false_or, ne_eq, reduceCtorEq, Nat.reduceLeDiff, Nat.reduceEqDiff, Nat.reduceLT, Nat.reduceAdd, Nat.reduceSub, Nat.reduceMul, Int32.reduceLT, Int32.reduceLE, Int32.reduceToNatClampNeg, Int32.reduceAdd, Int32.reduceSub, implies_true, forall_const, isIn_e, bit_e, lits, hBP]; exact cn.2.1) ?_
  simp (config := {decide := true}) only [gI_e, gR_e, pI_e, pZ_e, pR_e, ldI_e, ldZ_e, ldL_e, ldR_e, stI_e, stZ_e, stL_e, stR_e, alN_e, nwA_e, nwO_e, dvI_e, rmI_e, oV_e, oN_e, lt_e, rZ_e, br_T, br_F, fR_sI, aI_sI, aL_sI, aR_sI, kd_sI, ln_sI, hn_sI, hm_sI, fI_sI_n, fI_sR, aI_sR, aL_sR, aR_sR, kd_sR, ln_sR, hn_sR, hm_sR, fR_sR_n, fI_tI, fR_tI, aL_tI, aR_tI, kd_tI, ln_tI, hn_tI, hm_tI, aI_tI_n, fI_tL, fR_tL, aI_tL, aR_tL, kd_tL, ln_tL, hn_tL, hm_tL, aL_tL_n, fI_tR, fR_tR, aI_tR, aL_tR, kd_tR, ln_tR, hn_tR, hm_tR, aR_tR_n, hn_nw, hm_nw, rc400, rc403, rc404, rc405, rc407, rc409, rc420, rc440, bI_0, bI_1, bI_T, bI_F, iF_T, iF_F, br_not, le_nlt, not_true_eq_false, not_false_eq_true, and_self, and_true, true_and, and_false, false_and, or_true, true_or, or_false, false_or, ne_eq, reduceCtorEq, Nat.reduceLeDiff, Nat.reduceEqDiff, Nat.reduceLT, Nat.reduceAdd, Nat.reduceSub, Nat.reduceMul, Int32.reduceLT, Int32.reduceLE, Int32.reduceToNatClampNeg, Int32.reduceAdd, Int32.reduceSub, implies_true, forall_const, isIn_e, bit_e, lits, kP, hBP, xP, cn]
  exact hQ
end MRG2
