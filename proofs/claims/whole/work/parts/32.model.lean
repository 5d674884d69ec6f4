theorem hn_cpN (h : Hp) (a n : Nat) : hn (cpN h a n) = hn h + 1 := rfl
theorem hm_cpN (h : Hp) (a n : Nat) : hm (cpN h a n) = hm h + n := rfl
theorem fI_cpN (h : Hp) (a n f q : Nat) : fI (cpN h a n) f q = if q = hn h then 0 else fI h f q := rfl
theorem fR_cpN (h : Hp) (a n f q : Nat) : fR (cpN h a n) f q = if q = hn h then none else fR h f q := rfl
theorem kd_cpN (h : Hp) (a n q : Nat) : kd (cpN h a n) q = if q = hn h then 399 else kd h q := rfl
theorem ln_cpN (h : Hp) (a n q : Nat) : ln (cpN h a n) q = if q = hn h then n else ln h q := rfl
theorem aL_cpN (h : Hp) (a n q x : Nat) (hx : x < n) : aL (cpN h a n) 399 (hn h) x = aL h (kd h a) a x := by
  show (if 399 = 399 ∧ hn h = hn h ∧ x < n then aL h (kd h a) a x else _) = _
  rw [if_pos ⟨rfl, rfl, hx⟩]
section MODL
variable {x y b0 s0 np na nm nr ne : Nat} {g : Nat → Nat → Nat} {m : Nat → Nat} {h : Hp}
theorem wants_e (hR : RJ y np na nm nr ne m h) {k : Nat} (hk : k < 8) (Q : Int32 → Hp → Prop) : w_X11_wants (some y) (nI k) h Q = Q (iF (aI h 128 (m 128) k = 2) (-2) (iF (aI h 128 (m 128) k = 0) (-3) 0)) h := by
  have hA := hR.1
  unfold JM at hA
  have hW := hR.2.2.2
  have c := cnF hk (Nat.le_refl 8) (by decide)
  unfold w_X11_wants n_X11_wants_0 n_X11_wants_41
  rcases hW.w_hel k hk with d | d | d
  · simp only [gI_e, gR_e, pI_e, pZ_e, pR_e, ldI_e, ldZ_e, ldL_e, ldR_e, stI_e, stZ_e, stL_e, stR_e, alN_e, nwA_e, nwO_e, dvI_e, rmI_e, oV_e, oN_e, lt_e, rZ_e, br_T, br_F, fR_sI, aI_sI, aL_sI, aR_sI, kd_sI, ln_sI, hn_sI, hm_sI, fI_sI_n, fI_sR, aI_sR, aL_sR, aR_sR, kd_sR, ln_sR, hn_sR, hm_sR, fR_sR_n, fI_tI, fR_tI, aL_tI, aR_tI, kd_tI, ln_tI, hn_tI, hm_tI, aI_tI_n, fI_tL, fR_tL, aI_tL, aR_tL, kd_tL, ln_tL, hn_tL, hm_tL, aL_tL_n, fI_tR, fR_tR, aI_tR, aL_tR, kd_tR, ln_tR, hn_tR, hm_tR, aR_tR_n, hn_nw, hm_nw, rc400, rc403, rc404, rc405, rc407, rc409, rc420, rc440, bI_0, bI_1, bI_T, bI_F, iF_T, iF_F, br_not, le_nlt, not_true_eq_false, not_false_eq_true, and_self, and_true, true_and, and_false, false_and, or_true, true_or, or_false, false_or, ne_eq, reduceCtorEq, Nat.reduceLeDiff, Nat.reduceEqDiff, Nat.reduceLT, Nat.reduceAdd, Nat.reduceSub, Nat.reduceMul, Int32.reduceLT, Int32.reduceLE, Int32.reduceToNatClampNeg, Int32.reduceAdd, Int32.reduceSub, implies_true, forall_const, isIn_e, bit_e, lits, isShelf_e, hA, c, d, if_false]
  · simp only [gI_e, gR_e, pI_e, pZ_e, pR_e, ldI_e, ldZ_e, ldL_e, ldR_e, stI_e, stZ_e, stL_e, stR_e, alN_e, nwA_e, nwO_e, dvI_e, rmI_e, oV_e, oN_e, lt_e, rZ_e, br_T, br_F, fR_sI, aI_sI, aL_sI, aR_sI, kd_sI, ln_sI, hn_sI, hm_sI, fI_sI_n, fI_sR, aI_sR, aL_sR, aR_sR, kd_sR, ln_sR, hn_sR, hm_sR, fR_sR_n, fI_tI, fR_tI, aL_tI, aR_tI, kd_tI, ln_tI, hn_tI, hm_tI, aI_tI_n, fI_tL, fR_tL, aI_tL, aR_tL, kd_tL, ln_tL, hn_tL, hm_tL, aL_tL_n, fI_tR, fR_tR, aI_tR, aL_tR, kd_tR, ln_tR, hn_tR, hm_tR, aR_tR_n, hn_nw, hm_nw, rc400, rc403, rc404, rc405, rc407, rc409, rc420, rc440, bI_0, bI_1, bI_T, bI_F, iF_T, iF_F, br_not, le_nlt, not_true_eq_false, not_false_eq_true, and_self, and_true, true_and, and_false, false_and, or_true, true_or, or_false, false_or, ne_eq, reduceCtorEq, Nat.reduceLeDiff, Nat.reduceEqDiff, Nat.reduceLT, Nat.reduceAdd, Nat.reduceSub, Nat.reduceMul, Int32.reduceLT, Int32.reduceLE, Int32.reduceToNatClampNeg, Int32.reduceAdd, Int32.reduceSub, implies_true, forall_const, isIn_e, bit_e, lits, isShelf_e, hA, c, d, if_true, if_false]
  · simp only [gI_e, gR_e, pI_e, pZ_e, pR_e, ldI_e, ldZ_e, ldL_e, ldR_e, stI_e, stZ_e, stL_e, stR_e, alN_e, nwA_e, nwO_e, dvI_e, rmI_e, oV_e, oN_e, lt_e, rZ_e, br_T, br_F, fR_sI, aI_sI, aL_sI, aR_sI, kd_sI, ln_sI, hn_sI, hm_sI, fI_sI_n, fI_sR, aI_sR, aL_sR, aR_sR, kd_sR, ln_sR, hn_sR, hm_sR, fR_sR_n, fI_tI, fR_tI, aL_tI, aR_tI, kd_tI, ln_tI, hn_tI, hm_tI, aI_tI_n, fI_tL, fR_tL, aI_tL, aR_tL, kd_tL, ln_tL, hn_tL, hm_tL, aL_tL_n, fI_tR, fR_tR, aI_tR, aL_tR, kd_tR, ln_tR, hn_tR, hm_tR, aR_tR_n, hn_nw, hm_nw, rc400, rc403, rc404, rc405, rc407, rc409, rc420, rc440, bI_0, bI_1, bI_T, bI_F, iF_T, iF_F, br_not, le_nlt, not_true_eq_false, not_false_eq_true, and_self, and_true, true_and, and_false, false_and, or_true, true_or, or_false, false_or, ne_eq, reduceCtorEq, Nat.reduceLeDiff, Nat.reduceEqDiff, Nat.reduceLT, Nat.reduceAdd, Nat.reduceSub, Nat.reduceMul, Int32.reduceLT, Int32.reduceLE, Int32.reduceToNatClampNeg, Int32.reduceAdd, Int32.reduceSub, implies_true, forall_const, isIn_e, bit_e, lits, isShelf_e, hA, c, d, if_true, if_false]
theorem modelLoop (hA : JM y m h) {s n o : Nat} (hs : s < 8) (hn20 : n ≤ 20) (ho : o < 8) (e1 : aI h 130 (m 130) s = nI n) (e2 : fI h 1411 y = nI o) (Q : Int32 → Hp → Prop) (hQ : Q (nI o) (sI (cfL h 313 (m 313) (60 * o) n (fun t => aL h 310 (m 310) (60 * s + t))) 1411 y (nI (o + 1)))) : l_X11_model_135 (some y) (nI s) 0 h Q := by
  unfold JM at hA
  unfold l_X11_model_135
  have cs := cnF hs (Nat.le_refl 8) (by decide)
  refine Lo.run n (fun k => nI k) (fun k => cfL h 313 (m 313) (60 * o) k (fun t => aL h 310 (m 310) (60 * s + t))) ?_ ?_ rfl (cfL_0 _ _ _ _ _).symm
  · intro k hk K hK
    unfold b_X11_model_135
    have c : nI k < nI n := nI_lt hk (by omega)
    have i1 := idx60 hs (show k < 60 by omega)
    have i2 := idx60 ho (show k < 60 by omega)
    simp (config := {decide := true}) only [gI_e, gR_e, pI_e, pZ_e, pR_e, ldI_e, ldZ_e, ldL_e, ldR_e, stI_e, stZ_e, stL_e, stR_e, alN_e, nwA_e, nwO_e, dvI_e, rmI_e, oV_e, oN_e, lt_e, rZ_e, br_T, br_F, fR_sI, aI_sI, aL_sI, aR_sI, kd_sI, ln_sI, hn_sI, hm_sI, fI_sI_n, fI_sR, aI_sR, aL_sR, aR_sR, kd_sR, ln_sR, hn_sR, hm_sR, fR_sR_n, fI_tI, fR_tI, aL_tI, aR_tI, kd_tI, ln_tI, hn_tI, hm_tI, aI_tI_n, fI_tL, fR_tL, aI_tL, aR_tL, kd_tL, ln_tL, hn_tL, hm_tL, aL_tL_n, fI_tR, fR_tR, aI_tR, aL_tR, kd_tR, ln_tR, hn_tR, hm_tR, aR_tR_n, hn_nw, hm_nw, rc400, rc403, rc404, rc405, rc407, rc409, rc420, rc440, bI_0, bI_1, bI_T, bI_F, iF_T, iF_F, br_not, le_nlt, not_true_eq_false, not_false_eq_true, and_self, and_true, true_and, and_false, false_and, or_true, true_or, or_false, false_or, ne_eq, reduceCtorEq, Nat.reduceLeDiff, Nat.reduceEqDiff, Nat.reduceLT, Nat.reduceAdd, Nat.reduceSub, Nat.reduceMul, Int32.reduceLT, Int32.reduceLE, Int32.reduceToNatClampNeg, Int32.reduceAdd, Int32.reduceSub, implies_true, forall_const, isIn_e, bit_e, lits, aL_cfL_n, fI_cfL, fR_cfL, aI_cfL, aR_cfL, kd_cfL, ln_cfL, hn_cfL, hm_cfL, hA, cs, e1, e2, c, i1, i2, n1]
    have st := cfL_s h 313 (m 313) (60 * o) k (fun t => aL h 310 (m 310) (60 * s + t))
    rw [st]
    exact hK
  · intro K
    unfold b_X11_model_135
    simp (config := {decide := true}) only [gI_e, gR_e, pI_e, pZ_e, pR_e, ldI_e, ldZ_e, ldL_e, ldR_e, stI_e, stZ_e, stL_e, stR_e, alN_e, nwA_e, nwO_e, dvI_e, rmI_e, oV_e, oN_e, lt_e, rZ_e, br_T, br_F, fR_sI, aI_sI, aL_sI, aR_sI, kd_sI, ln_sI, hn_sI, hm_sI, fI_sI_n, fI_sR, aI_sR, aL_sR, aR_sR, kd_sR, ln_sR, hn_sR, hm_sR, fR_sR_n, fI_tI, fR_tI, aL_tI, aR_tI, kd_tI, ln_tI, hn_tI, hm_tI, aI_tI_n, fI_tL, fR_tL, aI_tL, aR_tL, kd_tL, ln_tL, hn_tL, hm_tL, aL_tL_n, fI_tR, fR_tR, aI_tR, aL_tR, kd_tR, ln_tR, hn_tR, hm_tR, aR_tR_n, hn_nw, hm_nw, rc400, rc403, rc404, rc405, rc407, rc409, rc420, rc440, bI_0, bI_1, bI_T, bI_F, iF_T, iF_F, br_not, le_nlt, not_true_eq_false, not_false_eq_true, and_self, and_true, true_and, and_false, false_and, or_true, true_or, or_false, false_or, ne_eq, reduceCtorEq, Nat.reduceLeDiff, Nat.reduceEqDiff, Nat.reduceLT, Nat.reduceAdd, Nat.reduceSub, Nat.reduceMul, Int32.reduceLT, Int32.reduceLE, Int32.reduceToNatClampNeg, Int32.reduceAdd, Int32.reduceSub, implies_true, forall_const, isIn_e, bit_e, lits, aL_cfL_n, fI_cfL, fR_cfL, aI_cfL, aR_cfL, kd_cfL, ln_cfL, hn_cfL, hm_cfL, hA, cs, e1, e2, lt_irr, n1]
    exact hQ
theorem K_model (hJ : JA x y b0 s0 np na nm nr ne g m h) (w s a : Int32) (Q : Hp → Prop) (hQ : ∀ h2, JJ x y b0 s0 m h2 → Q h2) : w_X10_model (some x) w s a h (fun r h1 => w_X11_model (some y) w s a h1 (fun r2 h2 => r = r2 ∧ Q h2)) := by
  have hA := hJ.1; unfold JM at hA; have hB := hJ.2.1; unfold JS at hB; have hC := hJ.2.2.1.1; have hR := hJ.rj; have hf := rf_l hJ; have hno := no_l hR; have hno1 := fun k v => no_l (hJ.rj1 k v); have hp := isPlace_e hR; have ha := isAsk_e hR; have hp1 := fun k v => isPlace_e (hJ.rj1 k v); have ha1 := fun k v => isAsk_e (hJ.rj1 k v)
  have hbd := hJ.2.2.1.2
  have hz := hJ.z
  have hW := hJ.2.2.2.2.2.1
  unfold w_X10_model n_X10_model_0 n_X10_model_24 n_X10_model_69 w_X9_rowCopy n_X9_rowCopy_0 w_X3_init n_X3_init_0 w_X11_model n_X11_model_0 n_X11_model_15 n_X11_model_61
  have hw1 := fun k v {j} (hj : j < 8) Q => wants_e (hJ.rj1 k v) hj Q
  by_cases c0 : vp_in s 8
  rotate_left
  · by_cases c : vp_in a np <;>
    · simp only [gI_e, gR_e, pI_e, pZ_e, pR_e, ldI_e, ldZ_e, ldL_e, ldR_e, stI_e, stZ_e, stL_e, stR_e, alN_e, nwA_e, nwO_e, dvI_e, rmI_e, oV_e, oN_e, lt_e, rZ_e, br_T, br_F, fR_sI, aI_sI, aL_sI, aR_sI, kd_sI, ln_sI, hn_sI, hm_sI, fI_sI_n, fI_sR, aI_sR, aL_sR, aR_sR, kd_sR, ln_sR, hn_sR, hm_sR, fR_sR_n, fI_tI, fR_tI, aL_tI, aR_tI, kd_tI, ln_tI, hn_tI, hm_tI, aI_tI_n, fI_tL, fR_tL, aI_tL, aR_tL, kd_tL, ln_tL, hn_tL, hm_tL, aL_tL_n, fI_tR, fR_tR, aI_tR, aL_tR, kd_tR, ln_tR, hn_tR, hm_tR, aR_tR_n, hn_nw, hm_nw, rc400, rc403, rc404, rc405, rc407, rc409, rc420, rc440, bI_0, bI_1, bI_T, bI_F, iF_T, iF_F, br_not, le_nlt, not_true_eq_false, not_false_eq_true, and_self, and_true, true_and, and_false, false_and, or_true, true_or, or_false, false_or, ne_eq, reduceCtorEq, Nat.reduceLeDiff, Nat.reduceEqDiff, Nat.reduceLT, Nat.reduceAdd, Nat.reduceSub, Nat.reduceMul, Int32.reduceLT, Int32.reduceLE, Int32.reduceToNatClampNeg, Int32.reduceAdd, Int32.reduceSub, implies_true, forall_const, isIn_e, bit_e, lits, hA, hB, hC, hf, hno, hno1, hp, ha, hp1, ha1, placeAt_e hJ, askAt_e hJ, modelAt_e hJ, shelfAt_e hJ, isShelf_e, isGroup_e, isAsked_e, rZ_bI, dec_none, dec_s, dec_1, lt_e, c0, c]
      exact hQ _ (hJ.ref 1 (by decide)).jj
  by_cases c : vp_in a np
  rotate_left
  · simp only [gI_e, gR_e, pI_e, pZ_e, pR_e, ldI_e, ldZ_e, ldL_e, ldR_e, stI_e, stZ_e, stL_e, stR_e, alN_e, nwA_e, nwO_e, dvI_e, rmI_e, oV_e, oN_e, lt_e, rZ_e, br_T, br_F, fR_sI, aI_sI, aL_sI, aR_sI, kd_sI, ln_sI, hn_sI, hm_sI, fI_sI_n, fI_sR, aI_sR, aL_sR, aR_sR, kd_sR, ln_sR, hn_sR, hm_sR, fR_sR_n, fI_tI, fR_tI, aL_tI, aR_tI, kd_tI, ln_tI, hn_tI, hm_tI, aI_tI_n, fI_tL, fR_tL, aI_tL, aR_tL, kd_tL, ln_tL, hn_tL, hm_tL, aL_tL_n, fI_tR, fR_tR, aI_tR, aL_tR, kd_tR, ln_tR, hn_tR, hm_tR, aR_tR_n, hn_nw, hm_nw, rc400, rc403, rc404, rc405, rc407, rc409, rc420, rc440, bI_0, bI_1, bI_T, bI_F, iF_T, iF_F, br_not, le_nlt, not_true_eq_false, not_false_eq_true, and_self, and_true, true_and, and_false, false_and, or_true, true_or, or_false, false_or, ne_eq, reduceCtorEq, Nat.reduceLeDiff, Nat.reduceEqDiff, Nat.reduceLT, Nat.reduceAdd, Nat.reduceSub, Nat.reduceMul, Int32.reduceLT, Int32.reduceLE, Int32.reduceToNatClampNeg, Int32.reduceAdd, Int32.reduceSub, implies_true, forall_const, isIn_e, bit_e, lits, hA, hB, hC, hf, hno, hno1, hp, ha, hp1, ha1, placeAt_e hJ, askAt_e hJ, modelAt_e hJ, shelfAt_e hJ, isShelf_e, isGroup_e, isAsked_e, rZ_bI, dec_none, dec_s, dec_1, lt_e, c0, c]
    exact hQ _ (hJ.ref 1 (by decide)).jj
  obtain ⟨p, hpp, rfl⟩ := vp_ex c
  obtain ⟨t, htt, rfl⟩ := vp_ex c0
  have ep : (nI p).toNatClampNeg = p := nI_clamp (by omega)
  have et : (nI t).toNatClampNeg = t := nI_clamp (by omega)
  have q := shF hJ htt
  rcases hW.w_hel t htt with d | d | d
  · simp only [gI_e, gR_e, pI_e, pZ_e, pR_e, ldI_e, ldZ_e, ldL_e, ldR_e, stI_e, stZ_e, stL_e, stR_e, alN_e, nwA_e, nwO_e, dvI_e, rmI_e, oV_e, oN_e, lt_e, rZ_e, br_T, br_F, fR_sI, aI_sI, aL_sI, aR_sI, kd_sI, ln_sI, hn_sI, hm_sI, fI_sI_n, fI_sR, aI_sR, aL_sR, aR_sR, kd_sR, ln_sR, hn_sR, hm_sR, fR_sR_n, fI_tI, fR_tI, aL_tI, aR_tI, kd_tI, ln_tI, hn_tI, hm_tI, aI_tI_n, fI_tL, fR_tL, aI_tL, aR_tL, kd_tL, ln_tL, hn_tL, hm_tL, aL_tL_n, fI_tR, fR_tR, aI_tR, aL_tR, kd_tR, ln_tR, hn_tR, hm_tR, aR_tR_n, hn_nw, hm_nw, rc400, rc403, rc404, rc405, rc407, rc409, rc420, rc440, bI_0, bI_1, bI_T, bI_F, iF_T, iF_F, br_not, le_nlt, not_true_eq_false, not_false_eq_true, and_self, and_true, true_and, and_false, false_and, or_true, true_or, or_false, false_or, ne_eq, reduceCtorEq, Nat.reduceLeDiff, Nat.reduceEqDiff, Nat.reduceLT, Nat.reduceAdd, Nat.reduceSub, Nat.reduceMul, Int32.reduceLT, Int32.reduceLE, Int32.reduceToNatClampNeg, Int32.reduceAdd, Int32.reduceSub, implies_true, forall_const, isIn_e, bit_e, lits, hA, hB, hC, hf, hno, hno1, hp, ha, hp1, ha1, placeAt_e hJ, askAt_e hJ, modelAt_e hJ, shelfAt_e hJ, isShelf_e, isGroup_e, isAsked_e, rZ_bI, dec_none, dec_s, dec_1, lt_e, c0, c, ep, et, d, rowTrouble_e hJ htt, wants_e (hJ.rj1 _ _) htt]
    exact hQ _ (hJ.ref 3 (by decide)).jj
  rotate_left
  · simp only [gI_e, gR_e, pI_e, pZ_e, pR_e, ldI_e, ldZ_e, ldL_e, ldR_e, stI_e, stZ_e, stL_e, stR_e, alN_e, nwA_e, nwO_e, dvI_e, rmI_e, oV_e, oN_e, lt_e, rZ_e, br_T, br_F, fR_sI, aI_sI, aL_sI, aR_sI, kd_sI, ln_sI, hn_sI, hm_sI, fI_sI_n, fI_sR, aI_sR, aL_sR, aR_sR, kd_sR, ln_sR, hn_sR, hm_sR, fR_sR_n, fI_tI, fR_tI, aL_tI, aR_tI, kd_tI, ln_tI, hn_tI, hm_tI, aI_tI_n, fI_tL, fR_tL, aI_tL, aR_tL, kd_tL, ln_tL, hn_tL, hm_tL, aL_tL_n, fI_tR, fR_tR, aI_tR, aL_tR, kd_tR, ln_tR, hn_tR, hm_tR, aR_tR_n, hn_nw, hm_nw, rc400, rc403, rc404, rc405, rc407, rc409, rc420, rc440, bI_0, bI_1, bI_T, bI_F, iF_T, iF_F, br_not, le_nlt, not_true_eq_false, not_false_eq_true, and_self, and_true, true_and, and_false, false_and, or_true, true_or, or_false, false_or, ne_eq, reduceCtorEq, Nat.reduceLeDiff, Nat.reduceEqDiff, Nat.reduceLT, Nat.reduceAdd, Nat.reduceSub, Nat.reduceMul, Int32.reduceLT, Int32.reduceLE, Int32.reduceToNatClampNeg, Int32.reduceAdd, Int32.reduceSub, implies_true, forall_const, isIn_e, bit_e, lits, hA, hB, hC, hf, hno, hno1, hp, ha, hp1, ha1, placeAt_e hJ, askAt_e hJ, modelAt_e hJ, shelfAt_e hJ, isShelf_e, isGroup_e, isAsked_e, rZ_bI, dec_none, dec_s, dec_1, lt_e, c0, c, ep, et, d, rowTrouble_e hJ htt, wants_e (hJ.rj1 _ _) htt]
    exact hQ _ (hJ.ref 2 (by decide)).jj
  obtain ⟨z, hz60, ez⟩ := rngN (N := 60) (hW.w_siz t htt)
  by_cases b1 : w < 0
  · simp only [gI_e, gR_e, pI_e, pZ_e, pR_e, ldI_e, ldZ_e, ldL_e, ldR_e, stI_e, stZ_e, stL_e, stR_e, alN_e, nwA_e, nwO_e, dvI_e, rmI_e, oV_e, oN_e, lt_e, rZ_e, br_T, br_F, fR_sI, aI_sI, aL_sI, aR_sI, kd_sI, ln_sI, hn_sI, hm_sI, fI_sI_n, fI_sR, aI_sR, aL_sR, aR_sR, kd_sR, ln_sR, hn_sR, hm_sR, fR_sR_n, fI_tI, fR_tI, aL_tI, aR_tI, kd_tI, ln_tI, hn_tI, hm_tI, aI_tI_n, fI_tL, fR_tL, aI_tL, aR_tL, kd_tL, ln_tL, hn_tL, hm_tL, aL_tL_n, fI_tR, fR_tR, aI_tR, aL_tR, kd_tR, ln_tR, hn_tR, hm_tR, aR_tR_n, hn_nw, hm_nw, rc400, rc403, rc404, rc405, rc407, rc409, rc420, rc440, bI_0, bI_1, bI_T, bI_F, iF_T, iF_F, br_not, le_nlt, not_true_eq_false, not_false_eq_true, and_self, and_true, true_and, and_false, false_and, or_true, true_or, or_false, false_or, ne_eq, reduceCtorEq, Nat.reduceLeDiff, Nat.reduceEqDiff, Nat.reduceLT, Nat.reduceAdd, Nat.reduceSub, Nat.reduceMul, Int32.reduceLT, Int32.reduceLE, Int32.reduceToNatClampNeg, Int32.reduceAdd, Int32.reduceSub, implies_true, forall_const, isIn_e, bit_e, lits, hA, hB, hC, hf, hno, hno1, hp, ha, hp1, ha1, placeAt_e hJ, askAt_e hJ, modelAt_e hJ, shelfAt_e hJ, isShelf_e, isGroup_e, isAsked_e, rZ_bI, dec_none, dec_s, dec_1, lt_e, c0, c, ep, et, d, rowTrouble_e hJ htt, wants_e (hJ.rj1 _ _) htt, b1]
    exact hQ _ (hJ.ref 6 (by decide)).jj
  by_cases b2 : 15 < w
  · simp only [gI_e, gR_e, pI_e, pZ_e, pR_e, ldI_e, ldZ_e, ldL_e, ldR_e, stI_e, stZ_e, stL_e, stR_e, alN_e, nwA_e, nwO_e, dvI_e, rmI_e, oV_e, oN_e, lt_e, rZ_e, br_T, br_F, fR_sI, aI_sI, aL_sI, aR_sI, kd_sI, ln_sI, hn_sI, hm_sI, fI_sI_n, fI_sR, aI_sR, aL_sR, aR_sR, kd_sR, ln_sR, hn_sR, hm_sR, fR_sR_n, fI_tI, fR_tI, aL_tI, aR_tI, kd_tI, ln_tI, hn_tI, hm_tI, aI_tI_n, fI_tL, fR_tL, aI_tL, aR_tL, kd_tL, ln_tL, hn_tL, hm_tL, aL_tL_n, fI_tR, fR_tR, aI_tR, aL_tR, kd_tR, ln_tR, hn_tR, hm_tR, aR_tR_n, hn_nw, hm_nw, rc400, rc403, rc404, rc405, rc407, rc409, rc420, rc440, bI_0, bI_1, bI_T, bI_F, iF_T, iF_F, br_not, le_nlt, not_true_eq_false, not_false_eq_true, and_self, and_true, true_and, and_false, false_and, or_true, true_or, or_false, false_or, ne_eq, reduceCtorEq, Nat.reduceLeDiff, Nat.reduceEqDiff, Nat.reduceLT, Nat.reduceAdd, Nat.reduceSub, Nat.reduceMul, Int32.reduceLT, Int32.reduceLE, Int32.reduceToNatClampNeg, Int32.reduceAdd, Int32.reduceSub, implies_true, forall_const, isIn_e, bit_e, lits, hA, hB, hC, hf, hno, hno1, hp, ha, hp1, ha1, placeAt_e hJ, askAt_e hJ, modelAt_e hJ, shelfAt_e hJ, isShelf_e, isGroup_e, isAsked_e, rZ_bI, dec_none, dec_s, dec_1, lt_e, c0, c, ep, et, d, rowTrouble_e hJ htt, wants_e (hJ.rj1 _ _) htt, b1, b2]
    exact hQ _ (hJ.ref 6 (by decide)).jj
  have z20 : ((20 : Int32) < nI z) = (20 < z) := propext (nI_ltI (a := 20) (by omega) (by omega))
  by_cases b3 : 20 < z
  · simp only [gI_e, gR_e, pI_e, pZ_e, pR_e, ldI_e, ldZ_e, ldL_e, ldR_e, stI_e, stZ_e, stL_e, stR_e, alN_e, nwA_e, nwO_e, dvI_e, rmI_e, oV_e, oN_e, lt_e, rZ_e, br_T, br_F, fR_sI, aI_sI, aL_sI, aR_sI, kd_sI, ln_sI, hn_sI, hm_sI, fI_sI_n, fI_sR, aI_sR, aL_sR, aR_sR, kd_sR, ln_sR, hn_sR, hm_sR, fR_sR_n, fI_tI, fR_tI, aL_tI, aR_tI, kd_tI, ln_tI, hn_tI, hm_tI, aI_tI_n, fI_tL, fR_tL, aI_tL, aR_tL, kd_tL, ln_tL, hn_tL, hm_tL, aL_tL_n, fI_tR, fR_tR, aI_tR, aL_tR, kd_tR, ln_tR, hn_tR, hm_tR, aR_tR_n, hn_nw, hm_nw, rc400, rc403, rc404, rc405, rc407, rc409, rc420, rc440, bI_0, bI_1, bI_T, bI_F, iF_T, iF_F, br_not, le_nlt, not_true_eq_false, not_false_eq_true, and_self, and_true, true_and, and_false, false_and, or_true, true_or, or_false, false_or, ne_eq, reduceCtorEq, Nat.reduceLeDiff, Nat.reduceEqDiff, Nat.reduceLT, Nat.reduceAdd, Nat.reduceSub, Nat.reduceMul, Int32.reduceLT, Int32.reduceLE, Int32.reduceToNatClampNeg, Int32.reduceAdd, Int32.reduceSub, implies_true, forall_const, isIn_e, bit_e, lits, hA, hB, hC, hf, hno, hno1, hp, ha, hp1, ha1, placeAt_e hJ, askAt_e hJ, modelAt_e hJ, shelfAt_e hJ, isShelf_e, isGroup_e, isAsked_e, rZ_bI, dec_none, dec_s, dec_1, lt_e, c0, c, ep, et, q, d, ez, rowTrouble_e hJ htt, wants_e (hJ.rj1 _ _) htt, b1, b2, z20, b3, if_true]
    exact hQ _ (hJ.ref 6 (by decide)).jj
  have t1 : (nI nm < 8) = ¬ nm = 8 := nI_lt20 (N := 8) hbd.2.2.2.1 (by decide)
  have t2 : (nI nm = 8) = (nm = 8) := nI_eqN (N := 8) hbd.2.2.2.1 (by decide)
  by_cases n20 : nm = 8
  · have t3 : nI nm = 8 := by rw [t2]; exact n20
    have t4 : ¬ nI nm < 8 := by rw [t1]; exact fun z => z n20
    simp only [gI_e, gR_e, pI_e, pZ_e, pR_e, ldI_e, ldZ_e, ldL_e, ldR_e, stI_e, stZ_e, stL_e, stR_e, alN_e, nwA_e, nwO_e, dvI_e, rmI_e, oV_e, oN_e, lt_e, rZ_e, br_T, br_F, fR_sI, aI_sI, aL_sI, aR_sI, kd_sI, ln_sI, hn_sI, hm_sI, fI_sI_n, fI_sR, aI_sR, aL_sR, aR_sR, kd_sR, ln_sR, hn_sR, hm_sR, fR_sR_n, fI_tI, fR_tI, aL_tI, aR_tI, kd_tI, ln_tI, hn_tI, hm_tI, aI_tI_n, fI_tL, fR_tL, aI_tL, aR_tL, kd_tL, ln_tL, hn_tL, hm_tL, aL_tL_n, fI_tR, fR_tR, aI_tR, aL_tR, kd_tR, ln_tR, hn_tR, hm_tR, aR_tR_n, hn_nw, hm_nw, rc400, rc403, rc404, rc405, rc407, rc409, rc420, rc440, bI_0, bI_1, bI_T, bI_F, iF_T, iF_F, br_not, le_nlt, not_true_eq_false, not_false_eq_true, and_self, and_true, true_and, and_false, false_and, or_true, true_or, or_false, false_or, ne_eq, reduceCtorEq, Nat.reduceLeDiff, Nat.reduceEqDiff, Nat.reduceLT, Nat.reduceAdd, Nat.reduceSub, Nat.reduceMul, Int32.reduceLT, Int32.reduceLE, Int32.reduceToNatClampNeg, Int32.reduceAdd, Int32.reduceSub, implies_true, forall_const, isIn_e, bit_e, lits, hA, hB, hC, hf, hno, hno1, hp, ha, hp1, ha1, placeAt_e hJ, askAt_e hJ, modelAt_e hJ, shelfAt_e hJ, isShelf_e, isGroup_e, isAsked_e, rZ_bI, dec_none, dec_s, dec_1, lt_e, c0, c, ep, et, q, d, ez, rowTrouble_e hJ htt, wants_e (hJ.rj1 _ _) htt, b1, b2, z20, b3, t3, t4, if_true]
    exact hQ _ (hJ.ref 7 (by decide)).jj
  simp (config := {decide := true}) only [gI_e, gR_e, pI_e, pZ_e, pR_e, ldI_e, ldZ_e, ldL_e, ldR_e, stI_e, stZ_e, stL_e, stR_e, alN_e, nwA_e, nwO_e, dvI_e, rmI_e, oV_e, oN_e, lt_e, rZ_e, br_T, br_F, fR_sI, aI_sI, aL_sI, aR_sI, kd_sI, ln_sI, hn_sI, hm_sI, fI_sI_n, fI_sR, aI_sR, aL_sR, aR_sR, kd_sR, ln_sR, hn_sR, hm_sR, fR_sR_n, fI_tI, fR_tI, aL_tI, aR_tI, kd_tI, ln_tI, hn_tI, hm_tI, aI_tI_n, fI_tL, fR_tL, aI_tL, aR_tL, kd_tL, ln_tL, hn_tL, hm_tL, aL_tL_n, fI_tR, fR_tR, aI_tR, aL_tR, kd_tR, ln_tR, hn_tR, hm_tR, aR_tR_n, hn_nw, hm_nw, rc400, rc403, rc404, rc405, rc407, rc409, rc420, rc440, bI_0, bI_1, bI_T, bI_F, iF_T, iF_F, br_not, le_nlt, not_true_eq_false, not_false_eq_true, and_self, and_true, true_and, and_false, false_and, or_true, true_or, or_false, false_or, ne_eq, reduceCtorEq, Nat.reduceLeDiff, Nat.reduceEqDiff, Nat.reduceLT, Nat.reduceAdd, Nat.reduceSub, Nat.reduceMul, Int32.reduceLT, Int32.reduceLE, Int32.reduceToNatClampNeg, Int32.reduceAdd, Int32.reduceSub, implies_true, forall_const, isIn_e, bit_e, lits, hA, hB, hC, hf, hno, hno1, hp, ha, hp1, ha1, placeAt_e hJ, askAt_e hJ, modelAt_e hJ, shelfAt_e hJ, isShelf_e, isGroup_e, isAsked_e, rZ_bI, dec_none, dec_s, dec_1, lt_e, kd_nw, ln_nw, fI_nw, fR_nw, if_true, if_false, nn_f hz, c0, c, ep, et, q, d, ez, rowTrouble_e hJ htt, b1, b2, z20, b3, t1, n20]
  -- the words: a copy
  refine ⟨g 8 t, rfl, ?_, nI_pos (by omega), ?_, ?_, ?_⟩
  · simp (config := {decide := true}) only [kd_nw, ln_nw, fI_nw, fR_nw, if_true, if_false, nn_f hz, q]
  · simp (config := {decide := true}) only [kd_nw, ln_nw, fI_nw, fR_nw, if_true, if_false, nn_f hz, q]
    rw [nI_clamp (by omega)]
    exact hz60
  · simp (config := {decide := true}) only [kd_nw, ln_nw, fI_nw, fR_nw, if_true, if_false, nn_f hz, q]
  rw [nI_clamp (n := z) (by omega)]
  have nz : kd (nw h 4 5) (hn (nw h 4 5)) = 0 := by
    rw [kd_nw_o _ _ _ _ (by rw [hn_nw]; omega), hn_nw]
    exact hJ.2.2.2.2.2.2.2.1 _ (by omega)
  have nN : (hn h = hn h + 1) = False := eq_false (by omega)
  simp (config := {decide := true}) only [gI_e, gR_e, pI_e, pZ_e, pR_e, ldI_e, ldZ_e, ldL_e, ldR_e, stI_e, stZ_e, stL_e, stR_e, alN_e, nwA_e, nwO_e, dvI_e, rmI_e, oV_e, oN_e, lt_e, rZ_e, br_T, br_F, fR_sI, aI_sI, aL_sI, aR_sI, kd_sI, ln_sI, hn_sI, hm_sI, fI_sI_n, fI_sR, aI_sR, aL_sR, aR_sR, kd_sR, ln_sR, hn_sR, hm_sR, fR_sR_n, fI_tI, fR_tI, aL_tI, aR_tI, kd_tI, ln_tI, hn_tI, hm_tI, aI_tI_n, fI_tL, fR_tL, aI_tL, aR_tL, kd_tL, ln_tL, hn_tL, hm_tL, aL_tL_n, fI_tR, fR_tR, aI_tR, aL_tR, kd_tR, ln_tR, hn_tR, hm_tR, aR_tR_n, hn_nw, hm_nw, rc400, rc403, rc404, rc405, rc407, rc409, rc420, rc440, bI_0, bI_1, bI_T, bI_F, iF_T, iF_F, br_not, le_nlt, not_true_eq_false, not_false_eq_true, and_self, and_true, true_and, and_false, false_and, or_true, true_or, or_false, false_or, ne_eq, reduceCtorEq, Nat.reduceLeDiff, Nat.reduceEqDiff, Nat.reduceLT, Nat.reduceAdd, Nat.reduceSub, Nat.reduceMul, Int32.reduceLT, Int32.reduceLE, Int32.reduceToNatClampNeg, Int32.reduceAdd, Int32.reduceSub, implies_true, forall_const, isIn_e, bit_e, lits, hA, hB, hC, hf, hno, hno1, hp, ha, hp1, ha1, placeAt_e hJ, askAt_e hJ, modelAt_e hJ, shelfAt_e hJ, isShelf_e, isGroup_e, isAsked_e, rZ_bI, dec_none, dec_s, dec_1, lt_e, kd_cpN, ln_cpN, fI_cpN, fR_cpN, hn_cpN, kd_nw, ln_nw, fI_nw, fR_nw, if_true, if_false, nn_f hz, nN, hn_nw]
  generalize hEq : sR (sI (sR (sI (sI (cpN (nw h 4 5) (g 8 t) z) 384 (hn h) (nI nm)) 385 (hn h) w) 386 (hn h) (some (g 1 p))) 387 (hn h) (fI h 1408 y)) 388 (hn h) (some (hn h + 1)) = E
  have eO : eqO h E := by
    rw [← hEq]
    exact (((((eqO_cpN ((eqO.rf h).nw hz 4 5) nz (g 8 t) z).sI hz _ _).sI hz _ _).sR hz _ _).sI hz _ _).sR hz _ _
  have hnE : hn E = hn h + 2 := by rw [← hEq]; rfl
  have hmE : hm E = hm h + 5 + z := by rw [← hEq]; rfl
  have kz : ∀ a, hn E ≤ a → kd E a = 0 := by
    intro a ha
    rw [← hEq]
    show kd (cpN (nw h 4 5) (g 8 t) z) a = 0
    rw [kd_cpN, if_neg (by rw [hn_nw]; omega), kd_nw_o _ _ _ _ (by omega)]
    exact hJ.2.2.2.2.2.2.2.1 a (by omega)
  have hJE := hJ.ext eO 2 (5 + z) kz (by omega) (by omega)
  have n8 : (g 8 t = hn h) = False := nn_f hz (by rw [q.2.2.2.1]; decide)
  have kN : kd E (hn h) = 4 := by rw [← hEq]; simp (config := {decide := true}) only [fR_sI, aI_sI, aL_sI, aR_sI, kd_sI, ln_sI, hn_sI, hm_sI, fI_sI_n, fI_sR, aI_sR, aL_sR, aR_sR, kd_sR, ln_sR, hn_sR, hm_sR, fR_sR_n, fI_tI, fR_tI, aL_tI, aR_tI, kd_tI, ln_tI, hn_tI, hm_tI, aI_tI_n, fI_tL, fR_tL, aI_tL, aR_tL, kd_tL, ln_tL, hn_tL, hm_tL, aL_tL_n, fI_tR, fR_tR, aI_tR, aL_tR, kd_tR, ln_tR, hn_tR, hm_tR, aR_tR_n, hn_nw, hm_nw, kd_cpN, ln_cpN, fI_cpN, fR_cpN, hn_cpN, kd_nw, ln_nw, fI_nw, fR_nw, if_true, if_false, nn_f hz, nN]
  have kN2 : kd E (hn h + 1) = 399 := by rw [← hEq]; simp (config := {decide := true}) only [fR_sI, aI_sI, aL_sI, aR_sI, kd_sI, ln_sI, hn_sI, hm_sI, fI_sI_n, fI_sR, aI_sR, aL_sR, aR_sR, kd_sR, ln_sR, hn_sR, hm_sR, fR_sR_n, fI_tI, fR_tI, aL_tI, aR_tI, kd_tI, ln_tI, hn_tI, hm_tI, aI_tI_n, fI_tL, fR_tL, aI_tL, aR_tL, kd_tL, ln_tL, hn_tL, hm_tL, aL_tL_n, fI_tR, fR_tR, aI_tR, aL_tR, kd_tR, ln_tR, hn_tR, hm_tR, aR_tR_n, hn_nw, hm_nw, kd_cpN, ln_cpN, fI_cpN, fR_cpN, hn_cpN, kd_nw, ln_nw, fI_nw, fR_nw, if_true, if_false, nn_f hz]
  have lN2 : ln E (hn h + 1) = z := by rw [← hEq]; simp (config := {decide := true}) only [fR_sI, aI_sI, aL_sI, aR_sI, kd_sI, ln_sI, hn_sI, hm_sI, fI_sI_n, fI_sR, aI_sR, aL_sR, aR_sR, kd_sR, ln_sR, hn_sR, hm_sR, fR_sR_n, fI_tI, fR_tI, aL_tI, aR_tI, kd_tI, ln_tI, hn_tI, hm_tI, aI_tI_n, fI_tL, fR_tL, aI_tL, aR_tL, kd_tL, ln_tL, hn_tL, hm_tL, aL_tL_n, fI_tR, fR_tR, aI_tR, aL_tR, kd_tR, ln_tR, hn_tR, hm_tR, aR_tR_n, hn_nw, hm_nw, kd_cpN, ln_cpN, fI_cpN, fR_cpN, hn_cpN, kd_nw, ln_nw, fI_nw, fR_nw, if_true, if_false, nn_f hz]
  have g1 : fI E 384 (hn h) = nI nm := by rw [← hEq]; simp (config := {decide := true}) only [fR_sI, aI_sI, aL_sI, aR_sI, kd_sI, ln_sI, hn_sI, hm_sI, fI_sI_n, fI_sR, aI_sR, aL_sR, aR_sR, kd_sR, ln_sR, hn_sR, hm_sR, fR_sR_n, fI_tI, fR_tI, aL_tI, aR_tI, kd_tI, ln_tI, hn_tI, hm_tI, aI_tI_n, fI_tL, fR_tL, aI_tL, aR_tL, kd_tL, ln_tL, hn_tL, hm_tL, aL_tL_n, fI_tR, fR_tR, aI_tR, aL_tR, kd_tR, ln_tR, hn_tR, hm_tR, aR_tR_n, hn_nw, hm_nw, fI_sI_e, fR_sR_e, aI_tI_e, aL_tL_e, aR_tR_e, kd_nw, ln_nw, fI_nw, fR_nw, if_true, if_false, nn_f hz]
  have g2 : fI E 385 (hn h) = w := by rw [← hEq]; simp (config := {decide := true}) only [fR_sI, aI_sI, aL_sI, aR_sI, kd_sI, ln_sI, hn_sI, hm_sI, fI_sI_n, fI_sR, aI_sR, aL_sR, aR_sR, kd_sR, ln_sR, hn_sR, hm_sR, fR_sR_n, fI_tI, fR_tI, aL_tI, aR_tI, kd_tI, ln_tI, hn_tI, hm_tI, aI_tI_n, fI_tL, fR_tL, aI_tL, aR_tL, kd_tL, ln_tL, hn_tL, hm_tL, aL_tL_n, fI_tR, fR_tR, aI_tR, aL_tR, kd_tR, ln_tR, hn_tR, hm_tR, aR_tR_n, hn_nw, hm_nw, fI_sI_e, fR_sR_e, aI_tI_e, aL_tL_e, aR_tR_e, kd_nw, ln_nw, fI_nw, fR_nw, if_true, if_false, nn_f hz]
  have g3 : fR E 386 (hn h) = some (g 1 p) := by rw [← hEq]; simp (config := {decide := true}) only [fR_sI, aI_sI, aL_sI, aR_sI, kd_sI, ln_sI, hn_sI, hm_sI, fI_sI_n, fI_sR, aI_sR, aL_sR, aR_sR, kd_sR, ln_sR, hn_sR, hm_sR, fR_sR_n, fI_tI, fR_tI, aL_tI, aR_tI, kd_tI, ln_tI, hn_tI, hm_tI, aI_tI_n, fI_tL, fR_tL, aI_tL, aR_tL, kd_tL, ln_tL, hn_tL, hm_tL, aL_tL_n, fI_tR, fR_tR, aI_tR, aL_tR, kd_tR, ln_tR, hn_tR, hm_tR, aR_tR_n, hn_nw, hm_nw, fI_sI_e, fR_sR_e, aI_tI_e, aL_tL_e, aR_tR_e, kd_nw, ln_nw, fI_nw, fR_nw, if_true, if_false, nn_f hz]
  have g4 : fI E 387 (hn h) = fI h 1408 y := by rw [← hEq]; simp (config := {decide := true}) only [fR_sI, aI_sI, aL_sI, aR_sI, kd_sI, ln_sI, hn_sI, hm_sI, fI_sI_n, fI_sR, aI_sR, aL_sR, aR_sR, kd_sR, ln_sR, hn_sR, hm_sR, fR_sR_n, fI_tI, fR_tI, aL_tI, aR_tI, kd_tI, ln_tI, hn_tI, hm_tI, aI_tI_n, fI_tL, fR_tL, aI_tL, aR_tL, kd_tL, ln_tL, hn_tL, hm_tL, aL_tL_n, fI_tR, fR_tR, aI_tR, aL_tR, kd_tR, ln_tR, hn_tR, hm_tR, aR_tR_n, hn_nw, hm_nw, fI_sI_e, fR_sR_e, aI_tI_e, aL_tL_e, aR_tR_e, kd_nw, ln_nw, fI_nw, fR_nw, if_true, if_false, nn_f hz]
  have g5 : fR E 388 (hn h) = some (hn h + 1) := by rw [← hEq]; simp (config := {decide := true}) only [fR_sI, aI_sI, aL_sI, aR_sI, kd_sI, ln_sI, hn_sI, hm_sI, fI_sI_n, fI_sR, aI_sR, aL_sR, aR_sR, kd_sR, ln_sR, hn_sR, hm_sR, fR_sR_n, fI_tI, fR_tI, aL_tI, aR_tI, kd_tI, ln_tI, hn_tI, hm_tI, aI_tI_n, fI_tL, fR_tL, aI_tL, aR_tL, kd_tL, ln_tL, hn_tL, hm_tL, aL_tL_n, fI_tR, fR_tR, aI_tR, aL_tR, kd_tR, ln_tR, hn_tR, hm_tR, aR_tR_n, hn_nw, hm_nw, fI_sI_e, fR_sR_e, aI_tI_e, aL_tL_e, aR_tR_e, kd_nw, ln_nw, fI_nw, fR_nw, if_true, if_false, nn_f hz]
  have g6 : ∀ j, j < z → aL E 399 (hn h + 1) j = aL h 310 (m 310) (60 * t + j) := by
    intro j hj
    rw [← hEq]
    show aL (cpN (nw h 4 5) (g 8 t) z) 399 (hn (nw h 4 5)) j = _
    rw [aL_cpN _ _ _ (hn (nw h 4 5)) _ hj, kd_nw_o _ _ _ _ (by rw [← ne_eq] at *; exact fun w => by rw [n8] at w; exact w), q.2.2.2.1, aL_nw_o _ _ _ _ _ _ (fun w => by rw [n8] at w; exact w)]
    exact hJ.2.2.2.2.1.d_cel t j htt (by omega) d
  have nowE : fI E 1408 y = fI h 1408 y := eO.1 _ _ (by rw [hA.1]; decide)
  have szE : aI E 130 (m 130) = aI h 130 (m 130) := eO.2.2.1 _ _ (by simp only [hA, Nat.reduceLeDiff, Nat.reduceEqDiff, Nat.reduceLT, ne_eq, not_false_eq_true, not_true_eq_false, reduceCtorEq])
  have heE : aI E 128 (m 128) = aI h 128 (m 128) := eO.2.2.1 _ _ (by simp only [hA, Nat.reduceLeDiff, Nat.reduceEqDiff, Nat.reduceLT, ne_eq, not_false_eq_true, not_true_eq_false, reduceCtorEq])
  have cellE : aL E 310 (m 310) = aL h 310 (m 310) := eO.2.2.2.1 _ _ (by simp only [hA, Nat.reduceLeDiff, Nat.reduceEqDiff, Nat.reduceLT, ne_eq, not_false_eq_true, not_true_eq_false, reduceCtorEq])
  have hnow := hW.w_now
  rw [← szE] at ez
  rw [← heE] at d
  rw [← cellE] at g6
  rw [← nowE] at g4 hnow
  clear hEq
  have rr1 := hJ.2.2.2.2.2.2.2.2.1
  have rr2 := hJ.2.2.2.2.2.2.2.2.2
  generalize hn h = N at *
  have hAE := hJE.1; unfold JM at hAE; have hBE := hJE.2.1; unfold JS at hBE; have hCE := hJE.2.2.1.1; have hGE := hJE.2.2.2.1; have hDE := hJE.2.2.2.2.1; have hWE := hJE.2.2.2.2.2.1; have hEE := hJE.2.2.2.2.2.2.1
  have cN := cnF (show nm < 8 by omega) (Nat.le_refl 8) (by decide)
  refine stR_i (k := 403) (by simp only [hBE]) (by decide) rc403 (fun b hb => by cases hb; rw [kN]; rfl) (by simp only [hBE]; exact cN.2.1) ?_
  have hR1 := hJE.rj.of (((eqM.rf E).tR 403 (g 0 3) nm (some N)).sI (f := 1294) (by decide) x (nI (nm + 1)))
  have hp2 := isPlace_e hR1
  have hw2 := fun Q => wants_e hR1 htt Q
  simp (config := {decide := true}) only [gI_e, gR_e, pI_e, pZ_e, pR_e, ldI_e, ldZ_e, ldL_e, ldR_e, stI_e, stZ_e, stL_e, stR_e, alN_e, nwA_e, nwO_e, dvI_e, rmI_e, oV_e, oN_e, lt_e, rZ_e, br_T, br_F, fR_sI, aI_sI, aL_sI, aR_sI, kd_sI, ln_sI, hn_sI, hm_sI, fI_sI_n, fI_sR, aI_sR, aL_sR, aR_sR, kd_sR, ln_sR, hn_sR, hm_sR, fR_sR_n, fI_tI, fR_tI, aL_tI, aR_tI, kd_tI, ln_tI, hn_tI, hm_tI, aI_tI_n, fI_tL, fR_tL, aI_tL, aR_tL, kd_tL, ln_tL, hn_tL, hm_tL, aL_tL_n, fI_tR, fR_tR, aI_tR, aL_tR, kd_tR, ln_tR, hn_tR, hm_tR, aR_tR_n, hn_nw, hm_nw, rc400, rc403, rc404, rc405, rc407, rc409, rc420, rc440, bI_0, bI_1, bI_T, bI_F, iF_T, iF_F, br_not, le_nlt, not_true_eq_false, not_false_eq_true, and_self, and_true, true_and, and_false, false_and, or_true, true_or, or_false, false_or, ne_eq, reduceCtorEq, Nat.reduceLeDiff, Nat.reduceEqDiff, Nat.reduceLT, Nat.reduceAdd, Nat.reduceSub, Nat.reduceMul, Int32.reduceLT, Int32.reduceLE, Int32.reduceToNatClampNeg, Int32.reduceAdd, Int32.reduceSub, implies_true, forall_const, isIn_e, bit_e, lits, hA, hB, hC, hf, hno, hno1, hp, ha, hp1, ha1, placeAt_e hJ, askAt_e hJ, modelAt_e hJ, shelfAt_e hJ, isShelf_e, isGroup_e, isAsked_e, rZ_bI, dec_none, dec_s, dec_1, lt_e, hp2, hw2, hAE, hBE, hCE, c0, c, et, d, ez, b1, b2, z20, b3, t2, n20, cN]
  refine modelLoop (m := m) (o := nm) (n := z) (by exact hJE.1) htt (by omega) (by omega) ?_ ?_ _ ?_
  · simp (config := {decide := true}) only [fR_sI, aI_sI, aL_sI, aR_sI, kd_sI, ln_sI, hn_sI, hm_sI, fI_sI_n, fI_sR, aI_sR, aL_sR, aR_sR, kd_sR, ln_sR, hn_sR, hm_sR, fR_sR_n, fI_tI, fR_tI, aL_tI, aR_tI, kd_tI, ln_tI, hn_tI, hm_tI, aI_tI_n, fI_tL, fR_tL, aI_tL, aR_tL, kd_tL, ln_tL, hn_tL, hm_tL, aL_tL_n, fI_tR, fR_tR, aI_tR, aL_tR, kd_tR, ln_tR, hn_tR, hm_tR, aR_tR_n, hn_nw, hm_nw]
    exact ez
  · simp (config := {decide := true}) only [fR_sI, aI_sI, aL_sI, aR_sI, kd_sI, ln_sI, hn_sI, hm_sI, fI_sI_n, fI_sR, aI_sR, aL_sR, aR_sR, kd_sR, ln_sR, hn_sR, hm_sR, fR_sR_n, fI_tI, fR_tI, aL_tI, aR_tI, kd_tI, ln_tI, hn_tI, hm_tI, aI_tI_n, fI_tL, fR_tL, aI_tL, aR_tL, kd_tL, ln_tL, hn_tL, hm_tL, aL_tL_n, fI_tR, fR_tR, aI_tR, aL_tR, kd_tR, ln_tR, hn_tR, hm_tR, aR_tR_n, hn_nw, hm_nw, hCE]
  refine ⟨rfl, hQ _ ⟨np, na, nm + 1, nr, ne, upG (upG g 4 nm N) 11 nm (N + 1), hJE.1, ?_, ?_, ?_, ?_, ?_, ?_, ?_⟩⟩
  · unfold JS
    simp (config := {decide := true}) only [fR_sI, aI_sI, aL_sI, aR_sI, kd_sI, ln_sI, hn_sI, hm_sI, fI_sI_n, fI_sR, aI_sR, aL_sR, aR_sR, kd_sR, ln_sR, hn_sR, hm_sR, fR_sR_n, fI_tI, fR_tI, aL_tI, aR_tI, kd_tI, ln_tI, hn_tI, hm_tI, aI_tI_n, fI_tL, fR_tL, aI_tL, aR_tL, kd_tL, ln_tL, hn_tL, hm_tL, aL_tL_n, fI_tR, fR_tR, aI_tR, aL_tR, kd_tR, ln_tR, hn_tR, hm_tR, aR_tR_n, hn_nw, hm_nw, aL_cfL_n, fI_cfL, fR_cfL, aI_cfL, aR_cfL, kd_cfL, ln_cfL, hn_cfL, hm_cfL, upG_n]
    exact hJE.2.1
  · unfold JC
    simp (config := {decide := true}) only [fR_sI, aI_sI, aL_sI, aR_sI, kd_sI, ln_sI, hn_sI, hm_sI, fI_sI_n, fI_sR, aI_sR, aL_sR, aR_sR, kd_sR, ln_sR, hn_sR, hm_sR, fR_sR_n, fI_tI, fR_tI, aL_tI, aR_tI, kd_tI, ln_tI, hn_tI, hm_tI, aI_tI_n, fI_tL, fR_tL, aI_tL, aR_tL, kd_tL, ln_tL, hn_tL, hm_tL, aL_tL_n, fI_tR, fR_tR, aI_tR, aL_tR, kd_tR, ln_tR, hn_tR, hm_tR, aR_tR_n, hn_nw, hm_nw, fI_sI_e, fR_sR_e, aI_tI_e, aL_tL_e, aR_tR_e, aL_cfL_n, fI_cfL, fR_cfL, aI_cfL, aR_cfL, kd_cfL, ln_cfL, hn_cfL, hm_cfL, hCE, if_true, and_self, true_and]
    omega
  · unfold JG
    simp (config := {decide := true}) only [fR_sI, aI_sI, aL_sI, aR_sI, kd_sI, ln_sI, hn_sI, hm_sI, fI_sI_n, fI_sR, aI_sR, aL_sR, aR_sR, kd_sR, ln_sR, hn_sR, hm_sR, fR_sR_n, fI_tI, fR_tI, aL_tI, aR_tI, kd_tI, ln_tI, hn_tI, hm_tI, aI_tI_n, fI_tL, fR_tL, aI_tL, aR_tL, kd_tL, ln_tL, hn_tL, hm_tL, aL_tL_n, fI_tR, fR_tR, aI_tR, aL_tR, kd_tR, ln_tR, hn_tR, hm_tR, aR_tR_n, hn_nw, hm_nw, fI_sI_e, fR_sR_e, aI_tI_e, aL_tL_e, aR_tR_e, aL_cfL_n, fI_cfL, fR_cfL, aI_cfL, aR_cfL, kd_cfL, ln_cfL, hn_cfL, hm_cfL, upG_n, upG_e, true_and]
    refine ⟨JG.pl_at hGE, JG.pl_kd hGE, JG.pl_no hGE, JG.py_at hGE, JG.py_kd hGE, JG.py_ln hGE, JG.py_in hGE, JG.sh_at hGE, JG.sh_kd hGE, JG.se_at hGE, JG.se_kd hGE, JG.se_ln hGE, JG.sh_in hGE, JG.se_in hGE, JG.as_at hGE, JG.as_kd hGE, JG.as_no hGE, all_s (fun i hi => ?_) ?_, all_s (fun i hi => ?_) ?_, all_s (fun i hi => ?_) ?_, all_s (fun i hi => ?_) ?_, all_s (fun i hi => ?_) ?_, all_s (fun i hi => ?_) ?_, JG.ru_at hGE, JG.ru_kd hGE, JG.ru_no hGE, JG.rl_at hGE, JG.rl_kd hGE, JG.pe_at hGE, JG.pe_kd hGE, JG.pe_no hGE⟩
    · rw [if_neg (by omega), if_neg (by omega)]; exact hGE.mo_at i hi
    · rw [if_pos rfl, if_pos rfl]
    · rw [if_neg (by omega)]; exact hGE.mo_kd i hi
    · rw [if_pos rfl]; exact kN
    · rw [if_neg (by omega)]; exact hGE.mo_no i hi
    · rw [if_pos rfl]; exact g1
    · rw [if_neg (by omega), if_neg (by omega)]; exact hGE.mw_at i hi
    · rw [if_pos rfl, if_pos rfl]; exact g5
    · rw [if_neg (by omega)]; exact hGE.mw_kd i hi
    · rw [if_pos rfl]; exact kN2
    · rw [if_neg (by omega), if_neg (by omega)]; exact hGE.mw_ln i hi
    · rw [if_pos rfl, if_pos rfl, lN2, nI_clamp (by omega)]
  · unfold JD
    simp (config := {decide := true}) only [fR_sI, aI_sI, aL_sI, aR_sI, kd_sI, ln_sI, hn_sI, hm_sI, fI_sI_n, fI_sR, aI_sR, aL_sR, aR_sR, kd_sR, ln_sR, hn_sR, hm_sR, fR_sR_n, fI_tI, fR_tI, aL_tI, aR_tI, kd_tI, ln_tI, hn_tI, hm_tI, aI_tI_n, fI_tL, fR_tL, aI_tL, aR_tL, kd_tL, ln_tL, hn_tL, hm_tL, aL_tL_n, fI_tR, fR_tR, aI_tR, aL_tR, kd_tR, ln_tR, hn_tR, hm_tR, aR_tR_n, hn_nw, hm_nw, fI_sI_e, fR_sR_e, aI_tI_e, aL_tL_e, aR_tR_e, aL_cfL_n, fI_cfL, fR_cfL, aI_cfL, aR_cfL, kd_cfL, ln_cfL, hn_cfL, hm_cfL, upG_n, true_and]
    refine ⟨JD.d_lev hDE, JD.d_und hDE, JD.d_way hDE, JD.d_ord hDE, JD.d_mad hDE, JD.d_tor hDE, JD.d_cho hDE, JD.d_yes hDE, JD.d_srt hDE, JD.d_siz hDE, JD.d_sha hDE, JD.d_cel hDE, JD.d_at hDE, JD.d_wha hDE, JD.d_who hDE, JD.d_muc hDE, JD.d_wri hDE, JD.d_kin hDE, JD.d_lat hDE, JD.d_gap hDE, JD.d_gon hDE, JD.d_yie hDE, JD.d_wor hDE, ?_, JD.d_int hDE, JD.d_dro hDE, JD.d_wds hDE, JD.d_wdn hDE, all_s (fun i hi => ?_) ?_, all_s (fun i hi => ?_) ?_, all_s (fun i hi => ?_) ?_, ?_, JD.d_rle hDE, JD.d_rda hDE, JD.d_rst hDE, JD.d_ppl hDE, JD.d_pbo hDE, JD.d_cla hDE, JD.d_ref hDE⟩
    · intro i hi
      rw [dec_up (hWE.w_mod i hi)]
      exact hDE.d_mod i hi
    · rw [upG_o _ _ _ _ _ hi, if_neg (by omega)]; exact hDE.d_mwh i hi
    · rw [upG_s, if_pos rfl]; exact g2
    · rw [upG_o _ _ _ _ _ hi, if_neg (by omega)]; exact hDE.d_mda i hi
    · rw [upG_s, if_pos rfl]; exact g4
    · rw [upG_o _ _ _ _ _ hi, if_neg (by omega)]; exact hDE.d_mpl i hi
    · rw [upG_s, if_pos rfl, ep]; exact g3
    · intro i j hi hj
      rw [aL_cfL_e]
      by_cases e : i = nm
      · rw [if_pos e, nI_clamp (by omega)] at hj
        rw [if_pos ⟨rfl, by omega, by omega⟩, e, upG_s, g6 j hj]
        congr 1
        omega
      · rw [if_neg e] at hj
        have := hWE.w_mn i (by omega)
        have e2 := hDE.d_mwd i j (by omega) hj
        obtain ⟨mn, hmn, emn⟩ := rngN (N := 20) this
        rw [emn, nI_clamp (by omega)] at hj
        rw [if_neg (by omega), upG_o _ _ _ _ _ (by omega)]
        exact e2
  · unfold JW
    simp (config := {decide := true}) only [fR_sI, aI_sI, aL_sI, aR_sI, kd_sI, ln_sI, hn_sI, hm_sI, fI_sI_n, fI_sR, aI_sR, aL_sR, aR_sR, kd_sR, ln_sR, hn_sR, hm_sR, fR_sR_n, fI_tI, fR_tI, aL_tI, aR_tI, kd_tI, ln_tI, hn_tI, hm_tI, aI_tI_n, fI_tL, fR_tL, aI_tL, aR_tL, kd_tL, ln_tL, hn_tL, hm_tL, aL_tL_n, fI_tR, fR_tR, aI_tR, aL_tR, kd_tR, ln_tR, hn_tR, hm_tR, aR_tR_n, hn_nw, hm_nw, fI_sI_e, fR_sR_e, aI_tI_e, aL_tL_e, aR_tR_e, aL_cfL_n, fI_cfL, fR_cfL, aI_cfL, aR_cfL, kd_cfL, ln_cfL, hn_cfL, hm_cfL, true_and]
    refine ⟨JW.w_l0 hWE, JW.w_u0 hWE, JW.w_und hWE, JW.w_lev hWE, JW.w_lv3 hWE, JW.w_way hWE, JW.w_hea hWE, JW.w_tor hWE, JW.w_tlv hWE, JW.w_cho hWE, JW.w_c0 hWE, JW.w_mad hWE, JW.w_mlv hWE, JW.w_yes hWE, JW.w_hel hWE, JW.w_srt hWE, JW.w_siz hWE, JW.w_sho hWE, JW.w_at hWE, JW.w_wha hWE, JW.w_who hWE, JW.w_muc hWE, JW.w_wri hWE, JW.w_kin hWE, JW.w_klv hWE, ?_, JW.w_kmo hWE, JW.w_int hWE, JW.w_dro hWE, JW.w_gon hWE, JW.w_lat hWE, JW.w_gap hWE, JW.w_yie hWE, JW.w_wor hWE, JW.w_wdn hWE, JW.w_nsg hWE, JW.w_gto hWE, JW.w_one hWE, all_s (fun i hi => ?_) ?_, all_s (fun i hi => ?_) ?_, all_s (fun i hi => ?_) ?_, all_s (fun i hi => ?_) ?_, JW.w_rle hWE, JW.w_rda hWE, JW.w_rst hWE, JW.w_ppl hWE, JW.w_pbo hWE, JW.w_cla hWE, JW.w_csy hWE, JW.w_now hWE, JW.w_amd hWE, JW.w_hl0 hWE, JW.w_src hWE, JW.w_zgp hWE, JW.w_zyi hWE, JW.w_zwn hWE, JW.w_zma hWE, JW.w_zys hWE⟩
    · intro i hi
      exact (hWE.w_mod i hi).imp id (fun z => vp_le z (by omega))
    · rw [if_neg (by omega)]; exact hWE.w_mwh i hi
    · rw [if_pos rfl]; exact in16.mpr ⟨b1, b2⟩
    · rw [if_neg (by omega)]; exact hWE.w_mpl i hi
    · rw [if_pos rfl]; exact c
    · rw [if_neg (by omega)]; exact hWE.w_mda i hi
    · rw [if_pos rfl]; exact hnow
    · rw [if_neg (by omega)]; exact hWE.w_mn i hi
    · rw [if_pos rfl, nI_toInt (by omega)]; omega
  · unfold JE
    simp (config := {decide := true}) only [fR_sI, aI_sI, aL_sI, aR_sI, kd_sI, ln_sI, hn_sI, hm_sI, fI_sI_n, fI_sR, aI_sR, aL_sR, aR_sR, kd_sR, ln_sR, hn_sR, hm_sR, fR_sR_n, fI_tI, fR_tI, aL_tI, aR_tI, kd_tI, ln_tI, hn_tI, hm_tI, aI_tI_n, fI_tL, fR_tL, aI_tL, aR_tL, kd_tL, ln_tL, hn_tL, hm_tL, aL_tL_n, fI_tR, fR_tR, aI_tR, aL_tR, kd_tR, ln_tR, hn_tR, hm_tR, aR_tR_n, hn_nw, hm_nw, fI_sI_e, fR_sR_e, aI_tI_e, aL_tL_e, aR_tR_e, aL_cfL_n, fI_cfL, fR_cfL, aI_cfL, aR_cfL, kd_cfL, ln_cfL, hn_cfL, hm_cfL, upG_n, true_and]
    refine ⟨JE.e_hs hEE, JE.e_be hEE, JE.e_hb hEE, JE.e_pa hEE, JE.e_pn hEE, ?_, JE.e_ru hEE, JE.e_bs hEE, JE.e_bb hEE⟩
    intro a ha
    have old := hEE.e_lk a ha
    rcases hWE.w_mod a ha with e | e
    · rw [iF_y e] at old ⊢
      exact old
    · obtain ⟨mo, hmo, emo⟩ := vp_ex e
      have n1 : ¬ nI mo = -1 := nI_m1 (by omega)
      have e2 : (nI mo).toNatClampNeg = mo := nI_clamp (by omega)
      obtain ⟨mn, hmn, emn⟩ := rngN (N := 20) (hWE.w_mn mo hmo)
      rw [emo, iF_n n1, e2] at old ⊢
      rw [if_neg (by omega), old]
      have same : ∀ j, j < (aI E 147 (m 147) mo).toNatClampNeg → aL (cfL (tI (tI (tI (tI (sI (tR E 403 (g 0 3) nm (some N)) 1294 x (nI (nm + 1))) 144 (m 144) nm w) 145 (m 145) nm (nI p)) 146 (m 146) nm (fI E 1408 y)) 147 (m 147) nm (nI z)) 313 (m 313) (60 * nm) z (fun t_1 => aL E 310 (m 310) (60 * t + t_1))) 313 (m 313) (60 * mo + j) = aL E 313 (m 313) (60 * mo + j) := by
        intro j hj
        rw [emn, nI_clamp (by omega)] at hj
        rw [aL_cfL_e, if_neg (by omega)]
        rfl
      unfold lcK
      congr 1
      rw [← cD_lcS, ← cD_lcS]
      exact (cD_congr (fun i _ => rfl) (fun j hj => (same j hj))).symm
  · refine ⟨kz, ?_, ?_⟩
    · show hn E ≤ _
      omega
    · show hm E ≤ _
      omega
end MODL
