section WRI8
variable {x y b0 s0 np na nm nr ne : Nat} {g : Nat → Nat → Nat} {m : Nat → Nat} {h : Hp}
theorem K_write (hJ : JA x y b0 s0 np na nm nr ne g m h) (a c d v s : Int32) (Q : Hp → Prop) (hQ : ∀ h2, JJ x y b0 s0 m h2 → Q h2) : w_X10_write (some x) a c d v s h (fun r h1 => w_X11_write (some y) a c d v s h1 (fun r2 h2 => r = r2 ∧ Q h2)) := by
  have hA := hJ.1; unfold JM at hA; have hB := hJ.2.1; unfold JS at hB; have hC := hJ.2.2.1.1; have hR := hJ.rj; have hf := rf_l hJ; have hno := no_l hR; have hno1 := fun k v => no_l (hJ.rj1 k v); have hp := isPlace_e hR; have ha := isAsk_e hR; have hp1 := fun k v => isPlace_e (hJ.rj1 k v); have ha1 := fun k v => isAsk_e (hJ.rj1 k v)
  have hbd := hJ.2.2.1.2
  have hz := hJ.z
  have hW := hJ.2.2.2.2.2.1
  by_cases c0 : vp_in s 8
  rotate_left
  · unfold w_X10_write n_X10_write_0 n_X10_write_25 w_X11_write n_X11_write_0 n_X11_write_16
    by_cases cc : vp_in a np <;>
    · simp only [gI_e, gR_e, pI_e, pZ_e, pR_e, ldI_e, ldZ_e, ldL_e, ldR_e, stI_e, stZ_e, stL_e, stR_e, alN_e, nwA_e, nwO_e, dvI_e, rmI_e, oV_e, oN_e, lt_e, rZ_e, br_T, br_F, fR_sI, aI_sI, aL_sI, aR_sI, kd_sI, ln_sI, hn_sI, hm_sI, fI_sI_n, fI_sR, aI_sR, aL_sR, aR_sR, kd_sR, ln_sR, hn_sR, hm_sR, fR_sR_n, fI_tI, fR_tI, aL_tI, aR_tI, kd_tI, ln_tI, hn_tI, hm_tI, aI_tI_n, fI_tL, fR_tL, aI_tL, aR_tL, kd_tL, ln_tL, hn_tL, hm_tL, aL_tL_n, fI_tR, fR_tR, aI_tR, aL_tR, kd_tR, ln_tR, hn_tR, hm_tR, aR_tR_n, hn_nw, hm_nw, rc400, rc403, rc404, rc405, rc407, rc409, rc420, rc440, bI_0, bI_1, bI_T, bI_F, iF_T, iF_F, br_not, le_nlt, not_true_eq_false, not_false_eq_true, and_self, and_true, true_and, and_false, false_and, or_true, true_or, or_false, false_or, ne_eq, reduceCtorEq, Nat.reduceLeDiff, Nat.reduceEqDiff, Nat.reduceLT, Nat.reduceAdd, Nat.reduceSub, Nat.reduceMul, Int32.reduceLT, Int32.reduceLE, Int32.reduceToNatClampNeg, Int32.reduceAdd, Int32.reduceSub, implies_true, forall_const, isIn_e, bit_e, lits, hA, hB, hC, hf, hno, hno1, hp, ha, hp1, ha1, placeAt_e hJ, askAt_e hJ, modelAt_e hJ, shelfAt_e hJ, isShelf_e, isGroup_e, isAsked_e, rZ_bI, dec_none, dec_s, dec_1, lt_e, c0, cc]
      exact hQ _ (hJ.ref 1 (by decide)).jj
  by_cases cc : vp_in a np
  rotate_left
  · unfold w_X10_write n_X10_write_0 n_X10_write_25 w_X11_write n_X11_write_0 n_X11_write_16
    simp only [gI_e, gR_e, pI_e, pZ_e, pR_e, ldI_e, ldZ_e, ldL_e, ldR_e, stI_e, stZ_e, stL_e, stR_e, alN_e, nwA_e, nwO_e, dvI_e, rmI_e, oV_e, oN_e, lt_e, rZ_e, br_T, br_F, fR_sI, aI_sI, aL_sI, aR_sI, kd_sI, ln_sI, hn_sI, hm_sI, fI_sI_n, fI_sR, aI_sR, aL_sR, aR_sR, kd_sR, ln_sR, hn_sR, hm_sR, fR_sR_n, fI_tI, fR_tI, aL_tI, aR_tI, kd_tI, ln_tI, hn_tI, hm_tI, aI_tI_n, fI_tL, fR_tL, aI_tL, aR_tL, kd_tL, ln_tL, hn_tL, hm_tL, aL_tL_n, fI_tR, fR_tR, aI_tR, aL_tR, kd_tR, ln_tR, hn_tR, hm_tR, aR_tR_n, hn_nw, hm_nw, rc400, rc403, rc404, rc405, rc407, rc409, rc420, rc440, bI_0, bI_1, bI_T, bI_F, iF_T, iF_F, br_not, le_nlt, not_true_eq_false, not_false_eq_true, and_self, and_true, true_and, and_false, false_and, or_true, true_or, or_false, false_or, ne_eq, reduceCtorEq, Nat.reduceLeDiff, Nat.reduceEqDiff, Nat.reduceLT, Nat.reduceAdd, Nat.reduceSub, Nat.reduceMul, Int32.reduceLT, Int32.reduceLE, Int32.reduceToNatClampNeg, Int32.reduceAdd, Int32.reduceSub, implies_true, forall_const, isIn_e, bit_e, lits, hA, hB, hC, hf, hno, hno1, hp, ha, hp1, ha1, placeAt_e hJ, askAt_e hJ, modelAt_e hJ, shelfAt_e hJ, isShelf_e, isGroup_e, isAsked_e, rZ_bI, dec_none, dec_s, dec_1, lt_e, c0, cc]
    exact hQ _ (hJ.ref 1 (by decide)).jj
  obtain ⟨p, hpp, rfl⟩ := vp_ex cc
  obtain ⟨t, htt, rfl⟩ := vp_ex c0
  have ep : (nI p).toNatClampNeg = p := nI_clamp (by omega)
  have et : (nI t).toNatClampNeg = t := nI_clamp (by omega)
  have q := shF hJ htt
  have qp := plF hJ hpp
  rcases hW.w_hel t htt with dh | dh | dh
  · unfold w_X10_write n_X10_write_0 w_X11_write n_X11_write_0
    simp only [gI_e, gR_e, pI_e, pZ_e, pR_e, ldI_e, ldZ_e, ldL_e, ldR_e, stI_e, stZ_e, stL_e, stR_e, alN_e, nwA_e, nwO_e, dvI_e, rmI_e, oV_e, oN_e, lt_e, rZ_e, br_T, br_F, fR_sI, aI_sI, aL_sI, aR_sI, kd_sI, ln_sI, hn_sI, hm_sI, fI_sI_n, fI_sR, aI_sR, aL_sR, aR_sR, kd_sR, ln_sR, hn_sR, hm_sR, fR_sR_n, fI_tI, fR_tI, aL_tI, aR_tI, kd_tI, ln_tI, hn_tI, hm_tI, aI_tI_n, fI_tL, fR_tL, aI_tL, aR_tL, kd_tL, ln_tL, hn_tL, hm_tL, aL_tL_n, fI_tR, fR_tR, aI_tR, aL_tR, kd_tR, ln_tR, hn_tR, hm_tR, aR_tR_n, hn_nw, hm_nw, rc400, rc403, rc404, rc405, rc407, rc409, rc420, rc440, bI_0, bI_1, bI_T, bI_F, iF_T, iF_F, br_not, le_nlt, not_true_eq_false, not_false_eq_true, and_self, and_true, true_and, and_false, false_and, or_true, true_or, or_false, false_or, ne_eq, reduceCtorEq, Nat.reduceLeDiff, Nat.reduceEqDiff, Nat.reduceLT, Nat.reduceAdd, Nat.reduceSub, Nat.reduceMul, Int32.reduceLT, Int32.reduceLE, Int32.reduceToNatClampNeg, Int32.reduceAdd, Int32.reduceSub, implies_true, forall_const, isIn_e, bit_e, lits, hA, hB, hC, hf, hno, hno1, hp, ha, hp1, ha1, placeAt_e hJ, askAt_e hJ, modelAt_e hJ, shelfAt_e hJ, isShelf_e, isGroup_e, isAsked_e, rZ_bI, dec_none, dec_s, dec_1, lt_e, c0, cc, ep, et, dh, rowTrouble_e hJ htt, wants_e (hJ.rj1 _ _) htt]
    exact hQ _ (hJ.ref 3 (by decide)).jj
  rotate_left
  · unfold w_X10_write n_X10_write_0 w_X11_write n_X11_write_0
    simp only [gI_e, gR_e, pI_e, pZ_e, pR_e, ldI_e, ldZ_e, ldL_e, ldR_e, stI_e, stZ_e, stL_e, stR_e, alN_e, nwA_e, nwO_e, dvI_e, rmI_e, oV_e, oN_e, lt_e, rZ_e, br_T, br_F, fR_sI, aI_sI, aL_sI, aR_sI, kd_sI, ln_sI, hn_sI, hm_sI, fI_sI_n, fI_sR, aI_sR, aL_sR, aR_sR, kd_sR, ln_sR, hn_sR, hm_sR, fR_sR_n, fI_tI, fR_tI, aL_tI, aR_tI, kd_tI, ln_tI, hn_tI, hm_tI, aI_tI_n, fI_tL, fR_tL, aI_tL, aR_tL, kd_tL, ln_tL, hn_tL, hm_tL, aL_tL_n, fI_tR, fR_tR, aI_tR, aL_tR, kd_tR, ln_tR, hn_tR, hm_tR, aR_tR_n, hn_nw, hm_nw, rc400, rc403, rc404, rc405, rc407, rc409, rc420, rc440, bI_0, bI_1, bI_T, bI_F, iF_T, iF_F, br_not, le_nlt, not_true_eq_false, not_false_eq_true, and_self, and_true, true_and, and_false, false_and, or_true, true_or, or_false, false_or, ne_eq, reduceCtorEq, Nat.reduceLeDiff, Nat.reduceEqDiff, Nat.reduceLT, Nat.reduceAdd, Nat.reduceSub, Nat.reduceMul, Int32.reduceLT, Int32.reduceLE, Int32.reduceToNatClampNeg, Int32.reduceAdd, Int32.reduceSub, implies_true, forall_const, isIn_e, bit_e, lits, hA, hB, hC, hf, hno, hno1, hp, ha, hp1, ha1, placeAt_e hJ, askAt_e hJ, modelAt_e hJ, shelfAt_e hJ, isShelf_e, isGroup_e, isAsked_e, rZ_bI, dec_none, dec_s, dec_1, lt_e, c0, cc, ep, et, dh, rowTrouble_e hJ htt, wants_e (hJ.rj1 _ _) htt]
    exact hQ _ (hJ.ref 2 (by decide)).jj
  obtain ⟨z, hz60, ez⟩ := rngN (N := 60) (hW.w_siz t htt)
  by_cases ok : wOK h m na p z c d v
  rotate_left
  · refine wC_6 hJ hpp htt dh hz60 ez ok _ ?_
    exact wR_6 (hJ.rj1 5 _) hpp htt dh hz60 ez ok _ ⟨rfl, hQ _ (hJ.ref 6 (by decide)).jj⟩
  obtain ⟨b1, b2, b3, b4, l0, t0, one⟩ := ok
  have z20 : ((20 : Int32) < nI z) = (20 < z) := propext (nI_ltI (a := 20) (by omega) (by omega))
  have t1 : (nI na < 160) = ¬ na = 160 := nI_lt20 (N := 160) hbd.2.2.1 (by decide)
  have cp := cnF hpp (show np ≤ 24 by omega) (by decide)
  have ct := cnF htt (Nat.le_refl 8) (by decide)
  unfold w_X10_write n_X10_write_0
  simp only [gI_e, gR_e, pI_e, pZ_e, pR_e, ldI_e, ldZ_e, ldL_e, ldR_e, stI_e, stZ_e, stL_e, stR_e, alN_e, nwA_e, nwO_e, dvI_e, rmI_e, oV_e, oN_e, lt_e, rZ_e, br_T, br_F, fR_sI, aI_sI, aL_sI, aR_sI, kd_sI, ln_sI, hn_sI, hm_sI, fI_sI_n, fI_sR, aI_sR, aL_sR, aR_sR, kd_sR, ln_sR, hn_sR, hm_sR, fR_sR_n, fI_tI, fR_tI, aL_tI, aR_tI, kd_tI, ln_tI, hn_tI, hm_tI, aI_tI_n, fI_tL, fR_tL, aI_tL, aR_tL, kd_tL, ln_tL, hn_tL, hm_tL, aL_tL_n, fI_tR, fR_tR, aI_tR, aL_tR, kd_tR, ln_tR, hn_tR, hm_tR, aR_tR_n, hn_nw, hm_nw, rc400, rc403, rc404, rc405, rc407, rc409, rc420, rc440, bI_0, bI_1, bI_T, bI_F, iF_T, iF_F, br_not, le_nlt, not_true_eq_false, not_false_eq_true, and_self, and_true, true_and, and_false, false_and, or_true, true_or, or_false, false_or, ne_eq, reduceCtorEq, Nat.reduceLeDiff, Nat.reduceEqDiff, Nat.reduceLT, Nat.reduceAdd, Nat.reduceSub, Nat.reduceMul, Int32.reduceLT, Int32.reduceLE, Int32.reduceToNatClampNeg, Int32.reduceAdd, Int32.reduceSub, implies_true, forall_const, isIn_e, bit_e, lits, hA, hB, hC, hf, hno, hno1, hp, ha, hp1, ha1, placeAt_e hJ, askAt_e hJ, modelAt_e hJ, shelfAt_e hJ, isShelf_e, isGroup_e, isAsked_e, rZ_bI, dec_none, dec_s, dec_1, lt_e, c0, cc, ep, et, q, dh, ez, rowTrouble_e hJ htt, b1, b2, b3, z20, b4, if_true]
  refine mayW_e hJ hpp c d _ ?_
  rw [bI_y ⟨l0, t0, one⟩]
  by_cases n20 : na = 160
  · simp only [gI_e, gR_e, pI_e, pZ_e, pR_e, ldI_e, ldZ_e, ldL_e, ldR_e, stI_e, stZ_e, stL_e, stR_e, alN_e, nwA_e, nwO_e, dvI_e, rmI_e, oV_e, oN_e, lt_e, rZ_e, br_T, br_F, fR_sI, aI_sI, aL_sI, aR_sI, kd_sI, ln_sI, hn_sI, hm_sI, fI_sI_n, fI_sR, aI_sR, aL_sR, aR_sR, kd_sR, ln_sR, hn_sR, hm_sR, fR_sR_n, fI_tI, fR_tI, aL_tI, aR_tI, kd_tI, ln_tI, hn_tI, hm_tI, aI_tI_n, fI_tL, fR_tL, aI_tL, aR_tL, kd_tL, ln_tL, hn_tL, hm_tL, aL_tL_n, fI_tR, fR_tR, aI_tR, aL_tR, kd_tR, ln_tR, hn_tR, hm_tR, aR_tR_n, hn_nw, hm_nw, rc400, rc403, rc404, rc405, rc407, rc409, rc420, rc440, bI_0, bI_1, bI_T, bI_F, iF_T, iF_F, br_not, le_nlt, not_true_eq_false, not_false_eq_true, and_self, and_true, true_and, and_false, false_and, or_true, true_or, or_false, false_or, ne_eq, reduceCtorEq, Nat.reduceLeDiff, Nat.reduceEqDiff, Nat.reduceLT, Nat.reduceAdd, Nat.reduceSub, Nat.reduceMul, Int32.reduceLT, Int32.reduceLE, Int32.reduceToNatClampNeg, Int32.reduceAdd, Int32.reduceSub, implies_true, forall_const, isIn_e, bit_e, lits, hA, hB, hC, hf, hno, hno1, hp, ha, hp1, ha1, placeAt_e hJ, askAt_e hJ, modelAt_e hJ, shelfAt_e hJ, isShelf_e, isGroup_e, isAsked_e, rZ_bI, dec_none, dec_s, dec_1, lt_e, t1, eq_true n20]
    have hR1 := hJ.rj1 6 (aI h 110 (g 0 6) 6 + 1)
    have hp2 := isPlace_e hR1
    have hw2 := fun Q => wants_e hR1 htt Q
    unfold w_X11_write n_X11_write_0
    simp only [gI_e, gR_e, pI_e, pZ_e, pR_e, ldI_e, ldZ_e, ldL_e, ldR_e, stI_e, stZ_e, stL_e, stR_e, alN_e, nwA_e, nwO_e, dvI_e, rmI_e, oV_e, oN_e, lt_e, rZ_e, br_T, br_F, fR_sI, aI_sI, aL_sI, aR_sI, kd_sI, ln_sI, hn_sI, hm_sI, fI_sI_n, fI_sR, aI_sR, aL_sR, aR_sR, kd_sR, ln_sR, hn_sR, hm_sR, fR_sR_n, fI_tI, fR_tI, aL_tI, aR_tI, kd_tI, ln_tI, hn_tI, hm_tI, aI_tI_n, fI_tL, fR_tL, aI_tL, aR_tL, kd_tL, ln_tL, hn_tL, hm_tL, aL_tL_n, fI_tR, fR_tR, aI_tR, aL_tR, kd_tR, ln_tR, hn_tR, hm_tR, aR_tR_n, hn_nw, hm_nw, rc400, rc403, rc404, rc405, rc407, rc409, rc420, rc440, bI_0, bI_1, bI_T, bI_F, iF_T, iF_F, br_not, le_nlt, not_true_eq_false, not_false_eq_true, and_self, and_true, true_and, and_false, false_and, or_true, true_or, or_false, false_or, ne_eq, reduceCtorEq, Nat.reduceLeDiff, Nat.reduceEqDiff, Nat.reduceLT, Nat.reduceAdd, Nat.reduceSub, Nat.reduceMul, Int32.reduceLT, Int32.reduceLE, Int32.reduceToNatClampNeg, Int32.reduceAdd, Int32.reduceSub, implies_true, forall_const, isIn_e, bit_e, lits, hA, hB, hC, hf, hno, hno1, hp, ha, hp1, ha1, placeAt_e hJ, askAt_e hJ, modelAt_e hJ, shelfAt_e hJ, isShelf_e, isGroup_e, isAsked_e, rZ_bI, dec_none, dec_s, dec_1, lt_e, hp2, hw2, c0, cc, cp, ct, dh, ez, l0, b1, b2, b3, t0, z20, b4]
    exact hasR_e hR1 hpp c d v _ (fun w => absurd w one) (fun _ _ => ⟨rfl, hQ _ (hJ.ref 7 (by decide)).jj⟩) (fun _ w => absurd n20 (by omega)) l0
  have hna : na < 160 := by omega
  have p0 : ¬ p = 0 := by
    intro w
    rw [w, hW.w_l0] at l0
    exact absurd l0 (by decide)
  obtain ⟨u, u1, u2, -⟩ := hW.w_und p (by omega) hpp
  have hu : u < np := by omega
  have un1 : ¬ nI u = -1 := nI_m1 (by omega)
  have eu : (nI u).toNatClampNeg = u := nI_clamp (by omega)
  have qu := plF hJ hu
  have nN : (hn h = hn h + 1) = False := eq_false (by omega)
  have nn2 : ∀ {a : Nat}, kd h a ≠ 0 → (a = hn h + 1) = False := fun {a} ha => eq_false fun w => ha (by rw [w]; exact hJ.2.2.2.2.2.2.2.1 _ (by omega))
  simp (config := {decide := true}) only [gI_e, gR_e, pI_e, pZ_e, pR_e, ldI_e, ldZ_e, ldL_e, ldR_e, stI_e, stZ_e, stL_e, stR_e, alN_e, nwA_e, nwO_e, dvI_e, rmI_e, oV_e, oN_e, lt_e, rZ_e, br_T, br_F, fR_sI, aI_sI, aL_sI, aR_sI, kd_sI, ln_sI, hn_sI, hm_sI, fI_sI_n, fI_sR, aI_sR, aL_sR, aR_sR, kd_sR, ln_sR, hn_sR, hm_sR, fR_sR_n, fI_tI, fR_tI, aL_tI, aR_tI, kd_tI, ln_tI, hn_tI, hm_tI, aI_tI_n, fI_tL, fR_tL, aI_tL, aR_tL, kd_tL, ln_tL, hn_tL, hm_tL, aL_tL_n, fI_tR, fR_tR, aI_tR, aL_tR, kd_tR, ln_tR, hn_tR, hm_tR, aR_tR_n, hn_nw, hm_nw, rc400, rc403, rc404, rc405, rc407, rc409, rc420, rc440, bI_0, bI_1, bI_T, bI_F, iF_T, iF_F, br_not, le_nlt, not_true_eq_false, not_false_eq_true, and_self, and_true, true_and, and_false, false_and, or_true, true_or, or_false, false_or, ne_eq, reduceCtorEq, Nat.reduceLeDiff, Nat.reduceEqDiff, Nat.reduceLT, Nat.reduceAdd, Nat.reduceSub, Nat.reduceMul, Int32.reduceLT, Int32.reduceLE, Int32.reduceToNatClampNeg, Int32.reduceAdd, Int32.reduceSub, implies_true, forall_const, isIn_e, bit_e, lits, hA, hB, hC, hf, hno, hno1, hp, ha, hp1, ha1, placeAt_e hJ, askAt_e hJ, modelAt_e hJ, shelfAt_e hJ, isShelf_e, isGroup_e, isAsked_e, rZ_bI, dec_none, dec_s, dec_1, lt_e, kd_nw, ln_nw, fI_nw, fR_nw, if_true, if_false, nn_f hz, t1, n20, w_X0_init, n_X0_init_0, w_X9_rowCopy, n_X9_rowCopy_0, q, dh, ez, if_true]
  refine ⟨g 8 t, rfl, ?_, nI_pos (by omega), ?_, ?_, ?_⟩
  · simp (config := {decide := true}) only [fR_sI, aI_sI, aL_sI, aR_sI, kd_sI, ln_sI, hn_sI, hm_sI, fI_sI_n, fI_sR, aI_sR, aL_sR, aR_sR, kd_sR, ln_sR, hn_sR, hm_sR, fR_sR_n, fI_tI, fR_tI, aL_tI, aR_tI, kd_tI, ln_tI, hn_tI, hm_tI, aI_tI_n, fI_tL, fR_tL, aI_tL, aR_tL, kd_tL, ln_tL, hn_tL, hm_tL, aL_tL_n, fI_tR, fR_tR, aI_tR, aL_tR, kd_tR, ln_tR, hn_tR, hm_tR, aR_tR_n, hn_nw, hm_nw, kd_nw, ln_nw, fI_nw, fR_nw, if_true, if_false, nn_f hz, q]
  · simp (config := {decide := true}) only [fR_sI, aI_sI, aL_sI, aR_sI, kd_sI, ln_sI, hn_sI, hm_sI, fI_sI_n, fI_sR, aI_sR, aL_sR, aR_sR, kd_sR, ln_sR, hn_sR, hm_sR, fR_sR_n, fI_tI, fR_tI, aL_tI, aR_tI, kd_tI, ln_tI, hn_tI, hm_tI, aI_tI_n, fI_tL, fR_tL, aI_tL, aR_tL, kd_tL, ln_tL, hn_tL, hm_tL, aL_tL_n, fI_tR, fR_tR, aI_tR, aL_tR, kd_tR, ln_tR, hn_tR, hm_tR, aR_tR_n, hn_nw, hm_nw, kd_nw, ln_nw, fI_nw, fR_nw, if_true, if_false, nn_f hz, q]
    rw [nI_clamp (by omega)]
    exact hz60
  · simp (config := {decide := true}) only [fR_sI, aI_sI, aL_sI, aR_sI, kd_sI, ln_sI, hn_sI, hm_sI, fI_sI_n, fI_sR, aI_sR, aL_sR, aR_sR, kd_sR, ln_sR, hn_sR, hm_sR, fR_sR_n, fI_tI, fR_tI, aL_tI, aR_tI, kd_tI, ln_tI, hn_tI, hm_tI, aI_tI_n, fI_tL, fR_tL, aI_tL, aR_tL, kd_tL, ln_tL, hn_tL, hm_tL, aL_tL_n, fI_tR, fR_tR, aI_tR, aL_tR, kd_tR, ln_tR, hn_tR, hm_tR, aR_tR_n, hn_nw, hm_nw, kd_nw, ln_nw, fI_nw, fR_nw, if_true, if_false, nn_f hz, q]
  rw [nI_clamp (n := z) (by omega)]
  simp (config := {decide := true}) only [gI_e, gR_e, pI_e, pZ_e, pR_e, ldI_e, ldZ_e, ldL_e, ldR_e, stI_e, stZ_e, stL_e, stR_e, alN_e, nwA_e, nwO_e, dvI_e, rmI_e, oV_e, oN_e, lt_e, rZ_e, br_T, br_F, fR_sI, aI_sI, aL_sI, aR_sI, kd_sI, ln_sI, hn_sI, hm_sI, fI_sI_n, fI_sR, aI_sR, aL_sR, aR_sR, kd_sR, ln_sR, hn_sR, hm_sR, fR_sR_n, fI_tI, fR_tI, aL_tI, aR_tI, kd_tI, ln_tI, hn_tI, hm_tI, aI_tI_n, fI_tL, fR_tL, aI_tL, aR_tL, kd_tL, ln_tL, hn_tL, hm_tL, aL_tL_n, fI_tR, fR_tR, aI_tR, aL_tR, kd_tR, ln_tR, hn_tR, hm_tR, aR_tR_n, hn_nw, hm_nw, rc400, rc403, rc404, rc405, rc407, rc409, rc420, rc440, bI_0, bI_1, bI_T, bI_F, iF_T, iF_F, br_not, le_nlt, not_true_eq_false, not_false_eq_true, and_self, and_true, true_and, and_false, false_and, or_true, true_or, or_false, false_or, ne_eq, reduceCtorEq, Nat.reduceLeDiff, Nat.reduceEqDiff, Nat.reduceLT, Nat.reduceAdd, Nat.reduceSub, Nat.reduceMul, Int32.reduceLT, Int32.reduceLE, Int32.reduceToNatClampNeg, Int32.reduceAdd, Int32.reduceSub, implies_true, forall_const, isIn_e, bit_e, lits, hA, hB, hC, hf, hno, hno1, hp, ha, hp1, ha1, placeAt_e hJ, askAt_e hJ, modelAt_e hJ, shelfAt_e hJ, isShelf_e, isGroup_e, isAsked_e, rZ_bI, dec_none, dec_s, dec_1, lt_e, kd_cpN, ln_cpN, fI_cpN, fR_cpN, hn_cpN, kd_nw, ln_nw, fI_nw, fR_nw, if_true, if_false, nn_f hz, nn2, nN, hn_nw, qp, qu, u2, dec_s _ un1, eu]
  refine late_i (hW.w_mad u hu) ?_
  unfold n_X10_write_184
  have lt01 := hW.w_mad u hu
  simp (config := {decide := true}) only [gI_e, gR_e, pI_e, pZ_e, pR_e, ldI_e, ldZ_e, ldL_e, ldR_e, stI_e, stZ_e, stL_e, stR_e, alN_e, nwA_e, nwO_e, dvI_e, rmI_e, oV_e, oN_e, lt_e, rZ_e, br_T, br_F, fR_sI, aI_sI, aL_sI, aR_sI, kd_sI, ln_sI, hn_sI, hm_sI, fI_sI_n, fI_sR, aI_sR, aL_sR, aR_sR, kd_sR, ln_sR, hn_sR, hm_sR, fR_sR_n, fI_tI, fR_tI, aL_tI, aR_tI, kd_tI, ln_tI, hn_tI, hm_tI, aI_tI_n, fI_tL, fR_tL, aI_tL, aR_tL, kd_tL, ln_tL, hn_tL, hm_tL, aL_tL_n, fI_tR, fR_tR, aI_tR, aL_tR, kd_tR, ln_tR, hn_tR, hm_tR, aR_tR_n, hn_nw, hm_nw, rc400, rc403, rc404, rc405, rc407, rc409, rc420, rc440, bI_0, bI_1, bI_T, bI_F, iF_T, iF_F, br_not, le_nlt, not_true_eq_false, not_false_eq_true, and_self, and_true, true_and, and_false, false_and, or_true, true_or, or_false, false_or, ne_eq, reduceCtorEq, Nat.reduceLeDiff, Nat.reduceEqDiff, Nat.reduceLT, Nat.reduceAdd, Nat.reduceSub, Nat.reduceMul, Int32.reduceLT, Int32.reduceLE, Int32.reduceToNatClampNeg, Int32.reduceAdd, Int32.reduceSub, implies_true, forall_const, isIn_e, bit_e, lits, hA, hB, hC, hf, hno, hno1, hp, ha, hp1, ha1, placeAt_e hJ, askAt_e hJ, modelAt_e hJ, shelfAt_e hJ, isShelf_e, isGroup_e, isAsked_e, rZ_bI, dec_none, dec_s, dec_1, lt_e, kd_cpN, ln_cpN, fI_cpN, fR_cpN, hn_cpN, kd_nw, ln_nw, fI_nw, fR_nw, if_true, if_false, nn_f hz, nn2, nN, hn_nw, lt01]
  generalize hEq : sI (sI (sR (cpN (sI (sI (sI (sI (sR (sI (sI (sI (sI (nw h 1 19) 14 (hn h) (-1)) 18 (hn h) (-1)) 0 (hn h) (nI na)) 6 (hn h) 0) 1 (hn h) (some (g 1 p))) 2 (hn h) c) 3 (hn h) d) 4 (hn h) v) 5 (hn h) (fI h 1408 y)) (g 8 t) z) 8 (hn h) (some (hn h + 1))) 7 (hn h) (fI h 646 (g 1 p))) 12 (hn h) (aI h 200 (m 200) u) = E
  have eO : eqO h E := by
    rw [← hEq]
    refine (((eqO_cpN (((((((((((eqO.rf h).nw hz 1 19).sI hz _ _).sI hz _ _).sI hz _ _).sI hz _ _).sR hz _ _).sI hz _ _).sI hz _ _).sI hz _ _).sI hz _ _) ?_ (g 8 t) z).sR hz _ _).sI hz _ _).sI hz _ _
    show kd (nw h 1 19) (hn h + 1) = 0
    rw [kd_nw_o _ _ _ _ (by omega)]
    exact hJ.2.2.2.2.2.2.2.1 _ (by omega)
  have hnE : hn E = hn h + 2 := by rw [← hEq]; rfl
  have hmE : hm E = hm h + 19 + z := by rw [← hEq]; rfl
  have kz : ∀ a, hn E ≤ a → kd E a = 0 := by
    intro a ha
    rw [← hEq]
    show kd (cpN (nw h 1 19) (g 8 t) z) a = 0
    rw [kd_cpN, if_neg (by rw [hn_nw]; omega), kd_nw_o _ _ _ _ (by omega)]
    exact hJ.2.2.2.2.2.2.2.1 a (by omega)
  have eOB : ∀ a b v, eqO h (Ebk E (hn h) a b v) := fun a b v => ((eO.sI hz _ _).sR hz _ _).sI hz _ _
  have hJE : ∀ a b v, JA x y (b0 + 2) (s0 + (19 + z)) np na nm nr ne g m (Ebk E (hn h) a b v) := fun a b v => hJ.ext (eOB a b v) 2 (19 + z) kz (by show hn E ≤ _; omega) (by show hm E ≤ _; omega)
  have n8 : (g 8 t = hn h) = False := nn_f hz (by rw [q.2.2.2.1]; decide)
  have k1 : kd E (hn h) = 1 := by rw [← hEq]; simp (config := {decide := true}) only [fR_sI, aI_sI, aL_sI, aR_sI, kd_sI, ln_sI, hn_sI, hm_sI, fI_sI_n, fI_sR, aI_sR, aL_sR, aR_sR, kd_sR, ln_sR, hn_sR, hm_sR, fR_sR_n, fI_tI, fR_tI, aL_tI, aR_tI, kd_tI, ln_tI, hn_tI, hm_tI, aI_tI_n, fI_tL, fR_tL, aI_tL, aR_tL, kd_tL, ln_tL, hn_tL, hm_tL, aL_tL_n, fI_tR, fR_tR, aI_tR, aL_tR, kd_tR, ln_tR, hn_tR, hm_tR, aR_tR_n, hn_nw, hm_nw, kd_cpN, ln_cpN, fI_cpN, fR_cpN, hn_cpN, kd_nw, ln_nw, fI_nw, fR_nw, if_true, if_false, nn_f hz, nN]
  have k2 : kd E (hn h + 1) = 399 := by rw [← hEq]; simp (config := {decide := true}) only [fR_sI, aI_sI, aL_sI, aR_sI, kd_sI, ln_sI, hn_sI, hm_sI, fI_sI_n, fI_sR, aI_sR, aL_sR, aR_sR, kd_sR, ln_sR, hn_sR, hm_sR, fR_sR_n, fI_tI, fR_tI, aL_tI, aR_tI, kd_tI, ln_tI, hn_tI, hm_tI, aI_tI_n, fI_tL, fR_tL, aI_tL, aR_tL, kd_tL, ln_tL, hn_tL, hm_tL, aL_tL_n, fI_tR, fR_tR, aI_tR, aL_tR, kd_tR, ln_tR, hn_tR, hm_tR, aR_tR_n, hn_nw, hm_nw, kd_cpN, ln_cpN, fI_cpN, fR_cpN, hn_cpN, kd_nw, ln_nw, fI_nw, fR_nw, if_true, if_false, nn_f hz]
  have k3 : ln E (hn h + 1) = z := by rw [← hEq]; simp (config := {decide := true}) only [fR_sI, aI_sI, aL_sI, aR_sI, kd_sI, ln_sI, hn_sI, hm_sI, fI_sI_n, fI_sR, aI_sR, aL_sR, aR_sR, kd_sR, ln_sR, hn_sR, hm_sR, fR_sR_n, fI_tI, fR_tI, aL_tI, aR_tI, kd_tI, ln_tI, hn_tI, hm_tI, aI_tI_n, fI_tL, fR_tL, aI_tL, aR_tL, kd_tL, ln_tL, hn_tL, hm_tL, aL_tL_n, fI_tR, fR_tR, aI_tR, aL_tR, kd_tR, ln_tR, hn_tR, hm_tR, aR_tR_n, hn_nw, hm_nw, kd_cpN, ln_cpN, fI_cpN, fR_cpN, hn_cpN, kd_nw, ln_nw, fI_nw, fR_nw, if_true, if_false, nn_f hz]
  have k4 : ∀ j, j < z → aL E 399 (hn h + 1) j = aL h 310 (m 310) (60 * t + j) := by
    intro j hj
    rw [← hEq]
    generalize hX : sI (sI (sI (sI (sR (sI (sI (sI (sI (nw h 1 19) 14 (hn h) (-1)) 18 (hn h) (-1)) 0 (hn h) (nI na)) 6 (hn h) 0) 1 (hn h) (some (g 1 p))) 2 (hn h) c) 3 (hn h) d) 4 (hn h) v) 5 (hn h) (fI h 1408 y) = X
    have x1 : hn X = hn h + 1 := by rw [← hX]; rfl
    have x2 : kd X = kd (nw h 1 19) := by rw [← hX]; rfl
    have x3 : aL X = aL (nw h 1 19) := by rw [← hX]; rfl
    show aL (cpN X (g 8 t) z) 399 (hn h + 1) j = _
    rw [← x1, aL_cpN _ _ _ 0 _ hj, x2, x3, kd_nw_o _ _ _ _ (fun w => by rw [n8] at w; exact w), q.2.2.2.1, aL_nw_o _ _ _ _ _ _ (fun w => by rw [n8] at w; exact w)]
    exact hJ.2.2.2.2.1.d_cel t j htt (by omega) dh
  have f0 : fI E 0 (hn h) = nI na := by rw [← hEq]; simp (config := {decide := true}) only [fR_sI, aI_sI, aL_sI, aR_sI, kd_sI, ln_sI, hn_sI, hm_sI, fI_sI_n, fI_sR, aI_sR, aL_sR, aR_sR, kd_sR, ln_sR, hn_sR, hm_sR, fR_sR_n, fI_tI, fR_tI, aL_tI, aR_tI, kd_tI, ln_tI, hn_tI, hm_tI, aI_tI_n, fI_tL, fR_tL, aI_tL, aR_tL, kd_tL, ln_tL, hn_tL, hm_tL, aL_tL_n, fI_tR, fR_tR, aI_tR, aL_tR, kd_tR, ln_tR, hn_tR, hm_tR, aR_tR_n, hn_nw, hm_nw, fI_sI_e, fR_sR_e, aI_tI_e, aL_tL_e, aR_tR_e, kd_cpN, ln_cpN, fI_cpN, fR_cpN, hn_cpN, kd_nw, ln_nw, fI_nw, fR_nw, if_true, if_false, nn_f hz, nN]
  have f1 : fR E 1 (hn h) = some (g 1 p) := by rw [← hEq]; simp (config := {decide := true}) only [fR_sI, aI_sI, aL_sI, aR_sI, kd_sI, ln_sI, hn_sI, hm_sI, fI_sI_n, fI_sR, aI_sR, aL_sR, aR_sR, kd_sR, ln_sR, hn_sR, hm_sR, fR_sR_n, fI_tI, fR_tI, aL_tI, aR_tI, kd_tI, ln_tI, hn_tI, hm_tI, aI_tI_n, fI_tL, fR_tL, aI_tL, aR_tL, kd_tL, ln_tL, hn_tL, hm_tL, aL_tL_n, fI_tR, fR_tR, aI_tR, aL_tR, kd_tR, ln_tR, hn_tR, hm_tR, aR_tR_n, hn_nw, hm_nw, fI_sI_e, fR_sR_e, aI_tI_e, aL_tL_e, aR_tR_e, kd_cpN, ln_cpN, fI_cpN, fR_cpN, hn_cpN, kd_nw, ln_nw, fI_nw, fR_nw, if_true, if_false, nn_f hz, nN]
  have f2 : fI E 2 (hn h) = c := by rw [← hEq]; simp (config := {decide := true}) only [fR_sI, aI_sI, aL_sI, aR_sI, kd_sI, ln_sI, hn_sI, hm_sI, fI_sI_n, fI_sR, aI_sR, aL_sR, aR_sR, kd_sR, ln_sR, hn_sR, hm_sR, fR_sR_n, fI_tI, fR_tI, aL_tI, aR_tI, kd_tI, ln_tI, hn_tI, hm_tI, aI_tI_n, fI_tL, fR_tL, aI_tL, aR_tL, kd_tL, ln_tL, hn_tL, hm_tL, aL_tL_n, fI_tR, fR_tR, aI_tR, aL_tR, kd_tR, ln_tR, hn_tR, hm_tR, aR_tR_n, hn_nw, hm_nw, fI_sI_e, fR_sR_e, aI_tI_e, aL_tL_e, aR_tR_e, kd_cpN, ln_cpN, fI_cpN, fR_cpN, hn_cpN, kd_nw, ln_nw, fI_nw, fR_nw, if_true, if_false, nn_f hz, nN]
  have f3 : fI E 3 (hn h) = d := by rw [← hEq]; simp (config := {decide := true}) only [fR_sI, aI_sI, aL_sI, aR_sI, kd_sI, ln_sI, hn_sI, hm_sI, fI_sI_n, fI_sR, aI_sR, aL_sR, aR_sR, kd_sR, ln_sR, hn_sR, hm_sR, fR_sR_n, fI_tI, fR_tI, aL_tI, aR_tI, kd_tI, ln_tI, hn_tI, hm_tI, aI_tI_n, fI_tL, fR_tL, aI_tL, aR_tL, kd_tL, ln_tL, hn_tL, hm_tL, aL_tL_n, fI_tR, fR_tR, aI_tR, aL_tR, kd_tR, ln_tR, hn_tR, hm_tR, aR_tR_n, hn_nw, hm_nw, fI_sI_e, fR_sR_e, aI_tI_e, aL_tL_e, aR_tR_e, kd_cpN, ln_cpN, fI_cpN, fR_cpN, hn_cpN, kd_nw, ln_nw, fI_nw, fR_nw, if_true, if_false, nn_f hz, nN]
  have f4 : fI E 4 (hn h) = v := by rw [← hEq]; simp (config := {decide := true}) only [fR_sI, aI_sI, aL_sI, aR_sI, kd_sI, ln_sI, hn_sI, hm_sI, fI_sI_n, fI_sR, aI_sR, aL_sR, aR_sR, kd_sR, ln_sR, hn_sR, hm_sR, fR_sR_n, fI_tI, fR_tI, aL_tI, aR_tI, kd_tI, ln_tI, hn_tI, hm_tI, aI_tI_n, fI_tL, fR_tL, aI_tL, aR_tL, kd_tL, ln_tL, hn_tL, hm_tL, aL_tL_n, fI_tR, fR_tR, aI_tR, aL_tR, kd_tR, ln_tR, hn_tR, hm_tR, aR_tR_n, hn_nw, hm_nw, fI_sI_e, fR_sR_e, aI_tI_e, aL_tL_e, aR_tR_e, kd_cpN, ln_cpN, fI_cpN, fR_cpN, hn_cpN, kd_nw, ln_nw, fI_nw, fR_nw, if_true, if_false, nn_f hz, nN]
  have f5 : fI E 5 (hn h) = fI h 1408 y := by rw [← hEq]; simp (config := {decide := true}) only [fR_sI, aI_sI, aL_sI, aR_sI, kd_sI, ln_sI, hn_sI, hm_sI, fI_sI_n, fI_sR, aI_sR, aL_sR, aR_sR, kd_sR, ln_sR, hn_sR, hm_sR, fR_sR_n, fI_tI, fR_tI, aL_tI, aR_tI, kd_tI, ln_tI, hn_tI, hm_tI, aI_tI_n, fI_tL, fR_tL, aI_tL, aR_tL, kd_tL, ln_tL, hn_tL, hm_tL, aL_tL_n, fI_tR, fR_tR, aI_tR, aL_tR, kd_tR, ln_tR, hn_tR, hm_tR, aR_tR_n, hn_nw, hm_nw, fI_sI_e, fR_sR_e, aI_tI_e, aL_tL_e, aR_tR_e, kd_cpN, ln_cpN, fI_cpN, fR_cpN, hn_cpN, kd_nw, ln_nw, fI_nw, fR_nw, if_true, if_false, nn_f hz, nN]
  have f6 : fI E 6 (hn h) = 0 := by rw [← hEq]; simp (config := {decide := true}) only [fR_sI, aI_sI, aL_sI, aR_sI, kd_sI, ln_sI, hn_sI, hm_sI, fI_sI_n, fI_sR, aI_sR, aL_sR, aR_sR, kd_sR, ln_sR, hn_sR, hm_sR, fR_sR_n, fI_tI, fR_tI, aL_tI, aR_tI, kd_tI, ln_tI, hn_tI, hm_tI, aI_tI_n, fI_tL, fR_tL, aI_tL, aR_tL, kd_tL, ln_tL, hn_tL, hm_tL, aL_tL_n, fI_tR, fR_tR, aI_tR, aL_tR, kd_tR, ln_tR, hn_tR, hm_tR, aR_tR_n, hn_nw, hm_nw, fI_sI_e, fR_sR_e, aI_tI_e, aL_tL_e, aR_tR_e, kd_cpN, ln_cpN, fI_cpN, fR_cpN, hn_cpN, kd_nw, ln_nw, fI_nw, fR_nw, if_true, if_false, nn_f hz, nN]
  have f7 : fI E 7 (hn h) = aI h 124 (m 124) p := by
    have e646 : fI h 646 (g 1 p) = aI h 124 (m 124) p := by rw [hJ.2.2.2.2.2.2.1.e_hs p hpp]; exact hsP_leaf hW (by omega) hpp l0
    rw [← e646, ← hEq]; simp (config := {decide := true}) only [fR_sI, aI_sI, aL_sI, aR_sI, kd_sI, ln_sI, hn_sI, hm_sI, fI_sI_n, fI_sR, aI_sR, aL_sR, aR_sR, kd_sR, ln_sR, hn_sR, hm_sR, fR_sR_n, fI_tI, fR_tI, aL_tI, aR_tI, kd_tI, ln_tI, hn_tI, hm_tI, aI_tI_n, fI_tL, fR_tL, aI_tL, aR_tL, kd_tL, ln_tL, hn_tL, hm_tL, aL_tL_n, fI_tR, fR_tR, aI_tR, aL_tR, kd_tR, ln_tR, hn_tR, hm_tR, aR_tR_n, hn_nw, hm_nw, fI_sI_e, fR_sR_e, aI_tI_e, aL_tL_e, aR_tR_e, kd_cpN, ln_cpN, fI_cpN, fR_cpN, hn_cpN, kd_nw, ln_nw, fI_nw, fR_nw, if_true, if_false, nn_f hz, nN]
  have f8 : fR E 8 (hn h) = some (hn h + 1) := by rw [← hEq]; simp (config := {decide := true}) only [fR_sI, aI_sI, aL_sI, aR_sI, kd_sI, ln_sI, hn_sI, hm_sI, fI_sI_n, fI_sR, aI_sR, aL_sR, aR_sR, kd_sR, ln_sR, hn_sR, hm_sR, fR_sR_n, fI_tI, fR_tI, aL_tI, aR_tI, kd_tI, ln_tI, hn_tI, hm_tI, aI_tI_n, fI_tL, fR_tL, aI_tL, aR_tL, kd_tL, ln_tL, hn_tL, hm_tL, aL_tL_n, fI_tR, fR_tR, aI_tR, aL_tR, kd_tR, ln_tR, hn_tR, hm_tR, aR_tR_n, hn_nw, hm_nw, fI_sI_e, fR_sR_e, aI_tI_e, aL_tL_e, aR_tR_e, kd_cpN, ln_cpN, fI_cpN, fR_cpN, hn_cpN, kd_nw, ln_nw, fI_nw, fR_nw, if_true, if_false, nn_f hz, nN]
  have f9 : fR E 9 (hn h) = none := by rw [← hEq]; simp (config := {decide := true}) only [fR_sI, aI_sI, aL_sI, aR_sI, kd_sI, ln_sI, hn_sI, hm_sI, fI_sI_n, fI_sR, aI_sR, aL_sR, aR_sR, kd_sR, ln_sR, hn_sR, hm_sR, fR_sR_n, fI_tI, fR_tI, aL_tI, aR_tI, kd_tI, ln_tI, hn_tI, hm_tI, aI_tI_n, fI_tL, fR_tL, aI_tL, aR_tL, kd_tL, ln_tL, hn_tL, hm_tL, aL_tL_n, fI_tR, fR_tR, aI_tR, aL_tR, kd_tR, ln_tR, hn_tR, hm_tR, aR_tR_n, hn_nw, hm_nw, fI_sI_e, fR_sR_e, aI_tI_e, aL_tL_e, aR_tR_e, kd_cpN, ln_cpN, fI_cpN, fR_cpN, hn_cpN, kd_nw, ln_nw, fI_nw, fR_nw, if_true, if_false, nn_f hz, nN]
  have f10 : fR E 10 (hn h) = none := by rw [← hEq]; simp (config := {decide := true}) only [fR_sI, aI_sI, aL_sI, aR_sI, kd_sI, ln_sI, hn_sI, hm_sI, fI_sI_n, fI_sR, aI_sR, aL_sR, aR_sR, kd_sR, ln_sR, hn_sR, hm_sR, fR_sR_n, fI_tI, fR_tI, aL_tI, aR_tI, kd_tI, ln_tI, hn_tI, hm_tI, aI_tI_n, fI_tL, fR_tL, aI_tL, aR_tL, kd_tL, ln_tL, hn_tL, hm_tL, aL_tL_n, fI_tR, fR_tR, aI_tR, aL_tR, kd_tR, ln_tR, hn_tR, hm_tR, aR_tR_n, hn_nw, hm_nw, fI_sI_e, fR_sR_e, aI_tI_e, aL_tL_e, aR_tR_e, kd_cpN, ln_cpN, fI_cpN, fR_cpN, hn_cpN, kd_nw, ln_nw, fI_nw, fR_nw, if_true, if_false, nn_f hz, nN]
  have f11 : fI E 11 (hn h) = 0 := by rw [← hEq]; simp (config := {decide := true}) only [fR_sI, aI_sI, aL_sI, aR_sI, kd_sI, ln_sI, hn_sI, hm_sI, fI_sI_n, fI_sR, aI_sR, aL_sR, aR_sR, kd_sR, ln_sR, hn_sR, hm_sR, fR_sR_n, fI_tI, fR_tI, aL_tI, aR_tI, kd_tI, ln_tI, hn_tI, hm_tI, aI_tI_n, fI_tL, fR_tL, aI_tL, aR_tL, kd_tL, ln_tL, hn_tL, hm_tL, aL_tL_n, fI_tR, fR_tR, aI_tR, aL_tR, kd_tR, ln_tR, hn_tR, hm_tR, aR_tR_n, hn_nw, hm_nw, fI_sI_e, fR_sR_e, aI_tI_e, aL_tL_e, aR_tR_e, kd_cpN, ln_cpN, fI_cpN, fR_cpN, hn_cpN, kd_nw, ln_nw, fI_nw, fR_nw, if_true, if_false, nn_f hz, nN]
  have f12 : fI E 12 (hn h) = aI h 200 (m 200) u := by rw [← hEq]; simp (config := {decide := true}) only [fR_sI, aI_sI, aL_sI, aR_sI, kd_sI, ln_sI, hn_sI, hm_sI, fI_sI_n, fI_sR, aI_sR, aL_sR, aR_sR, kd_sR, ln_sR, hn_sR, hm_sR, fR_sR_n, fI_tI, fR_tI, aL_tI, aR_tI, kd_tI, ln_tI, hn_tI, hm_tI, aI_tI_n, fI_tL, fR_tL, aI_tL, aR_tL, kd_tL, ln_tL, hn_tL, hm_tL, aL_tL_n, fI_tR, fR_tR, aI_tR, aL_tR, kd_tR, ln_tR, hn_tR, hm_tR, aR_tR_n, hn_nw, hm_nw, fI_sI_e, fR_sR_e, aI_tI_e, aL_tL_e, aR_tR_e, kd_cpN, ln_cpN, fI_cpN, fR_cpN, hn_cpN, kd_nw, ln_nw, fI_nw, fR_nw, if_true, if_false, nn_f hz, nN]
  have f13 : fI E 13 (hn h) = 0 := by rw [← hEq]; simp (config := {decide := true}) only [fR_sI, aI_sI, aL_sI, aR_sI, kd_sI, ln_sI, hn_sI, hm_sI, fI_sI_n, fI_sR, aI_sR, aL_sR, aR_sR, kd_sR, ln_sR, hn_sR, hm_sR, fR_sR_n, fI_tI, fR_tI, aL_tI, aR_tI, kd_tI, ln_tI, hn_tI, hm_tI, aI_tI_n, fI_tL, fR_tL, aI_tL, aR_tL, kd_tL, ln_tL, hn_tL, hm_tL, aL_tL_n, fI_tR, fR_tR, aI_tR, aL_tR, kd_tR, ln_tR, hn_tR, hm_tR, aR_tR_n, hn_nw, hm_nw, fI_sI_e, fR_sR_e, aI_tI_e, aL_tL_e, aR_tR_e, kd_cpN, ln_cpN, fI_cpN, fR_cpN, hn_cpN, kd_nw, ln_nw, fI_nw, fR_nw, if_true, if_false, nn_f hz, nN]
  have f14 : fI E 14 (hn h) = -1 := by rw [← hEq]; simp (config := {decide := true}) only [fR_sI, aI_sI, aL_sI, aR_sI, kd_sI, ln_sI, hn_sI, hm_sI, fI_sI_n, fI_sR, aI_sR, aL_sR, aR_sR, kd_sR, ln_sR, hn_sR, hm_sR, fR_sR_n, fI_tI, fR_tI, aL_tI, aR_tI, kd_tI, ln_tI, hn_tI, hm_tI, aI_tI_n, fI_tL, fR_tL, aI_tL, aR_tL, kd_tL, ln_tL, hn_tL, hm_tL, aL_tL_n, fI_tR, fR_tR, aI_tR, aL_tR, kd_tR, ln_tR, hn_tR, hm_tR, aR_tR_n, hn_nw, hm_nw, fI_sI_e, fR_sR_e, aI_tI_e, aL_tL_e, aR_tR_e, kd_cpN, ln_cpN, fI_cpN, fR_cpN, hn_cpN, kd_nw, ln_nw, fI_nw, fR_nw, if_true, if_false, nn_f hz, nN]
  have f15 : fR E 15 (hn h) = none := by rw [← hEq]; simp (config := {decide := true}) only [fR_sI, aI_sI, aL_sI, aR_sI, kd_sI, ln_sI, hn_sI, hm_sI, fI_sI_n, fI_sR, aI_sR, aL_sR, aR_sR, kd_sR, ln_sR, hn_sR, hm_sR, fR_sR_n, fI_tI, fR_tI, aL_tI, aR_tI, kd_tI, ln_tI, hn_tI, hm_tI, aI_tI_n, fI_tL, fR_tL, aI_tL, aR_tL, kd_tL, ln_tL, hn_tL, hm_tL, aL_tL_n, fI_tR, fR_tR, aI_tR, aL_tR, kd_tR, ln_tR, hn_tR, hm_tR, aR_tR_n, hn_nw, hm_nw, fI_sI_e, fR_sR_e, aI_tI_e, aL_tL_e, aR_tR_e, kd_cpN, ln_cpN, fI_cpN, fR_cpN, hn_cpN, kd_nw, ln_nw, fI_nw, fR_nw, if_true, if_false, nn_f hz, nN]
  have f16 : fR E 16 (hn h) = none := by rw [← hEq]; simp (config := {decide := true}) only [fR_sI, aI_sI, aL_sI, aR_sI, kd_sI, ln_sI, hn_sI, hm_sI, fI_sI_n, fI_sR, aI_sR, aL_sR, aR_sR, kd_sR, ln_sR, hn_sR, hm_sR, fR_sR_n, fI_tI, fR_tI, aL_tI, aR_tI, kd_tI, ln_tI, hn_tI, hm_tI, aI_tI_n, fI_tL, fR_tL, aI_tL, aR_tL, kd_tL, ln_tL, hn_tL, hm_tL, aL_tL_n, fI_tR, fR_tR, aI_tR, aL_tR, kd_tR, ln_tR, hn_tR, hm_tR, aR_tR_n, hn_nw, hm_nw, fI_sI_e, fR_sR_e, aI_tI_e, aL_tL_e, aR_tR_e, kd_cpN, ln_cpN, fI_cpN, fR_cpN, hn_cpN, kd_nw, ln_nw, fI_nw, fR_nw, if_true, if_false, nn_f hz, nN]
  have f17 : fI E 17 (hn h) = 0 := by rw [← hEq]; simp (config := {decide := true}) only [fR_sI, aI_sI, aL_sI, aR_sI, kd_sI, ln_sI, hn_sI, hm_sI, fI_sI_n, fI_sR, aI_sR, aL_sR, aR_sR, kd_sR, ln_sR, hn_sR, hm_sR, fR_sR_n, fI_tI, fR_tI, aL_tI, aR_tI, kd_tI, ln_tI, hn_tI, hm_tI, aI_tI_n, fI_tL, fR_tL, aI_tL, aR_tL, kd_tL, ln_tL, hn_tL, hm_tL, aL_tL_n, fI_tR, fR_tR, aI_tR, aL_tR, kd_tR, ln_tR, hn_tR, hm_tR, aR_tR_n, hn_nw, hm_nw, fI_sI_e, fR_sR_e, aI_tI_e, aL_tL_e, aR_tR_e, kd_cpN, ln_cpN, fI_cpN, fR_cpN, hn_cpN, kd_nw, ln_nw, fI_nw, fR_nw, if_true, if_false, nn_f hz, nN]
  have f18 : fI E 18 (hn h) = -1 := by rw [← hEq]; simp (config := {decide := true}) only [fR_sI, aI_sI, aL_sI, aR_sI, kd_sI, ln_sI, hn_sI, hm_sI, fI_sI_n, fI_sR, aI_sR, aL_sR, aR_sR, kd_sR, ln_sR, hn_sR, hm_sR, fR_sR_n, fI_tI, fR_tI, aL_tI, aR_tI, kd_tI, ln_tI, hn_tI, hm_tI, aI_tI_n, fI_tL, fR_tL, aI_tL, aR_tL, kd_tL, ln_tL, hn_tL, hm_tL, aL_tL_n, fI_tR, fR_tR, aI_tR, aL_tR, kd_tR, ln_tR, hn_tR, hm_tR, aR_tR_n, hn_nw, hm_nw, fI_sI_e, fR_sR_e, aI_tI_e, aL_tL_e, aR_tR_e, kd_cpN, ln_cpN, fI_cpN, fR_cpN, hn_cpN, kd_nw, ln_nw, fI_nw, fR_nw, if_true, if_false, nn_f hz, nN]
  have oI : ∀ k, kd h (m k) ≠ 0 → aI E k (m k) = aI h k (m k) := fun k a => eO.2.2.1 k (m k) a
  have i120 : aI E 120 (m 120) = aI h 120 (m 120) := oI 120 (by simp only [hA, Nat.reduceLeDiff, Nat.reduceEqDiff, Nat.reduceLT, ne_eq, not_false_eq_true, not_true_eq_false, reduceCtorEq])
  have i121 : aI E 121 (m 121) = aI h 121 (m 121) := oI 121 (by simp only [hA, Nat.reduceLeDiff, Nat.reduceEqDiff, Nat.reduceLT, ne_eq, not_false_eq_true, not_true_eq_false, reduceCtorEq])
  have i124 : aI E 124 (m 124) = aI h 124 (m 124) := oI 124 (by simp only [hA, Nat.reduceLeDiff, Nat.reduceEqDiff, Nat.reduceLT, ne_eq, not_false_eq_true, not_true_eq_false, reduceCtorEq])
  have i125 : aI E 125 (m 125) = aI h 125 (m 125) := oI 125 (by simp only [hA, Nat.reduceLeDiff, Nat.reduceEqDiff, Nat.reduceLT, ne_eq, not_false_eq_true, not_true_eq_false, reduceCtorEq])
  have i128 : aI E 128 (m 128) = aI h 128 (m 128) := oI 128 (by simp only [hA, Nat.reduceLeDiff, Nat.reduceEqDiff, Nat.reduceLT, ne_eq, not_false_eq_true, not_true_eq_false, reduceCtorEq])
  have i130 : aI E 130 (m 130) = aI h 130 (m 130) := oI 130 (by simp only [hA, Nat.reduceLeDiff, Nat.reduceEqDiff, Nat.reduceLT, ne_eq, not_false_eq_true, not_true_eq_false, reduceCtorEq])
  have i132 : aI E 132 (m 132) = aI h 132 (m 132) := oI 132 (by simp only [hA, Nat.reduceLeDiff, Nat.reduceEqDiff, Nat.reduceLT, ne_eq, not_false_eq_true, not_true_eq_false, reduceCtorEq])
  have i133 : aI E 133 (m 133) = aI h 133 (m 133) := oI 133 (by simp only [hA, Nat.reduceLeDiff, Nat.reduceEqDiff, Nat.reduceLT, ne_eq, not_false_eq_true, not_true_eq_false, reduceCtorEq])
  have i134 : aI E 134 (m 134) = aI h 134 (m 134) := oI 134 (by simp only [hA, Nat.reduceLeDiff, Nat.reduceEqDiff, Nat.reduceLT, ne_eq, not_false_eq_true, not_true_eq_false, reduceCtorEq])
  have i141 : aI E 141 (m 141) = aI h 141 (m 141) := oI 141 (by simp only [hA, Nat.reduceLeDiff, Nat.reduceEqDiff, Nat.reduceLT, ne_eq, not_false_eq_true, not_true_eq_false, reduceCtorEq])
  have i200 : aI E 200 (m 200) = aI h 200 (m 200) := oI 200 (by simp only [hA, Nat.reduceLeDiff, Nat.reduceEqDiff, Nat.reduceLT, ne_eq, not_false_eq_true, not_true_eq_false, reduceCtorEq])
  have i310 : aL E 310 (m 310) = aL h 310 (m 310) := eO.2.2.2.1 _ _ (by simp only [hA, Nat.reduceLeDiff, Nat.reduceEqDiff, Nat.reduceLT, ne_eq, not_false_eq_true, not_true_eq_false, reduceCtorEq])
  have nowE : fI E 1408 y = fI h 1408 y := eO.1 _ _ (by rw [hA.1]; decide)
  have late : aI h 200 (m 200) u = 0 ∨ aI h 200 (m 200) u = 1 := hW.w_mad u hu
  clear hEq nn2 nN eOB oI
  have rr1 := hJ.2.2.2.2.2.2.2.2.1
  have rr2 := hJ.2.2.2.2.2.2.2.2.2
  rw [← i310] at k4
  rw [← nowE] at f5
  rw [← i124] at f7
  rw [← i200] at f12 late
  rw [← i120] at l0
  rw [← i125] at t0
  rw [← i128] at dh
  rw [← i130] at ez
  rw [← i121] at u2
  have one' : ¬ ∃ i, i < na ∧ oneP E m p c d i := by
    rintro ⟨i, i1, i2, i3, i4, i5⟩
    rw [i132] at i2
    rw [i133] at i3
    rw [i134] at i4
    rw [i141] at i5
    exact one ⟨i, i1, i2, i3, i4, i5⟩
  clear i120 i121 i124 i125 i128 i130 i132 i133 i134 i141 i200 i310 nowE one q qp qu n8
  generalize hn h = N at *
  refine borrow_e (A := N + 1) (z := z) (W := fun j => aL E 310 (m 310) (60 * t + j)) hJE hpp (by omega) k1 k2 k3 k4 f1 f2 f8 f6 f10 f11 _ ?_
  intro h1 e1
  generalize hr : bst (mayB E m y p z c (likW E m z (fun j => aL E 310 (m 310) (60 * t + j)))) (likW E m z (fun j => aL E 310 (m 310) (60 * t + j))) nm = r at e1
  have hJ1 := (hJE _ _ _).same e1
  have EE := eqS_l e1
  have hA1 := hJ1.1
  unfold JM at hA1
  have hB1 := hJ1.2.1
  unfold JS at hB1
  have hC1 := hJ1.2.2.1.1
  have oI : ∀ k, isSk k = false → aI h1 k = aI E k := fun k a => e1.2.2.2.2.2.2.1 k a
  have oF : ∀ f, isSf f = false → ∀ a, fI h1 f a = fI (Ebk E N (kO r) (r.map (g 4)) (nI (lO (likW E m z (fun j => aL E 310 (m 310) (60 * t + j))) r))) f a := fun f a b => by rw [e1.2.2.2.2.2.1 f a]
  have oL : ∀ k, k ≠ 311 → aL h1 k = aL E k := fun k a => e1.2.2.2.2.2.2.2.1 k a
  have lW : likW E m z (fun j => aL E 310 (m 310) (60 * t + j)) = likW h1 m z (fun j => aL h1 310 (m 310) (60 * t + j)) := by
    rw [oL 310 (by decide), likW_same e1]
    rfl
  have mB : ∀ L, mayB E m y p z c L = mayB h1 m y p z c L := fun L => by rw [mayB_same e1]; rfl
  have now1 : fI h1 1408 y = fI E 1408 y := oF 1408 rfl y
  have kN : kd h1 N = 1 := by rw [EE.1]; exact k1
  rw [← oI 120 rfl] at l0
  rw [← oI 125 rfl] at t0
  rw [← oI 128 rfl] at dh
  rw [← oI 130 rfl] at ez
  rw [← oI 121 rfl] at u2
  rw [← oI 200 rfl] at late f12
  have one1 : ¬ ∃ i, i < na ∧ oneP h1 m p c d i := by
    rintro ⟨i, i1, i2, i3, i4, i5⟩
    rw [oI 132 rfl] at i2
    rw [oI 133 rfl] at i3
    rw [oI 134 rfl] at i4
    rw [oI 141 rfl] at i5
    exact one' ⟨i, i1, i2, i3, i4, i5⟩
  have g0 : fI h1 0 N = nI na := by rw [oF 0 rfl]; exact f0
  have cN := cnF hna (Nat.le_refl 160) (by decide)
  unfold w_X10_enter n_X10_enter_0
  simp (config := {decide := true}) only [gI_e, gR_e, pI_e, pZ_e, pR_e, ldI_e, ldZ_e, ldL_e, ldR_e, stI_e, stZ_e, stL_e, stR_e, alN_e, nwA_e, nwO_e, dvI_e, rmI_e, oV_e, oN_e, lt_e, rZ_e, br_T, br_F, fR_sI, aI_sI, aL_sI, aR_sI, kd_sI, ln_sI, hn_sI, hm_sI, fI_sI_n, fI_sR, aI_sR, aL_sR, aR_sR, kd_sR, ln_sR, hn_sR, hm_sR, fR_sR_n, fI_tI, fR_tI, aL_tI, aR_tI, kd_tI, ln_tI, hn_tI, hm_tI, aI_tI_n, fI_tL, fR_tL, aI_tL, aR_tL, kd_tL, ln_tL, hn_tL, hm_tL, aL_tL_n, fI_tR, fR_tR, aI_tR, aL_tR, kd_tR, ln_tR, hn_tR, hm_tR, aR_tR_n, hn_nw, hm_nw, rc400, rc403, rc404, rc405, rc407, rc409, rc420, rc440, bI_0, bI_1, bI_T, bI_F, iF_T, iF_F, br_not, le_nlt, not_true_eq_false, not_false_eq_true, and_self, and_true, true_and, and_false, false_and, or_true, true_or, or_false, false_or, ne_eq, reduceCtorEq, Nat.reduceLeDiff, Nat.reduceEqDiff, Nat.reduceLT, Nat.reduceAdd, Nat.reduceSub, Nat.reduceMul, Int32.reduceLT, Int32.reduceLE, Int32.reduceToNatClampNeg, Int32.reduceAdd, Int32.reduceSub, implies_true, forall_const, isIn_e, bit_e, lits, hB1, hC1]
  refine stR_i (k := 440) (by simp only [hB1]) (by decide) rc440 (fun b hb => by cases hb; rw [kN]; rfl) (by simp only [hB1]; exact cN.2.1) ?_
  have hR1 := hJ1.rj.of (((eqM.rf h1).tR 440 (g 0 2) na (some N)).sI (f := 1293) (by decide) x (nI (na + 1)))
  have hp2 := isPlace_e hR1
  have hw2 := fun Q => wants_e hR1 htt Q
  unfold w_X11_write n_X11_write_0
  simp (config := {decide := true}) only [gI_e, gR_e, pI_e, pZ_e, pR_e, ldI_e, ldZ_e, ldL_e, ldR_e, stI_e, stZ_e, stL_e, stR_e, alN_e, nwA_e, nwO_e, dvI_e, rmI_e, oV_e, oN_e, lt_e, rZ_e, br_T, br_F, fR_sI, aI_sI, aL_sI, aR_sI, kd_sI, ln_sI, hn_sI, hm_sI, fI_sI_n, fI_sR, aI_sR, aL_sR, aR_sR, kd_sR, ln_sR, hn_sR, hm_sR, fR_sR_n, fI_tI, fR_tI, aL_tI, aR_tI, kd_tI, ln_tI, hn_tI, hm_tI, aI_tI_n, fI_tL, fR_tL, aI_tL, aR_tL, kd_tL, ln_tL, hn_tL, hm_tL, aL_tL_n, fI_tR, fR_tR, aI_tR, aL_tR, kd_tR, ln_tR, hn_tR, hm_tR, aR_tR_n, hn_nw, hm_nw, rc400, rc403, rc404, rc405, rc407, rc409, rc420, rc440, bI_0, bI_1, bI_T, bI_F, iF_T, iF_F, br_not, le_nlt, not_true_eq_false, not_false_eq_true, and_self, and_true, true_and, and_false, false_and, or_true, true_or, or_false, false_or, ne_eq, reduceCtorEq, Nat.reduceLeDiff, Nat.reduceEqDiff, Nat.reduceLT, Nat.reduceAdd, Nat.reduceSub, Nat.reduceMul, Int32.reduceLT, Int32.reduceLE, Int32.reduceToNatClampNeg, Int32.reduceAdd, Int32.reduceSub, implies_true, forall_const, isIn_e, bit_e, lits, hp2, hw2, isShelf_e, isAsked_e, hA1, hB1, hC1, c0, cc, cp, ct, cN, kN, g0, dh, ez, l0, t0, b1, b2, b3, z20, b4]
  refine hasR_e hR1 hpp c d v _ (fun w => absurd w one1) (fun _ w => absurd w (by omega)) (fun _ _ u3 hu3 eu3 => ?_) l0
  have euu : u3 = u := by
    have : nI u3 = nI u := eu3.symm.trans u2
    exact (nI_eq (by omega) (by omega)).mp this
  rw [euu]
  unfold w_X11_puts_ n_X11_puts__0
  simp (config := {decide := true}) only [gI_e, gR_e, pI_e, pZ_e, pR_e, ldI_e, ldZ_e, ldL_e, ldR_e, stI_e, stZ_e, stL_e, stR_e, alN_e, nwA_e, nwO_e, dvI_e, rmI_e, oV_e, oN_e, lt_e, rZ_e, br_T, br_F, fR_sI, aI_sI, aL_sI, aR_sI, kd_sI, ln_sI, hn_sI, hm_sI, fI_sI_n, fI_sR, aI_sR, aL_sR, aR_sR, kd_sR, ln_sR, hn_sR, hm_sR, fR_sR_n, fI_tI, fR_tI, aL_tI, aR_tI, kd_tI, ln_tI, hn_tI, hm_tI, aI_tI_n, fI_tL, fR_tL, aI_tL, aR_tL, kd_tL, ln_tL, hn_tL, hm_tL, aL_tL_n, fI_tR, fR_tR, aI_tR, aL_tR, kd_tR, ln_tR, hn_tR, hm_tR, aR_tR_n, hn_nw, hm_nw, rc400, rc403, rc404, rc405, rc407, rc409, rc420, rc440, bI_0, bI_1, bI_T, bI_F, iF_T, iF_F, br_not, le_nlt, not_true_eq_false, not_false_eq_true, and_self, and_true, true_and, and_false, false_and, or_true, true_or, or_false, false_or, ne_eq, reduceCtorEq, Nat.reduceLeDiff, Nat.reduceEqDiff, Nat.reduceLT, Nat.reduceAdd, Nat.reduceSub, Nat.reduceMul, Int32.reduceLT, Int32.reduceLE, Int32.reduceToNatClampNeg, Int32.reduceAdd, Int32.reduceSub, implies_true, forall_const, isIn_e, bit_e, lits, hA1, hC1, cN, ct, late, ez]
  refine writeEnd (x := x) (b0 := b0) (s0 := s0) (A := N + 1) (b1 := b0 + 2) (s1 := s0 + (19 + z)) (T := aI h1 200 (m 200) u) hJ1 hna hpp htt l0 b1.1 b1.2 (rangeI b2 b3) (by omega) ez late one1 kN (by rw [EE.1]; exact k2) (by rw [EE.2.1]; exact k3) (fun j hj => by rw [oL 399 (by decide), oL 310 (by decide)]; exact k4 j hj) g0 (by rw [EE.2.2.1]; exact f1) (by rw [oF 2 rfl]; exact f2) (by rw [oF 3 rfl]; exact f3) (by rw [oF 4 rfl]; exact f4) (by rw [oF 5 rfl, now1]; exact f5) (by rw [oF 7 rfl, oI 124 rfl]; exact f7) (by rw [EE.2.2.1]; exact f8) (by rw [EE.2.2.1]; exact f9) (by rw [oF 12 rfl]; exact f12) (by rw [oF 13 rfl]; exact f13) (by rw [oF 14 rfl]; exact f14) (by rw [EE.2.2.1]; exact f15) (by rw [EE.2.2.1]; exact f16) (by rw [oF 17 rfl]; exact f17) (by rw [oF 18 rfl]; exact f18) r (by rw [← hr, lW, mB]) (by rw [oF 6 rfl]; exact if_pos ⟨rfl, rfl⟩) (by rw [EE.2.2.1]; exact if_pos ⟨rfl, rfl⟩) (by rw [oF 11 rfl, ← lW]; exact if_pos ⟨rfl, rfl⟩) ?_ ?_ ?_ _ ?_
  · intro a ha
    rw [EE.1]
    refine kz a ?_
    rw [e1.1] at ha
    exact ha
  · rw [e1.1]
    show hn E ≤ _
    omega
  · rw [e1.2.1]
    show hm E ≤ _
    omega
  · intro h2 j
    exact ⟨rfl, hQ _ j⟩
end WRI8
