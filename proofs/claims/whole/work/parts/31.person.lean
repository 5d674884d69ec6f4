section PERS
variable {x y b0 s0 np na nm nr ne : Nat} {g : Nat → Nat → Nat} {m : Nat → Nat} {h : Hp}
theorem JA.z (hJ : JA x y b0 s0 np na nm nr ne g m h) : kd h (hn h) = 0 := hJ.2.2.2.2.2.2.2.1 _ (Nat.le_refl _)
theorem nI_lt20 {n N : Nat} (h1 : n ≤ N) (h2 : N < 1000000) : (nI n < nI N) = ¬ n = N := by
  apply propext
  rw [nI_ltI (by omega) (by omega)]
  omega
theorem nI_eqN {n N : Nat} (h1 : n ≤ N) (h2 : N < 1000000) : (nI n = nI N) = (n = N) := propext (nI_eq (by omega) (by omega))
theorem K_person (hJ : JA x y b0 s0 np na nm nr ne g m h) (a b : Int32) (Q : Hp → Prop) (hQ : ∀ h2, JJ x y b0 s0 m h2 → Q h2) : w_X10_person (some x) a b h (fun r h1 => w_X11_person (some y) a b h1 (fun r2 h2 => r = r2 ∧ Q h2)) := by
  have hA := hJ.1; unfold JM at hA; have hB := hJ.2.1; unfold JS at hB; have hC := hJ.2.2.1.1; have hR := hJ.rj; have hf := rf_l hJ; have hno := no_l hR; have hno1 := fun k v => no_l (hJ.rj1 k v); have hp := isPlace_e hR; have ha := isAsk_e hR; have hp1 := fun k v => isPlace_e (hJ.rj1 k v); have ha1 := fun k v => isAsk_e (hJ.rj1 k v)
  have hbd := hJ.2.2.1.2
  have hz := hJ.z
  unfold w_X10_person n_X10_person_0 n_X10_person_34 w_X4_init n_X4_init_0 w_X11_person n_X11_person_0 n_X11_person_34
  by_cases c : vp_in a np
  rotate_left
  · simp only [gI_e, gR_e, pI_e, pZ_e, pR_e, ldI_e, ldZ_e, ldL_e, ldR_e, stI_e, stZ_e, stL_e, stR_e, alN_e, nwA_e, nwO_e, dvI_e, rmI_e, oV_e, oN_e, lt_e, rZ_e, br_T, br_F, fR_sI, aI_sI, aL_sI, aR_sI, kd_sI, ln_sI, hn_sI, hm_sI, fI_sI_n, fI_sR, aI_sR, aL_sR, aR_sR, kd_sR, ln_sR, hn_sR, hm_sR, fR_sR_n, fI_tI, fR_tI, aL_tI, aR_tI, kd_tI, ln_tI, hn_tI, hm_tI, aI_tI_n, fI_tL, fR_tL, aI_tL, aR_tL, kd_tL, ln_tL, hn_tL, hm_tL, aL_tL_n, fI_tR, fR_tR, aI_tR, aL_tR, kd_tR, ln_tR, hn_tR, hm_tR, aR_tR_n, hn_nw, hm_nw, rc400, rc403, rc404, rc405, rc407, rc409, rc420, rc440, bI_0, bI_1, bI_T, bI_F, iF_T, iF_F, br_not, le_nlt, not_true_eq_false, not_false_eq_true, and_self, and_true, true_and, and_false, false_and, or_true, true_or, or_false, false_or, ne_eq, reduceCtorEq, Nat.reduceLeDiff, Nat.reduceEqDiff, Nat.reduceLT, Nat.reduceAdd, Nat.reduceSub, Nat.reduceMul, Int32.reduceLT, Int32.reduceLE, Int32.reduceToNatClampNeg, Int32.reduceAdd, Int32.reduceSub, implies_true, forall_const, isIn_e, bit_e, lits, hA, hB, hC, hf, hno, hno1, hp, ha, hp1, ha1, placeAt_e hJ, askAt_e hJ, modelAt_e hJ, shelfAt_e hJ, isShelf_e, isGroup_e, isAsked_e, rZ_bI, dec_none, dec_s, dec_1, lt_e, c]
    exact hQ _ (hJ.ref 1 (by decide)).jj
  obtain ⟨p, hpp, rfl⟩ := vp_ex c
  have ep : (nI p).toNatClampNeg = p := nI_clamp (by omega)
  have c24 : vp_in (nI p) 24 := vp_le c (by omega)
  have q := plF hJ hpp
  by_cases l0 : aI h 120 (m 120) p = 0
  rotate_left
  · simp only [gI_e, gR_e, pI_e, pZ_e, pR_e, ldI_e, ldZ_e, ldL_e, ldR_e, stI_e, stZ_e, stL_e, stR_e, alN_e, nwA_e, nwO_e, dvI_e, rmI_e, oV_e, oN_e, lt_e, rZ_e, br_T, br_F, fR_sI, aI_sI, aL_sI, aR_sI, kd_sI, ln_sI, hn_sI, hm_sI, fI_sI_n, fI_sR, aI_sR, aL_sR, aR_sR, kd_sR, ln_sR, hn_sR, hm_sR, fR_sR_n, fI_tI, fR_tI, aL_tI, aR_tI, kd_tI, ln_tI, hn_tI, hm_tI, aI_tI_n, fI_tL, fR_tL, aI_tL, aR_tL, kd_tL, ln_tL, hn_tL, hm_tL, aL_tL_n, fI_tR, fR_tR, aI_tR, aL_tR, kd_tR, ln_tR, hn_tR, hm_tR, aR_tR_n, hn_nw, hm_nw, rc400, rc403, rc404, rc405, rc407, rc409, rc420, rc440, bI_0, bI_1, bI_T, bI_F, iF_T, iF_F, br_not, le_nlt, not_true_eq_false, not_false_eq_true, and_self, and_true, true_and, and_false, false_and, or_true, true_or, or_false, false_or, ne_eq, reduceCtorEq, Nat.reduceLeDiff, Nat.reduceEqDiff, Nat.reduceLT, Nat.reduceAdd, Nat.reduceSub, Nat.reduceMul, Int32.reduceLT, Int32.reduceLE, Int32.reduceToNatClampNeg, Int32.reduceAdd, Int32.reduceSub, implies_true, forall_const, isIn_e, bit_e, lits, hA, hB, hC, hf, hno, hno1, hp, ha, hp1, ha1, placeAt_e hJ, askAt_e hJ, modelAt_e hJ, shelfAt_e hJ, isShelf_e, isGroup_e, isAsked_e, rZ_bI, dec_none, dec_s, dec_1, lt_e, c, c24, ep, q, l0]
    exact hQ _ (hJ.ref 6 (by decide)).jj
  by_cases b1 : b < 0
  · simp only [gI_e, gR_e, pI_e, pZ_e, pR_e, ldI_e, ldZ_e, ldL_e, ldR_e, stI_e, stZ_e, stL_e, stR_e, alN_e, nwA_e, nwO_e, dvI_e, rmI_e, oV_e, oN_e, lt_e, rZ_e, br_T, br_F, fR_sI, aI_sI, aL_sI, aR_sI, kd_sI, ln_sI, hn_sI, hm_sI, fI_sI_n, fI_sR, aI_sR, aL_sR, aR_sR, kd_sR, ln_sR, hn_sR, hm_sR, fR_sR_n, fI_tI, fR_tI, aL_tI, aR_tI, kd_tI, ln_tI, hn_tI, hm_tI, aI_tI_n, fI_tL, fR_tL, aI_tL, aR_tL, kd_tL, ln_tL, hn_tL, hm_tL, aL_tL_n, fI_tR, fR_tR, aI_tR, aL_tR, kd_tR, ln_tR, hn_tR, hm_tR, aR_tR_n, hn_nw, hm_nw, rc400, rc403, rc404, rc405, rc407, rc409, rc420, rc440, bI_0, bI_1, bI_T, bI_F, iF_T, iF_F, br_not, le_nlt, not_true_eq_false, not_false_eq_true, and_self, and_true, true_and, and_false, false_and, or_true, true_or, or_false, false_or, ne_eq, reduceCtorEq, Nat.reduceLeDiff, Nat.reduceEqDiff, Nat.reduceLT, Nat.reduceAdd, Nat.reduceSub, Nat.reduceMul, Int32.reduceLT, Int32.reduceLE, Int32.reduceToNatClampNeg, Int32.reduceAdd, Int32.reduceSub, implies_true, forall_const, isIn_e, bit_e, lits, hA, hB, hC, hf, hno, hno1, hp, ha, hp1, ha1, placeAt_e hJ, askAt_e hJ, modelAt_e hJ, shelfAt_e hJ, isShelf_e, isGroup_e, isAsked_e, rZ_bI, dec_none, dec_s, dec_1, lt_e, c, c24, ep, q, l0, b1]
    exact hQ _ (hJ.ref 6 (by decide)).jj
  by_cases b2 : 9999 < b
  · simp only [gI_e, gR_e, pI_e, pZ_e, pR_e, ldI_e, ldZ_e, ldL_e, ldR_e, stI_e, stZ_e, stL_e, stR_e, alN_e, nwA_e, nwO_e, dvI_e, rmI_e, oV_e, oN_e, lt_e, rZ_e, br_T, br_F, fR_sI, aI_sI, aL_sI, aR_sI, kd_sI, ln_sI, hn_sI, hm_sI, fI_sI_n, fI_sR, aI_sR, aL_sR, aR_sR, kd_sR, ln_sR, hn_sR, hm_sR, fR_sR_n, fI_tI, fR_tI, aL_tI, aR_tI, kd_tI, ln_tI, hn_tI, hm_tI, aI_tI_n, fI_tL, fR_tL, aI_tL, aR_tL, kd_tL, ln_tL, hn_tL, hm_tL, aL_tL_n, fI_tR, fR_tR, aI_tR, aL_tR, kd_tR, ln_tR, hn_tR, hm_tR, aR_tR_n, hn_nw, hm_nw, rc400, rc403, rc404, rc405, rc407, rc409, rc420, rc440, bI_0, bI_1, bI_T, bI_F, iF_T, iF_F, br_not, le_nlt, not_true_eq_false, not_false_eq_true, and_self, and_true, true_and, and_false, false_and, or_true, true_or, or_false, false_or, ne_eq, reduceCtorEq, Nat.reduceLeDiff, Nat.reduceEqDiff, Nat.reduceLT, Nat.reduceAdd, Nat.reduceSub, Nat.reduceMul, Int32.reduceLT, Int32.reduceLE, Int32.reduceToNatClampNeg, Int32.reduceAdd, Int32.reduceSub, implies_true, forall_const, isIn_e, bit_e, lits, hA, hB, hC, hf, hno, hno1, hp, ha, hp1, ha1, placeAt_e hJ, askAt_e hJ, modelAt_e hJ, shelfAt_e hJ, isShelf_e, isGroup_e, isAsked_e, rZ_bI, dec_none, dec_s, dec_1, lt_e, c, c24, ep, q, l0, b1, b2]
    exact hQ _ (hJ.ref 6 (by decide)).jj
  have t1 : (nI ne < 20) = ¬ ne = 20 := nI_lt20 (N := 20) hbd.2.2.2.2.2 (by decide)
  have t2 : (nI ne = 20) = (ne = 20) := nI_eqN (N := 20) hbd.2.2.2.2.2 (by decide)
  by_cases n20 : ne = 20
  · have t3 : nI ne = 20 := by rw [t2]; exact n20
    have t4 : ¬ nI ne < 20 := by rw [t1]; exact fun z => z n20
    simp only [gI_e, gR_e, pI_e, pZ_e, pR_e, ldI_e, ldZ_e, ldL_e, ldR_e, stI_e, stZ_e, stL_e, stR_e, alN_e, nwA_e, nwO_e, dvI_e, rmI_e, oV_e, oN_e, lt_e, rZ_e, br_T, br_F, fR_sI, aI_sI, aL_sI, aR_sI, kd_sI, ln_sI, hn_sI, hm_sI, fI_sI_n, fI_sR, aI_sR, aL_sR, aR_sR, kd_sR, ln_sR, hn_sR, hm_sR, fR_sR_n, fI_tI, fR_tI, aL_tI, aR_tI, kd_tI, ln_tI, hn_tI, hm_tI, aI_tI_n, fI_tL, fR_tL, aI_tL, aR_tL, kd_tL, ln_tL, hn_tL, hm_tL, aL_tL_n, fI_tR, fR_tR, aI_tR, aL_tR, kd_tR, ln_tR, hn_tR, hm_tR, aR_tR_n, hn_nw, hm_nw, rc400, rc403, rc404, rc405, rc407, rc409, rc420, rc440, bI_0, bI_1, bI_T, bI_F, iF_T, iF_F, br_not, le_nlt, not_true_eq_false, not_false_eq_true, and_self, and_true, true_and, and_false, false_and, or_true, true_or, or_false, false_or, ne_eq, reduceCtorEq, Nat.reduceLeDiff, Nat.reduceEqDiff, Nat.reduceLT, Nat.reduceAdd, Nat.reduceSub, Nat.reduceMul, Int32.reduceLT, Int32.reduceLE, Int32.reduceToNatClampNeg, Int32.reduceAdd, Int32.reduceSub, implies_true, forall_const, isIn_e, bit_e, lits, hA, hB, hC, hf, hno, hno1, hp, ha, hp1, ha1, placeAt_e hJ, askAt_e hJ, modelAt_e hJ, shelfAt_e hJ, isShelf_e, isGroup_e, isAsked_e, rZ_bI, dec_none, dec_s, dec_1, lt_e, c, c24, ep, q, l0, b1, b2, t3, t4]
    exact hQ _ (hJ.ref 7 (by decide)).jj
  simp (config := {decide := true}) only [gI_e, gR_e, pI_e, pZ_e, pR_e, ldI_e, ldZ_e, ldL_e, ldR_e, stI_e, stZ_e, stL_e, stR_e, alN_e, nwA_e, nwO_e, dvI_e, rmI_e, oV_e, oN_e, lt_e, rZ_e, br_T, br_F, fR_sI, aI_sI, aL_sI, aR_sI, kd_sI, ln_sI, hn_sI, hm_sI, fI_sI_n, fI_sR, aI_sR, aL_sR, aR_sR, kd_sR, ln_sR, hn_sR, hm_sR, fR_sR_n, fI_tI, fR_tI, aL_tI, aR_tI, kd_tI, ln_tI, hn_tI, hm_tI, aI_tI_n, fI_tL, fR_tL, aI_tL, aR_tL, kd_tL, ln_tL, hn_tL, hm_tL, aL_tL_n, fI_tR, fR_tR, aI_tR, aL_tR, kd_tR, ln_tR, hn_tR, hm_tR, aR_tR_n, hn_nw, hm_nw, rc400, rc403, rc404, rc405, rc407, rc409, rc420, rc440, bI_0, bI_1, bI_T, bI_F, iF_T, iF_F, br_not, le_nlt, not_true_eq_false, not_false_eq_true, and_self, and_true, true_and, and_false, false_and, or_true, true_or, or_false, false_or, ne_eq, reduceCtorEq, Nat.reduceLeDiff, Nat.reduceEqDiff, Nat.reduceLT, Nat.reduceAdd, Nat.reduceSub, Nat.reduceMul, Int32.reduceLT, Int32.reduceLE, Int32.reduceToNatClampNeg, Int32.reduceAdd, Int32.reduceSub, implies_true, forall_const, isIn_e, bit_e, lits, hA, hB, hC, hf, hno, hno1, hp, ha, hp1, ha1, placeAt_e hJ, askAt_e hJ, modelAt_e hJ, shelfAt_e hJ, isShelf_e, isGroup_e, isAsked_e, rZ_bI, dec_none, dec_s, dec_1, lt_e, kd_nw, ln_nw, fI_nw, fR_nw, if_true, if_false, nn_f hz, c, c24, ep, q, l0, b1, b2, t1, n20]
  generalize hEq : sI (sR (sI (nw h 5 3) 512 (hn h) (nI ne)) 513 (hn h) (some (g 1 p))) 514 (hn h) b = E
  have eO : eqO h E := by
    rw [← hEq]
    exact ((((eqO.rf h).nw hz 5 3).sI hz _ _).sR hz _ _).sI hz _ _
  have hnE : hn E = hn h + 1 := by rw [← hEq]; rfl
  have hmE : hm E = hm h + 3 := by rw [← hEq]; rfl
  have kz : ∀ a, hn E ≤ a → kd E a = 0 := by
    intro a ha
    rw [← hEq]
    show kd (nw h 5 3) a = 0
    rw [kd_nw_o _ _ _ _ (by omega)]
    exact hJ.2.2.2.2.2.2.2.1 a (by omega)
  have hJE := hJ.ext eO 1 3 kz (by omega) (by omega)
  have kN : kd E (hn h) = 5 := by rw [← hEq]; simp (config := {decide := true}) only [fR_sI, aI_sI, aL_sI, aR_sI, kd_sI, ln_sI, hn_sI, hm_sI, fI_sI_n, fI_sR, aI_sR, aL_sR, aR_sR, kd_sR, ln_sR, hn_sR, hm_sR, fR_sR_n, fI_tI, fR_tI, aL_tI, aR_tI, kd_tI, ln_tI, hn_tI, hm_tI, aI_tI_n, fI_tL, fR_tL, aI_tL, aR_tL, kd_tL, ln_tL, hn_tL, hm_tL, aL_tL_n, fI_tR, fR_tR, aI_tR, aL_tR, kd_tR, ln_tR, hn_tR, hm_tR, aR_tR_n, hn_nw, hm_nw, kd_nw, ln_nw, fI_nw, fR_nw, if_true, if_false, nn_f hz]
  have g1 : fI E 512 (hn h) = nI ne := by rw [← hEq]; simp (config := {decide := true}) only [fR_sI, aI_sI, aL_sI, aR_sI, kd_sI, ln_sI, hn_sI, hm_sI, fI_sI_n, fI_sR, aI_sR, aL_sR, aR_sR, kd_sR, ln_sR, hn_sR, hm_sR, fR_sR_n, fI_tI, fR_tI, aL_tI, aR_tI, kd_tI, ln_tI, hn_tI, hm_tI, aI_tI_n, fI_tL, fR_tL, aI_tL, aR_tL, kd_tL, ln_tL, hn_tL, hm_tL, aL_tL_n, fI_tR, fR_tR, aI_tR, aL_tR, kd_tR, ln_tR, hn_tR, hm_tR, aR_tR_n, hn_nw, hm_nw, fI_sI_e, fR_sR_e, aI_tI_e, aL_tL_e, aR_tR_e, kd_nw, ln_nw, fI_nw, fR_nw, if_true, if_false, nn_f hz]
  have g2 : fR E 513 (hn h) = some (g 1 p) := by rw [← hEq]; simp (config := {decide := true}) only [fR_sI, aI_sI, aL_sI, aR_sI, kd_sI, ln_sI, hn_sI, hm_sI, fI_sI_n, fI_sR, aI_sR, aL_sR, aR_sR, kd_sR, ln_sR, hn_sR, hm_sR, fR_sR_n, fI_tI, fR_tI, aL_tI, aR_tI, kd_tI, ln_tI, hn_tI, hm_tI, aI_tI_n, fI_tL, fR_tL, aI_tL, aR_tL, kd_tL, ln_tL, hn_tL, hm_tL, aL_tL_n, fI_tR, fR_tR, aI_tR, aL_tR, kd_tR, ln_tR, hn_tR, hm_tR, aR_tR_n, hn_nw, hm_nw, fI_sI_e, fR_sR_e, aI_tI_e, aL_tL_e, aR_tR_e, kd_nw, ln_nw, fI_nw, fR_nw, if_true, if_false, nn_f hz]
  have g3 : fI E 514 (hn h) = b := by rw [← hEq]; simp (config := {decide := true}) only [fR_sI, aI_sI, aL_sI, aR_sI, kd_sI, ln_sI, hn_sI, hm_sI, fI_sI_n, fI_sR, aI_sR, aL_sR, aR_sR, kd_sR, ln_sR, hn_sR, hm_sR, fR_sR_n, fI_tI, fR_tI, aL_tI, aR_tI, kd_tI, ln_tI, hn_tI, hm_tI, aI_tI_n, fI_tL, fR_tL, aI_tL, aR_tL, kd_tL, ln_tL, hn_tL, hm_tL, aL_tL_n, fI_tR, fR_tR, aI_tR, aL_tR, kd_tR, ln_tR, hn_tR, hm_tR, aR_tR_n, hn_nw, hm_nw, fI_sI_e, fR_sR_e, aI_tI_e, aL_tL_e, aR_tR_e, kd_nw, ln_nw, fI_nw, fR_nw, if_true, if_false, nn_f hz]
  have lE : aI E 120 (m 120) p = 0 := by rw [eO.2.2.1 120 (m 120) (by simp only [hA, Nat.reduceLeDiff, Nat.reduceEqDiff, Nat.reduceLT, ne_eq, not_false_eq_true, not_true_eq_false, reduceCtorEq])]; exact l0
  clear hEq
  have rr1 := hJ.2.2.2.2.2.2.2.2.1
  have rr2 := hJ.2.2.2.2.2.2.2.2.2
  generalize hn h = N at *
  have hAE := hJE.1; unfold JM at hAE; have hBE := hJE.2.1; unfold JS at hBE; have hCE := hJE.2.2.1.1; have hGE := hJE.2.2.2.1; have hDE := hJE.2.2.2.2.1; have hWE := hJE.2.2.2.2.2.1; have hEE := hJE.2.2.2.2.2.2.1
  have cN := cnF (show ne < 20 by omega) (Nat.le_refl 20) (by decide)
  refine stR_i (k := 404) (by simp only [hBE]) (by decide) rc404 (fun b hb => by cases hb; rw [kN]; rfl) (by simp only [hBE]; exact cN.2.1) ?_
  have hR1 := hJE.rj.of (((eqM.rf E).tR 404 (g 0 5) ne (some N)).sI (f := 1296) (by decide) x (nI (ne + 1)))
  have hp2 := isPlace_e hR1
  simp (config := {decide := true}) only [gI_e, gR_e, pI_e, pZ_e, pR_e, ldI_e, ldZ_e, ldL_e, ldR_e, stI_e, stZ_e, stL_e, stR_e, alN_e, nwA_e, nwO_e, dvI_e, rmI_e, oV_e, oN_e, lt_e, rZ_e, br_T, br_F, fR_sI, aI_sI, aL_sI, aR_sI, kd_sI, ln_sI, hn_sI, hm_sI, fI_sI_n, fI_sR, aI_sR, aL_sR, aR_sR, kd_sR, ln_sR, hn_sR, hm_sR, fR_sR_n, fI_tI, fR_tI, aL_tI, aR_tI, kd_tI, ln_tI, hn_tI, hm_tI, aI_tI_n, fI_tL, fR_tL, aI_tL, aR_tL, kd_tL, ln_tL, hn_tL, hm_tL, aL_tL_n, fI_tR, fR_tR, aI_tR, aL_tR, kd_tR, ln_tR, hn_tR, hm_tR, aR_tR_n, hn_nw, hm_nw, rc400, rc403, rc404, rc405, rc407, rc409, rc420, rc440, bI_0, bI_1, bI_T, bI_F, iF_T, iF_F, br_not, le_nlt, not_true_eq_false, not_false_eq_true, and_self, and_true, true_and, and_false, false_and, or_true, true_or, or_false, false_or, ne_eq, reduceCtorEq, Nat.reduceLeDiff, Nat.reduceEqDiff, Nat.reduceLT, Nat.reduceAdd, Nat.reduceSub, Nat.reduceMul, Int32.reduceLT, Int32.reduceLE, Int32.reduceToNatClampNeg, Int32.reduceAdd, Int32.reduceSub, implies_true, forall_const, isIn_e, bit_e, lits, hA, hB, hC, hf, hno, hno1, hp, ha, hp1, ha1, placeAt_e hJ, askAt_e hJ, modelAt_e hJ, shelfAt_e hJ, isShelf_e, isGroup_e, isAsked_e, rZ_bI, dec_none, dec_s, dec_1, lt_e, hp2, hAE, hBE, hCE, c, c24, ep, lE, b1, b2, t2, n20, cN]
  refine hQ _ ⟨np, na, nm, nr, ne + 1, upG g 6 ne N, hJE.1, hJE.2.1, ?_, ?_, ?_, ?_, ?_, ?_⟩
  · unfold JC
    simp (config := {decide := true}) only [fR_sI, aI_sI, aL_sI, aR_sI, kd_sI, ln_sI, hn_sI, hm_sI, fI_sI_n, fI_sR, aI_sR, aL_sR, aR_sR, kd_sR, ln_sR, hn_sR, hm_sR, fR_sR_n, fI_tI, fR_tI, aL_tI, aR_tI, kd_tI, ln_tI, hn_tI, hm_tI, aI_tI_n, fI_tL, fR_tL, aI_tL, aR_tL, kd_tL, ln_tL, hn_tL, hm_tL, aL_tL_n, fI_tR, fR_tR, aI_tR, aL_tR, kd_tR, ln_tR, hn_tR, hm_tR, aR_tR_n, hn_nw, hm_nw, fI_sI_e, fR_sR_e, aI_tI_e, aL_tL_e, aR_tR_e, hCE, if_true, and_self, true_and]
    omega
  · unfold JG
    simp (config := {decide := true}) only [fR_sI, aI_sI, aL_sI, aR_sI, kd_sI, ln_sI, hn_sI, hm_sI, fI_sI_n, fI_sR, aI_sR, aL_sR, aR_sR, kd_sR, ln_sR, hn_sR, hm_sR, fR_sR_n, fI_tI, fR_tI, aL_tI, aR_tI, kd_tI, ln_tI, hn_tI, hm_tI, aI_tI_n, fI_tL, fR_tL, aI_tL, aR_tL, kd_tL, ln_tL, hn_tL, hm_tL, aL_tL_n, fI_tR, fR_tR, aI_tR, aL_tR, kd_tR, ln_tR, hn_tR, hm_tR, aR_tR_n, hn_nw, hm_nw, fI_sI_e, fR_sR_e, aI_tI_e, aL_tL_e, aR_tR_e, upG_n, upG_e, true_and]
    refine ⟨JG.pl_at hGE, JG.pl_kd hGE, JG.pl_no hGE, JG.py_at hGE, JG.py_kd hGE, JG.py_ln hGE, JG.py_in hGE, JG.sh_at hGE, JG.sh_kd hGE, JG.se_at hGE, JG.se_kd hGE, JG.se_ln hGE, JG.sh_in hGE, JG.se_in hGE, JG.as_at hGE, JG.as_kd hGE, JG.as_no hGE, JG.mo_at hGE, JG.mo_kd hGE, JG.mo_no hGE, JG.mw_at hGE, JG.mw_kd hGE, JG.mw_ln hGE, JG.ru_at hGE, JG.ru_kd hGE, JG.ru_no hGE, JG.rl_at hGE, JG.rl_kd hGE, all_s (fun i hi => ?_) ?_, all_s (fun i hi => ?_) ?_, all_s (fun i hi => ?_) ?_⟩
    · rw [if_neg (by omega), if_neg (by omega)]; exact hGE.pe_at i hi
    · rw [if_pos rfl, if_pos rfl]
    · rw [if_neg (by omega)]; exact hGE.pe_kd i hi
    · rw [if_pos rfl]; exact kN
    · rw [if_neg (by omega)]; exact hGE.pe_no i hi
    · rw [if_pos rfl]; exact g1
  · unfold JD
    simp (config := {decide := true}) only [fR_sI, aI_sI, aL_sI, aR_sI, kd_sI, ln_sI, hn_sI, hm_sI, fI_sI_n, fI_sR, aI_sR, aL_sR, aR_sR, kd_sR, ln_sR, hn_sR, hm_sR, fR_sR_n, fI_tI, fR_tI, aL_tI, aR_tI, kd_tI, ln_tI, hn_tI, hm_tI, aI_tI_n, fI_tL, fR_tL, aI_tL, aR_tL, kd_tL, ln_tL, hn_tL, hm_tL, aL_tL_n, fI_tR, fR_tR, aI_tR, aL_tR, kd_tR, ln_tR, hn_tR, hm_tR, aR_tR_n, hn_nw, hm_nw, fI_sI_e, fR_sR_e, aI_tI_e, aL_tL_e, aR_tR_e, upG_n, true_and]
    refine ⟨JD.d_lev hDE, JD.d_und hDE, JD.d_way hDE, JD.d_ord hDE, JD.d_mad hDE, JD.d_tor hDE, ?_, JD.d_yes hDE, JD.d_srt hDE, JD.d_siz hDE, JD.d_sha hDE, JD.d_cel hDE, JD.d_at hDE, JD.d_wha hDE, JD.d_who hDE, JD.d_muc hDE, JD.d_wri hDE, JD.d_kin hDE, JD.d_lat hDE, JD.d_gap hDE, JD.d_gon hDE, JD.d_yie hDE, JD.d_wor hDE, JD.d_mod hDE, JD.d_int hDE, JD.d_dro hDE, JD.d_wds hDE, JD.d_wdn hDE, JD.d_mwh hDE, JD.d_mda hDE, JD.d_mpl hDE, JD.d_mwd hDE, JD.d_rle hDE, JD.d_rda hDE, JD.d_rst hDE, all_s (fun i hi => ?_) ?_, all_s (fun i hi => ?_) ?_, JD.d_cla hDE, JD.d_ref hDE⟩
    · intro i hi
      rw [dec_up (hWE.w_cho i hi)]
      exact hDE.d_cho i hi
    · rw [upG_o _ _ _ _ _ hi, if_neg (by omega)]; exact hDE.d_ppl i hi
    · rw [upG_s, if_pos rfl, ep]; exact g2
    · rw [upG_o _ _ _ _ _ hi, if_neg (by omega)]; exact hDE.d_pbo i hi
    · rw [upG_s, if_pos rfl]; exact g3
  · unfold JW
    simp (config := {decide := true}) only [fR_sI, aI_sI, aL_sI, aR_sI, kd_sI, ln_sI, hn_sI, hm_sI, fI_sI_n, fI_sR, aI_sR, aL_sR, aR_sR, kd_sR, ln_sR, hn_sR, hm_sR, fR_sR_n, fI_tI, fR_tI, aL_tI, aR_tI, kd_tI, ln_tI, hn_tI, hm_tI, aI_tI_n, fI_tL, fR_tL, aI_tL, aR_tL, kd_tL, ln_tL, hn_tL, hm_tL, aL_tL_n, fI_tR, fR_tR, aI_tR, aL_tR, kd_tR, ln_tR, hn_tR, hm_tR, aR_tR_n, hn_nw, hm_nw, fI_sI_e, fR_sR_e, aI_tI_e, aL_tL_e, aR_tR_e, true_and]
    refine ⟨JW.w_l0 hWE, JW.w_u0 hWE, JW.w_und hWE, JW.w_lev hWE, JW.w_lv3 hWE, JW.w_way hWE, JW.w_hea hWE, JW.w_tor hWE, JW.w_tlv hWE, ?_, JW.w_c0 hWE, JW.w_mad hWE, JW.w_mlv hWE, JW.w_yes hWE, JW.w_hel hWE, JW.w_srt hWE, JW.w_siz hWE, JW.w_sho hWE, JW.w_at hWE, JW.w_wha hWE, JW.w_who hWE, JW.w_muc hWE, JW.w_wri hWE, JW.w_kin hWE, JW.w_klv hWE, JW.w_mod hWE, JW.w_kmo hWE, JW.w_int hWE, JW.w_dro hWE, JW.w_gon hWE, JW.w_lat hWE, JW.w_gap hWE, JW.w_yie hWE, JW.w_wor hWE, JW.w_wdn hWE, JW.w_nsg hWE, JW.w_gto hWE, JW.w_one hWE, JW.w_mwh hWE, JW.w_mpl hWE, JW.w_mda hWE, JW.w_mn hWE, JW.w_rle hWE, JW.w_rda hWE, JW.w_rst hWE, all_s (fun i hi => ?_) ?_, all_s (fun i hi => ?_) ?_, JW.w_cla hWE, JW.w_csy hWE, JW.w_now hWE, JW.w_amd hWE, JW.w_hl0 hWE, JW.w_src hWE, JW.w_zgp hWE, JW.w_zyi hWE, JW.w_zwn hWE, JW.w_zma hWE, JW.w_zys hWE⟩
    · intro i hi
      exact (hWE.w_cho i hi).imp id (fun z => vp_le z (by omega))
    · rw [if_neg (by omega)]; exact hWE.w_ppl i hi
    · rw [if_pos rfl]; exact c
    · rw [if_neg (by omega)]; exact hWE.w_pbo i hi
    · rw [if_pos rfl]
      exact rangeI b1 b2
  · unfold JE
    simp (config := {decide := true}) only [fR_sI, aI_sI, aL_sI, aR_sI, kd_sI, ln_sI, hn_sI, hm_sI, fI_sI_n, fI_sR, aI_sR, aL_sR, aR_sR, kd_sR, ln_sR, hn_sR, hm_sR, fR_sR_n, fI_tI, fR_tI, aL_tI, aR_tI, kd_tI, ln_tI, hn_tI, hm_tI, aI_tI_n, fI_tL, fR_tL, aI_tL, aR_tL, kd_tL, ln_tL, hn_tL, hm_tL, aL_tL_n, fI_tR, fR_tR, aI_tR, aL_tR, kd_tR, ln_tR, hn_tR, hm_tR, aR_tR_n, hn_nw, hm_nw, upG_n]
    exact hEE
  · refine ⟨kz, ?_, ?_⟩
    · show hn E ≤ _
      omega
    · show hm E ≤ _
      omega
end PERS
