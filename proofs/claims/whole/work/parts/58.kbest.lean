section KBEST
variable {x y b0 s0 np na nm nr ne : Nat} {g : Nat → Nat → Nat} {m : Nat → Nat} {h h1 : Hp}
theorem cdL_same (e : eqB h h1) (m : Nat → Nat) : cdL h1 m = cdL h m := by
  funext na u np
  unfold cdL
  have : gnP h1 m na u np = gnP h m na u np := by
    funext k
    unfold gnP
    rw [gaL_same e]
  rw [this]
theorem gaL_t (m : Nat → Nat) (a j : Nat) (v : Int32) : gaL (tI h 110 a j v) m = gaL h m := by
  funext na u k q
  induction q with
  | zero => rfl
  | succ q ih =>
    show gaL (tI h 110 a j v) m na u k q ++ (iF (aI (tI h 110 a j v) 121 (m 121) q = nI u) (fL (gaP (tI h 110 a j v) m k q) na) []) = gaL h m na u k q ++ (iF (aI h 121 (m 121) q = nI u) (fL (gaP h m k q) na) [])
    have : gaP (tI h 110 a j v) m k q = gaP h m k q := by
      funext b
      unfold gaP stN
      simp (config := {decide := true}) only [fR_sI, aI_sI, aL_sI, aR_sI, kd_sI, ln_sI, hn_sI, hm_sI, fI_sI_n, fI_sR, aI_sR, aL_sR, aR_sR, kd_sR, ln_sR, hn_sR, hm_sR, fR_sR_n, fI_tI, fR_tI, aL_tI, aR_tI, kd_tI, ln_tI, hn_tI, hm_tI, aI_tI_n, fI_tL, fR_tL, aI_tL, aR_tL, kd_tL, ln_tL, hn_tL, hm_tL, aL_tL_n, fI_tR, fR_tR, aI_tR, aL_tR, kd_tR, ln_tR, hn_tR, hm_tR, aR_tR_n, hn_nw, hm_nw]
    rw [ih, this]
    simp (config := {decide := true}) only [fR_sI, aI_sI, aL_sI, aR_sI, kd_sI, ln_sI, hn_sI, hm_sI, fI_sI_n, fI_sR, aI_sR, aL_sR, aR_sR, kd_sR, ln_sR, hn_sR, hm_sR, fR_sR_n, fI_tI, fR_tI, aL_tI, aR_tI, kd_tI, ln_tI, hn_tI, hm_tI, aI_tI_n, fI_tL, fR_tL, aI_tL, aR_tL, kd_tL, ln_tL, hn_tL, hm_tL, aL_tL_n, fI_tR, fR_tR, aI_tR, aL_tR, kd_tR, ln_tR, hn_tR, hm_tR, aR_tR_n, hn_nw, hm_nw]
theorem cdL_t (m : Nat → Nat) (a j : Nat) (v : Int32) : cdL (tI h 110 a j v) m = cdL h m := by
  funext na u np
  unfold cdL
  have : gnP (tI h 110 a j v) m na u np = gnP h m na u np := by
    funext k
    unfold gnP
    rw [gaL_t]
  rw [this]
theorem cdM_same (e : eqB h h1) (m : Nat → Nat) : cdM h1 m = cdM h m := by
  funext na u np j
  unfold cdM
  rw [cdL_same e, gaL_same e]
theorem wlL_same (e : eqB h h1) (m : Nat → Nat) : wlL h1 m = wlL h m := by
  funext M j
  have E := eqB_l e
  unfold wlL whN
  simp only [E]
theorem pcP_same (e : eqB h h1) (m : Nat → Nat) : pcP h1 m = pcP h m := by
  funext W P
  have E := eqB_l e
  unfold pcP clP
  simp only [E]
theorem cdM_f (hW : JW y np na nm nr ne m h) {u j : Nat} (hj : j < (cdL h m na u np).length) : (cdL h m na u np).getD j 0 < 128 ∧ 0 < (cdM h m na u np j).length ∧ (∀ i, i < (cdM h m na u np j).length → (cdM h m na u np j).getD i 0 < na) ∧ whN h m ((cdM h m na u np j).getD 0 0) = (cdL h m na u np).getD j 0 / 8 := by
  obtain ⟨c1, c2⟩ : (cdL h m na u np).getD j 0 < 128 ∧ gnP h m na u np ((cdL h m na u np).getD j 0) := fL_lt hj
  have l0 : 0 < (cdM h m na u np j).length := List.length_pos_iff.mpr c2
  refine ⟨c1, l0, fun i hi => (ga_m hW c1 (gD_mem hi)).1, ?_⟩
  obtain ⟨a1, a2, -⟩ := ga_m hW c1 (gD_mem (L := cdM h m na u np j) l0)
  have w2 : wmN h m ((cdM h m na u np j).getD 0 0) < 8 := vp_lt2 (hW.w_who _ a1)
  unfold codN at a2
  omega
theorem K_best (hJ : JA x y b0 s0 np na nm nr ne g m h) (hm0 : 24 ≤ m 0) (a sp : Int32) (Q : Hp → Prop) (hQ : ∀ h2, JJ x y b0 s0 m h2 → Q h2) : w_X10_best (some x) a sp h (fun r h1 => w_X11_best (some y) a sp h1 (fun r2 h2 => r = r2 ∧ Q h2)) := by
  have hA := hJ.1; unfold JM at hA; have hB := hJ.2.1; unfold JS at hB; have hC := hJ.2.2.1.1; have hR := hJ.rj; have hf := rf_l hJ; have hno := no_l hR; have hno1 := fun k v => no_l (hJ.rj1 k v); have hp := isPlace_e hR; have ha := isAsk_e hR; have hp1 := fun k v => isPlace_e (hJ.rj1 k v); have ha1 := fun k v => isAsk_e (hJ.rj1 k v)
  have hbd := hJ.2.2.1.2
  have hW := hJ.2.2.2.2.2.1
  unfold w_X10_best n_X10_best_0 n_X10_best_33 w_X11_best n_X11_best_0 n_X11_best_33
  by_cases c : vp_in a np
  rotate_left
  · simp only [gI_e, gR_e, pI_e, pZ_e, pR_e, ldI_e, ldZ_e, ldL_e, ldR_e, stI_e, stZ_e, stL_e, stR_e, alN_e, nwA_e, nwO_e, dvI_e, rmI_e, oV_e, oN_e, lt_e, rZ_e, br_T, br_F, fR_sI, aI_sI, aL_sI, aR_sI, kd_sI, ln_sI, hn_sI, hm_sI, fI_sI_n, fI_sR, aI_sR, aL_sR, aR_sR, kd_sR, ln_sR, hn_sR, hm_sR, fR_sR_n, fI_tI, fR_tI, aL_tI, aR_tI, kd_tI, ln_tI, hn_tI, hm_tI, aI_tI_n, fI_tL, fR_tL, aI_tL, aR_tL, kd_tL, ln_tL, hn_tL, hm_tL, aL_tL_n, fI_tR, fR_tR, aI_tR, aL_tR, kd_tR, ln_tR, hn_tR, hm_tR, aR_tR_n, hn_nw, hm_nw, rc400, rc403, rc404, rc405, rc407, rc409, rc420, rc440, bI_0, bI_1, bI_T, bI_F, iF_T, iF_F, br_not, le_nlt, not_true_eq_false, not_false_eq_true, and_self, and_true, true_and, and_false, false_and, or_true, true_or, or_false, false_or, ne_eq, reduceCtorEq, Nat.reduceLeDiff, Nat.reduceEqDiff, Nat.reduceLT, Nat.reduceAdd, Nat.reduceSub, Nat.reduceMul, Int32.reduceLT, Int32.reduceLE, Int32.reduceToNatClampNeg, Int32.reduceAdd, Int32.reduceSub, implies_true, forall_const, isIn_e, bit_e, lits, hA, hB, hC, hf, hno, hno1, hp, ha, hp1, ha1, placeAt_e hJ, askAt_e hJ, modelAt_e hJ, shelfAt_e hJ, isShelf_e, isGroup_e, isAsked_e, rZ_bI, dec_none, dec_s, dec_1, lt_e, c]
    exact hQ _ (hJ.ref 1 (by decide)).jj
  obtain ⟨p, hpp, rfl⟩ := vp_ex c
  have cp := cnF hpp (show np ≤ 24 by omega) (by decide)
  have qp := plF hJ hpp
  by_cases s1 : sp < 0
  · simp only [gI_e, gR_e, pI_e, pZ_e, pR_e, ldI_e, ldZ_e, ldL_e, ldR_e, stI_e, stZ_e, stL_e, stR_e, alN_e, nwA_e, nwO_e, dvI_e, rmI_e, oV_e, oN_e, lt_e, rZ_e, br_T, br_F, fR_sI, aI_sI, aL_sI, aR_sI, kd_sI, ln_sI, hn_sI, hm_sI, fI_sI_n, fI_sR, aI_sR, aL_sR, aR_sR, kd_sR, ln_sR, hn_sR, hm_sR, fR_sR_n, fI_tI, fR_tI, aL_tI, aR_tI, kd_tI, ln_tI, hn_tI, hm_tI, aI_tI_n, fI_tL, fR_tL, aI_tL, aR_tL, kd_tL, ln_tL, hn_tL, hm_tL, aL_tL_n, fI_tR, fR_tR, aI_tR, aL_tR, kd_tR, ln_tR, hn_tR, hm_tR, aR_tR_n, hn_nw, hm_nw, rc400, rc403, rc404, rc405, rc407, rc409, rc420, rc440, bI_0, bI_1, bI_T, bI_F, iF_T, iF_F, br_not, le_nlt, not_true_eq_false, not_false_eq_true, and_self, and_true, true_and, and_false, false_and, or_true, true_or, or_false, false_or, ne_eq, reduceCtorEq, Nat.reduceLeDiff, Nat.reduceEqDiff, Nat.reduceLT, Nat.reduceAdd, Nat.reduceSub, Nat.reduceMul, Int32.reduceLT, Int32.reduceLE, Int32.reduceToNatClampNeg, Int32.reduceAdd, Int32.reduceSub, implies_true, forall_const, isIn_e, bit_e, lits, hA, hB, hC, hf, hno, hno1, hp, ha, hp1, ha1, placeAt_e hJ, askAt_e hJ, modelAt_e hJ, shelfAt_e hJ, isShelf_e, isGroup_e, isAsked_e, rZ_bI, dec_none, dec_s, dec_1, lt_e, c, cp, s1]
    exact hQ _ (hJ.ref 6 (by decide)).jj
  by_cases s2 : 12 < sp
  · simp only [gI_e, gR_e, pI_e, pZ_e, pR_e, ldI_e, ldZ_e, ldL_e, ldR_e, stI_e, stZ_e, stL_e, stR_e, alN_e, nwA_e, nwO_e, dvI_e, rmI_e, oV_e, oN_e, lt_e, rZ_e, br_T, br_F, fR_sI, aI_sI, aL_sI, aR_sI, kd_sI, ln_sI, hn_sI, hm_sI, fI_sI_n, fI_sR, aI_sR, aL_sR, aR_sR, kd_sR, ln_sR, hn_sR, hm_sR, fR_sR_n, fI_tI, fR_tI, aL_tI, aR_tI, kd_tI, ln_tI, hn_tI, hm_tI, aI_tI_n, fI_tL, fR_tL, aI_tL, aR_tL, kd_tL, ln_tL, hn_tL, hm_tL, aL_tL_n, fI_tR, fR_tR, aI_tR, aL_tR, kd_tR, ln_tR, hn_tR, hm_tR, aR_tR_n, hn_nw, hm_nw, rc400, rc403, rc404, rc405, rc407, rc409, rc420, rc440, bI_0, bI_1, bI_T, bI_F, iF_T, iF_F, br_not, le_nlt, not_true_eq_false, not_false_eq_true, and_self, and_true, true_and, and_false, false_and, or_true, true_or, or_false, false_or, ne_eq, reduceCtorEq, Nat.reduceLeDiff, Nat.reduceEqDiff, Nat.reduceLT, Nat.reduceAdd, Nat.reduceSub, Nat.reduceMul, Int32.reduceLT, Int32.reduceLE, Int32.reduceToNatClampNeg, Int32.reduceAdd, Int32.reduceSub, implies_true, forall_const, isIn_e, bit_e, lits, hA, hB, hC, hf, hno, hno1, hp, ha, hp1, ha1, placeAt_e hJ, askAt_e hJ, modelAt_e hJ, shelfAt_e hJ, isShelf_e, isGroup_e, isAsked_e, rZ_bI, dec_none, dec_s, dec_1, lt_e, c, cp, s1, s2]
    exact hQ _ (hJ.ref 6 (by decide)).jj
  by_cases lv : aI h 120 (m 120) p = 0
  · simp only [gI_e, gR_e, pI_e, pZ_e, pR_e, ldI_e, ldZ_e, ldL_e, ldR_e, stI_e, stZ_e, stL_e, stR_e, alN_e, nwA_e, nwO_e, dvI_e, rmI_e, oV_e, oN_e, lt_e, rZ_e, br_T, br_F, fR_sI, aI_sI, aL_sI, aR_sI, kd_sI, ln_sI, hn_sI, hm_sI, fI_sI_n, fI_sR, aI_sR, aL_sR, aR_sR, kd_sR, ln_sR, hn_sR, hm_sR, fR_sR_n, fI_tI, fR_tI, aL_tI, aR_tI, kd_tI, ln_tI, hn_tI, hm_tI, aI_tI_n, fI_tL, fR_tL, aI_tL, aR_tL, kd_tL, ln_tL, hn_tL, hm_tL, aL_tL_n, fI_tR, fR_tR, aI_tR, aL_tR, kd_tR, ln_tR, hn_tR, hm_tR, aR_tR_n, hn_nw, hm_nw, rc400, rc403, rc404, rc405, rc407, rc409, rc420, rc440, bI_0, bI_1, bI_T, bI_F, iF_T, iF_F, br_not, le_nlt, not_true_eq_false, not_false_eq_true, and_self, and_true, true_and, and_false, false_and, or_true, true_or, or_false, false_or, ne_eq, reduceCtorEq, Nat.reduceLeDiff, Nat.reduceEqDiff, Nat.reduceLT, Nat.reduceAdd, Nat.reduceSub, Nat.reduceMul, Int32.reduceLT, Int32.reduceLE, Int32.reduceToNatClampNeg, Int32.reduceAdd, Int32.reduceSub, implies_true, forall_const, isIn_e, bit_e, lits, hA, hB, hC, hf, hno, hno1, hp, ha, hp1, ha1, placeAt_e hJ, askAt_e hJ, modelAt_e hJ, shelfAt_e hJ, isShelf_e, isGroup_e, isAsked_e, rZ_bI, dec_none, dec_s, dec_1, lt_e, c, cp, qp, s1, s2, lv]
    exact hQ _ (hJ.ref 6 (by decide)).jj
  simp only [gI_e, gR_e, pI_e, pZ_e, pR_e, ldI_e, ldZ_e, ldL_e, ldR_e, stI_e, stZ_e, stL_e, stR_e, alN_e, nwA_e, nwO_e, dvI_e, rmI_e, oV_e, oN_e, lt_e, rZ_e, br_T, br_F, fR_sI, aI_sI, aL_sI, aR_sI, kd_sI, ln_sI, hn_sI, hm_sI, fI_sI_n, fI_sR, aI_sR, aL_sR, aR_sR, kd_sR, ln_sR, hn_sR, hm_sR, fR_sR_n, fI_tI, fR_tI, aL_tI, aR_tI, kd_tI, ln_tI, hn_tI, hm_tI, aI_tI_n, fI_tL, fR_tL, aI_tL, aR_tL, kd_tL, ln_tL, hn_tL, hm_tL, aL_tL_n, fI_tR, fR_tR, aI_tR, aL_tR, kd_tR, ln_tR, hn_tR, hm_tR, aR_tR_n, hn_nw, hm_nw, rc400, rc403, rc404, rc405, rc407, rc409, rc420, rc440, bI_0, bI_1, bI_T, bI_F, iF_T, iF_F, br_not, le_nlt, not_true_eq_false, not_false_eq_true, and_self, and_true, true_and, and_false, false_and, or_true, true_or, or_false, false_or, ne_eq, reduceCtorEq, Nat.reduceLeDiff, Nat.reduceEqDiff, Nat.reduceLT, Nat.reduceAdd, Nat.reduceSub, Nat.reduceMul, Int32.reduceLT, Int32.reduceLE, Int32.reduceToNatClampNeg, Int32.reduceAdd, Int32.reduceSub, implies_true, forall_const, isIn_e, bit_e, lits, hA, hB, hC, hf, hno, hno1, hp, ha, hp1, ha1, placeAt_e hJ, askAt_e hJ, modelAt_e hJ, shelfAt_e hJ, isShelf_e, isGroup_e, isAsked_e, rZ_bI, dec_none, dec_s, dec_1, lt_e, c, cp, qp, s1, s2, lv]
  refine gather_e hJ hpp _ ?_
  intro h1 e1 g1
  have hJ1 := hJ.same e1
  have E1 := eqS_l e1
  have hB1 := hJ1.2.1
  unfold JS at hB1
  have hn1 := g1.1
  have N128 : (cdL h m na p np).length ≤ 128 := fL_le _ _
  have l10 : ((10 : Int32) < nI (cdL h m na p np).length) = (10 < (cdL h m na p np).length) := propext (nI_ltI (a := 10) (by omega) (by omega))
  by_cases z : 10 < (cdL h m na p np).length
  · have rf1 := rf_l hJ1
    have hR1 : RJ y np na nm nr ne m (tI h1 110 (g 0 6) 6 (aI h1 110 (g 0 6) 6 + 1)) := hJ1.rj1 6 _
    have cH : cdL (tI h1 110 (g 0 6) 6 (aI h1 110 (g 0 6) 6 + 1)) m na p np = cdL h m na p np := by
      rw [cdL_t, cdL_same e1.b]
    have vH : aI (tI h1 110 (g 0 6) 6 (aI h1 110 (g 0 6) 6 + 1)) 120 (m 120) p = aI h 120 (m 120) p := by
      rw [aI_tI_n _ _ _ _ _ _ (by decide), e1.2.2.2.2.2.2.1 120 rfl]
    have wH : aI (tI h1 110 (g 0 6) 6 (aI h1 110 (g 0 6) 6 + 1)) 161 (m 161) 7 = aI h1 161 (m 161) 7 := by
      rw [aI_tI_n _ _ _ _ _ _ (by decide)]
    have jH : ∀ h', eqS (tI h1 110 (g 0 6) 6 (aI h1 110 (g 0 6) 6 + 1)) h' → JA x y b0 s0 np na nm nr ne g m (tI h' 161 (m 161) 7 (aI h1 161 (m 161) 7 + 1)) := fun h' e' => (hJ1.ref 7 (by decide)).same (h2 := tI h' 161 (m 161) 7 (aI h1 161 (m 161) 7 + 1)) (eqS_tIb e' _ _ _ _)
    simp only [gI_e, gR_e, pI_e, pZ_e, pR_e, ldI_e, ldZ_e, ldL_e, ldR_e, stI_e, stZ_e, stL_e, stR_e, alN_e, nwA_e, nwO_e, dvI_e, rmI_e, oV_e, oN_e, lt_e, rZ_e, br_T, br_F, fR_sI, aI_sI, aL_sI, aR_sI, kd_sI, ln_sI, hn_sI, hm_sI, fI_sI_n, fI_sR, aI_sR, aL_sR, aR_sR, kd_sR, ln_sR, hn_sR, hm_sR, fR_sR_n, fI_tI, fR_tI, aL_tI, aR_tI, kd_tI, ln_tI, hn_tI, hm_tI, aI_tI_n, fI_tL, fR_tL, aI_tL, aR_tL, kd_tL, ln_tL, hn_tL, hm_tL, aL_tL_n, fI_tR, fR_tR, aI_tR, aL_tR, kd_tR, ln_tR, hn_tR, hm_tR, aR_tR_n, hn_nw, hm_nw, rc400, rc403, rc404, rc405, rc407, rc409, rc420, rc440, bI_0, bI_1, bI_T, bI_F, iF_T, iF_F, br_not, le_nlt, not_true_eq_false, not_false_eq_true, and_self, and_true, true_and, and_false, false_and, or_true, true_or, or_false, false_or, ne_eq, reduceCtorEq, Nat.reduceLeDiff, Nat.reduceEqDiff, Nat.reduceLT, Nat.reduceAdd, Nat.reduceSub, Nat.reduceMul, Int32.reduceLT, Int32.reduceLE, Int32.reduceToNatClampNeg, Int32.reduceAdd, Int32.reduceSub, implies_true, forall_const, isIn_e, bit_e, lits, hA, hB, hC, hf, hno, hno1, hp, ha, hp1, ha1, placeAt_e hJ, askAt_e hJ, modelAt_e hJ, shelfAt_e hJ, isShelf_e, isGroup_e, isAsked_e, rZ_bI, dec_none, dec_s, dec_1, lt_e, hB1, hn1, l10, z, rf1]
    generalize tI h1 110 (g 0 6) 6 (aI h1 110 (g 0 6) 6 + 1) = H at *
    have ip := isPlace_e hR1
    have hAH := hR1.1
    unfold JM at hAH
    simp only [gI_e, gR_e, pI_e, pZ_e, pR_e, ldI_e, ldZ_e, ldL_e, ldR_e, stI_e, stZ_e, stL_e, stR_e, alN_e, nwA_e, nwO_e, dvI_e, rmI_e, oV_e, oN_e, lt_e, rZ_e, br_T, br_F, fR_sI, aI_sI, aL_sI, aR_sI, kd_sI, ln_sI, hn_sI, hm_sI, fI_sI_n, fI_sR, aI_sR, aL_sR, aR_sR, kd_sR, ln_sR, hn_sR, hm_sR, fR_sR_n, fI_tI, fR_tI, aL_tI, aR_tI, kd_tI, ln_tI, hn_tI, hm_tI, aI_tI_n, fI_tL, fR_tL, aI_tL, aR_tL, kd_tL, ln_tL, hn_tL, hm_tL, aL_tL_n, fI_tR, fR_tR, aI_tR, aL_tR, kd_tR, ln_tR, hn_tR, hm_tR, aR_tR_n, hn_nw, hm_nw, rc400, rc403, rc404, rc405, rc407, rc409, rc420, rc440, bI_0, bI_1, bI_T, bI_F, iF_T, iF_F, br_not, le_nlt, not_true_eq_false, not_false_eq_true, and_self, and_true, true_and, and_false, false_and, or_true, true_or, or_false, false_or, ne_eq, reduceCtorEq, Nat.reduceLeDiff, Nat.reduceEqDiff, Nat.reduceLT, Nat.reduceAdd, Nat.reduceSub, Nat.reduceMul, Int32.reduceLT, Int32.reduceLE, Int32.reduceToNatClampNeg, Int32.reduceAdd, Int32.reduceSub, implies_true, forall_const, isIn_e, bit_e, lits, hA, hB, hC, hf, hno, hno1, hp, ha, hp1, ha1, placeAt_e hJ, askAt_e hJ, modelAt_e hJ, shelfAt_e hJ, isShelf_e, isGroup_e, isAsked_e, rZ_bI, dec_none, dec_s, dec_1, lt_e, hAH, c, cp, s1, s2, lv, vH, ip]
    refine passA_e hR1 (show np ≤ m 0 by omega) sp _ (fun w => ?_) (fun w h' e' => ?_)
    · rw [cH] at w
      omega
    · have j3 := jH h' e'
      have e161 : aI h' 161 (m 161) 7 = aI h1 161 (m 161) 7 := by rw [e'.2.2.2.2.2.2.1 161 rfl]; exact wH
      refine ⟨rfl, ?_⟩
      rw [e161]
      exact hQ _ j3.jj
  have z10 : (cdL h m na p np).length ≤ 10 := Nat.not_lt.mp z
  simp only [gI_e, gR_e, pI_e, pZ_e, pR_e, ldI_e, ldZ_e, ldL_e, ldR_e, stI_e, stZ_e, stL_e, stR_e, alN_e, nwA_e, nwO_e, dvI_e, rmI_e, oV_e, oN_e, lt_e, rZ_e, br_T, br_F, fR_sI, aI_sI, aL_sI, aR_sI, kd_sI, ln_sI, hn_sI, hm_sI, fI_sI_n, fI_sR, aI_sR, aL_sR, aR_sR, kd_sR, ln_sR, hn_sR, hm_sR, fR_sR_n, fI_tI, fR_tI, aL_tI, aR_tI, kd_tI, ln_tI, hn_tI, hm_tI, aI_tI_n, fI_tL, fR_tL, aI_tL, aR_tL, kd_tL, ln_tL, hn_tL, hm_tL, aL_tL_n, fI_tR, fR_tR, aI_tR, aL_tR, kd_tR, ln_tR, hn_tR, hm_tR, aR_tR_n, hn_nw, hm_nw, rc400, rc403, rc404, rc405, rc407, rc409, rc420, rc440, bI_0, bI_1, bI_T, bI_F, iF_T, iF_F, br_not, le_nlt, not_true_eq_false, not_false_eq_true, and_self, and_true, true_and, and_false, false_and, or_true, true_or, or_false, false_or, ne_eq, reduceCtorEq, Nat.reduceLeDiff, Nat.reduceEqDiff, Nat.reduceLT, Nat.reduceAdd, Nat.reduceSub, Nat.reduceMul, Int32.reduceLT, Int32.reduceLE, Int32.reduceToNatClampNeg, Int32.reduceAdd, Int32.reduceSub, implies_true, forall_const, isIn_e, bit_e, lits, hA, hB, hC, hf, hno, hno1, hp, ha, hp1, ha1, placeAt_e hJ, askAt_e hJ, modelAt_e hJ, shelfAt_e hJ, isShelf_e, isGroup_e, isAsked_e, rZ_bI, dec_none, dec_s, dec_1, lt_e, hB1, hn1, l10, z]
  unfold w_X6_clear n_X6_clear_0
  simp only [gI_e, gR_e, pI_e, pZ_e, pR_e, ldI_e, ldZ_e, ldL_e, ldR_e, stI_e, stZ_e, stL_e, stR_e, alN_e, nwA_e, nwO_e, dvI_e, rmI_e, oV_e, oN_e, lt_e, rZ_e, br_T, br_F, fR_sI, aI_sI, aL_sI, aR_sI, kd_sI, ln_sI, hn_sI, hm_sI, fI_sI_n, fI_sR, aI_sR, aL_sR, aR_sR, kd_sR, ln_sR, hn_sR, hm_sR, fR_sR_n, fI_tI, fR_tI, aL_tI, aR_tI, kd_tI, ln_tI, hn_tI, hm_tI, aI_tI_n, fI_tL, fR_tL, aI_tL, aR_tL, kd_tL, ln_tL, hn_tL, hm_tL, aL_tL_n, fI_tR, fR_tR, aI_tR, aL_tR, kd_tR, ln_tR, hn_tR, hm_tR, aR_tR_n, hn_nw, hm_nw, rc400, rc403, rc404, rc405, rc407, rc409, rc420, rc440, bI_0, bI_1, bI_T, bI_F, iF_T, iF_F, br_not, le_nlt, not_true_eq_false, not_false_eq_true, and_self, and_true, true_and, and_false, false_and, or_true, true_or, or_false, false_or, ne_eq, reduceCtorEq, Nat.reduceLeDiff, Nat.reduceEqDiff, Nat.reduceLT, Nat.reduceAdd, Nat.reduceSub, Nat.reduceMul, Int32.reduceLT, Int32.reduceLE, Int32.reduceToNatClampNeg, Int32.reduceAdd, Int32.reduceSub, implies_true, forall_const, isIn_e, bit_e, lits, hA, hB, hC, hf, hno, hno1, hp, ha, hp1, ha1, placeAt_e hJ, askAt_e hJ, modelAt_e hJ, shelfAt_e hJ, isShelf_e, isGroup_e, isAsked_e, rZ_bI, dec_none, dec_s, dec_1, lt_e, hB1]
  generalize hN : (cdL h m na p np).length = N at *
  have cdf := fun (j : Nat) (hj : j < N) => cdM_f (u := p) hW (show j < (cdL h m na p np).length by omega)
  have e2 : eqS h (sI h1 771 (g 0 10) 0) := e1.sI rfl _ _
  have hC2 : CB x na g m (sI h1 771 (g 0 10) 0) := hJ.cb.of e2.b
  have hG2 : GQ (sI h1 771 (g 0 10) 0) g na N (cdM h m na p np) := by
    unfold GQ at g1 ⊢
    simp (config := {decide := true}) only [fR_sI, aI_sI, aL_sI, aR_sI, kd_sI, ln_sI, hn_sI, hm_sI, fI_sI_n, fI_sR, aI_sR, aL_sR, aR_sR, kd_sR, ln_sR, hn_sR, hm_sR, fR_sR_n, fI_tI, fR_tI, aL_tI, aR_tI, kd_tI, ln_tI, hn_tI, hm_tI, aI_tI_n, fI_tL, fR_tL, aI_tL, aR_tL, kd_tL, ln_tL, hn_tL, hm_tL, aL_tL_n, fI_tR, fR_tR, aI_tR, aL_tR, kd_tR, ln_tR, hn_tR, hm_tR, aR_tR_n, hn_nw, hm_nw]
    exact g1
  have l24 : ∀ j, j < N → (cdM h m na p np j).length ≤ 24 := fun j hj => by
    have := gaL_len hW p ((cdL h m na p np).getD j 0) np
    show (gaL h m na p ((cdL h m na p np).getD j 0) np).length ≤ 24
    omega
  have hq2 : QQ g m (sI h1 771 (g 0 10) 0) [] := by
    refine ⟨Nat.zero_le _, fun i hi => absurd hi (Nat.not_lt_zero _), ?_, fun i hi => absurd hi (Nat.not_lt_zero _), fun i hi => absurd hi (Nat.not_lt_zero _)⟩
    simp (config := {decide := true}) only [fI_sI_e, fR_sR_e, aI_tI_e, aL_tL_e, aR_tR_e, if_true]
    first | done | rfl
  refine takeAll_e hC2 hG2 z10 l24 hq2 sp _ ?_
  intro h3 e3 q3 t3
  rw [wlL_same e2.b] at q3
  rw [bsV_same e2.b] at t3
  have b3 : eqB h h3 := e2.b.tr (eqX.b lp_bF lp_bK e3)
  have hC3 := hJ.cb.of b3
  have wl : (wlL h m (cdM h m na p np) N).length = N := wlL_len _ _ _ _
  have fe := find_e (l2 := sp) hC3 q3 (by omega) (S := fun i => (bsV h m na (cdM h m na p np i) 3).1) (fun i hi => (t3 i (by omega)).1)
  rw [wl, pcP_same b3] at fe
  refine fe _ ?_
  intro h4 e4 n4 m4
  have b4 : eqB h h4 := b3.tr (eqX.b fd_bF fd_bK e4)
  have hR4 := RJ.ofB hJ.rj b4
  have hA4 := hR4.1
  unfold JM at hA4
  have E4 := eqB_l b4
  have ip4 := isPlace_e hR4
  simp only [gI_e, gR_e, pI_e, pZ_e, pR_e, ldI_e, ldZ_e, ldL_e, ldR_e, stI_e, stZ_e, stL_e, stR_e, alN_e, nwA_e, nwO_e, dvI_e, rmI_e, oV_e, oN_e, lt_e, rZ_e, br_T, br_F, fR_sI, aI_sI, aL_sI, aR_sI, kd_sI, ln_sI, hn_sI, hm_sI, fI_sI_n, fI_sR, aI_sR, aL_sR, aR_sR, kd_sR, ln_sR, hn_sR, hm_sR, fR_sR_n, fI_tI, fR_tI, aL_tI, aR_tI, kd_tI, ln_tI, hn_tI, hm_tI, aI_tI_n, fI_tL, fR_tL, aI_tL, aR_tL, kd_tL, ln_tL, hn_tL, hm_tL, aL_tL_n, fI_tR, fR_tR, aI_tR, aL_tR, kd_tR, ln_tR, hn_tR, hm_tR, aR_tR_n, hn_nw, hm_nw, rc400, rc403, rc404, rc405, rc407, rc409, rc420, rc440, bI_0, bI_1, bI_T, bI_F, iF_T, iF_F, br_not, le_nlt, not_true_eq_false, not_false_eq_true, and_self, and_true, true_and, and_false, false_and, or_true, true_or, or_false, false_or, ne_eq, reduceCtorEq, Nat.reduceLeDiff, Nat.reduceEqDiff, Nat.reduceLT, Nat.reduceAdd, Nat.reduceSub, Nat.reduceMul, Int32.reduceLT, Int32.reduceLE, Int32.reduceToNatClampNeg, Int32.reduceAdd, Int32.reduceSub, implies_true, forall_const, isIn_e, bit_e, lits, hA, hB, hC, hf, hno, hno1, hp, ha, hp1, ha1, placeAt_e hJ, askAt_e hJ, modelAt_e hJ, shelfAt_e hJ, isShelf_e, isGroup_e, isAsked_e, rZ_bI, dec_none, dec_s, dec_1, lt_e, E4, hA, c, cp, s1, s2, lv, ip4]
  refine passA_e hR4 (show np ≤ m 0 by omega) sp _ (fun w h5 e5 => ?_) (fun w => absurd (by rw [cdL_same b4, hN]; exact z10) w)
  have b5 : eqB h h5 := b4.tr e5.b
  have hR5 := RJ.ofB hJ.rj b5
  refine passB_e hR5 (show np ≤ m 0 by omega) (by rw [cdL_same b5, hN]; exact z10) sp _ ?_
  intro h6 e6 r6
  rw [cdL_same b5] at r6 ⊢
  have b6 : eqB h h6 := b5.tr e6.b
  have hR6 := RJ.ofB hJ.rj b6
  rw [hN]
  unfold BR at r6
  rw [bsV_same b5, gaL_same b5, hN] at r6
  have se := sets_e (l2 := sp) hR6 z10 (C := fun i => (cdL h m na p np).getD i 0) (fun i hi => ⟨(cdf i hi).1, (r6 i hi).1⟩) (S := fun i => (bsV h m na (cdM h m na p np i) 3).1) (D := fun i => (bsV h m na (cdM h m na p np i) 3).2) (fun i hi => (r6 i hi).2.2) (fun i hi => (r6 i hi).2.1) (W := wlL h m (cdM h m na p np) N) wl (fun i hi => by
    have : (wlL h m (cdM h m na p np) N).getD i 0 = whN h m ((cdM h m na p np i).getD 0 0) := by
      unfold wlL
      have r : (List.range N).getD i 0 = i := by
        rw [List.getD_eq_getElem?_getD, List.getElem?_range hi]
        rfl
      rw [map_gD _ _ (by rw [List.length_range]; exact hi), r]
    rw [this]
    exact (cdf i hi).2.2.2)
  rw [pcP_same b6] at se
  refine se _ ?_
  intro h7 e7 n7 a7
  refine ⟨rfl, hQ _ (JA.jj (JA.best hJ (b6.tr (eqX.b re_bF re_bK e7)) (Or.inr ⟨N, z10, n7, ?_⟩) ?_))⟩
  · rw [e7.2.2.2.2.2.1 130 rfl, e6.2.2.2.2.2.1 130 rfl, e5.2.2.2.2.2.1 130 rfl]
    exact n4
  · intro i n hn' h10 hi
    have x130 : fI h7 130 (g 0 11) = nI N := by
      rw [e7.2.2.2.2.2.1 130 rfl, e6.2.2.2.2.2.1 130 rfl, e5.2.2.2.2.2.1 130 rfl]
      exact n4
    rw [x130] at hn'
    have nn : N = n := (nI_eq (by omega) (by omega)).mp hn'
    have iN : i < N := by omega
    rw [a7 i iN, e7.2.2.2.2.2.1 131 rfl, e6.2.2.2.2.2.1 131 rfl, e5.2.2.2.2.2.1 131 rfl, m4, e7.2.2.2.2.2.2.1 101 rfl, e6.2.2.2.2.2.2.1 101 rfl, e5.2.2.2.2.2.2.1 101 rfl, e4.2.2.2.2.2.2.1 101 rfl, (t3 i iN).2]
    have Ble := bfV_le (fun k => ¬ sp < nI (pop k) ∧ pcP h m (wlL h m (cdM h m na p np) N) (tb (nI k))) (tgV (fun i => (bsV h m na (cdM h m na p np i) 3).1) N) (2 ^ N)
    have pw := pow12 (show N ≤ 12 by omega)
    rw [tb_nI (by omega)]
end KBEST
