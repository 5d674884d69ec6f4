section REFR
variable {x y b0 s0 np na nm nr ne r sb n a d : Nat} {g : Nat → Nat → Nat} {m : Nat → Nat} {h0 h h1 : Hp} {L V : Nat → Int32} {S C : List Int32} {T : List RT}
theorem KQ.t15 (R : KQ y m r n h0 h a S d C T) {q j : Nat} (hq : 154 ≤ q ∧ q ≤ 158) (hj : 40 * r + T.length ≤ j) (v : Int32) : KQ y m r n h0 (tI h q (m q) j v) a S d C T := by
  obtain ⟨⟨p1, p2, p3⟩, r1, r2, r3, r4, r5, r6, r7⟩ := R
  refine ⟨⟨KR.t15 p1 hq (by omega) v, p2, p3⟩, r1, r2, r3, r4, ?_, ?_, fun i hi => ?_⟩
  · rw [aI_tI_n _ _ _ _ _ _ (by omega)]
    exact r5
  · rw [aI_tI_n _ _ _ _ _ _ (by omega)]
    exact r6
  · have one : ∀ p, aI (tI h q (m q) j v) p (m p) (40 * r + i) = aI h p (m p) (40 * r + i) := by
      intro p
      by_cases z : p = q
      · rw [z, aI_tI_e, if_neg (by omega)]
      · rw [aI_tI_n _ _ _ _ _ _ z]
    have := r7 i hi
    unfold tTT at this ⊢
    simp only [one]
    exact this
theorem KQ.tst (R : KQ y m r n h0 h a S d C T) (t : RT) (ht : tTT h m (40 * r + T.length) = t) : KQ y m r n h0 (sI h 1472 y (nI (T.length + 1))) a S d C (T ++ [t]) := by
  obtain ⟨⟨p1, p2, p3⟩, r1, r2, r3, r4, r5, r6, r7⟩ := R
  refine ⟨⟨p1.sI rfl _ _, p2, ?_⟩, ?_, ?_, ?_, ?_, r5, r6, fun i hi => ?_⟩
  · rw [fI_sI_n _ _ _ _ _ (by decide)]; exact p3
  · rw [fI_sI_n _ _ _ _ _ (by decide)]; exact r1
  · rw [fI_sI_n _ _ _ _ _ (by decide)]; exact r2
  · rw [fI_sI_n _ _ _ _ _ (by decide)]; exact r3
  · rw [fI_sI_e, if_pos rfl, len1]
  · rw [len1] at hi
    show tTT h m (40 * r + i) = _
    by_cases z : i = T.length
    · rw [z, gDr]
      exact ht
    · rw [gDl (by omega)]
      exact r7 i (by omega)
theorem reads_e (hB : RB y r sb n L m h0) (R : KQ y m r n h0 h a S d C T) (hT : T.length < 40) (Q : Int32 → Hp → Prop) (hY : (grTst (grN L n) (a, -1)).1.2 = -1 → ∀ h', KQ y m r n h0 h' (grTst (grN L n) (a, -1)).1.1 S d C (T ++ [(grTst (grN L n) (a, -1)).2]) → a + 3 ≤ (grTst (grN L n) (a, -1)).1.1 → Q 1 h') (hN : ¬ (grTst (grN L n) (a, -1)).1.2 = -1 → ∀ h', KR m r h0 h' → fI h' 1468 y = (grTst (grN L n) (a, -1)).1.2 → Q 0 h') : w_X11_reads (some y) (nI r) h Q := by
  obtain ⟨E1, E2, E3, E4, f9, f10⟩ := R.1.f hB
  have hA := hB.1
  unfold JM at hA
  have r13 := hB.2.1
  have r4 := R.2.2.2.2.1
  have ix : (40 : Int32) * nI r + nI T.length = nI (40 * r + T.length) := by
    rw [show (40 : Int32) = nI 40 from rfl, pk_mul, nI_add]
  have cx := cnF (show 40 * r + T.length < 520 by omega) (Nat.le_refl 520) (by decide)
  unfold w_X11_reads n_X11_reads_0
  simp (config := {decide := true}) only [gI_e, gR_e, pI_e, pZ_e, pR_e, ldI_e, ldZ_e, ldL_e, ldR_e, stI_e, stZ_e, stL_e, stR_e, alN_e, nwA_e, nwO_e, dvI_e, rmI_e, oV_e, oN_e, lt_e, rZ_e, br_T, br_F, fR_sI, aI_sI, aL_sI, aR_sI, kd_sI, ln_sI, hn_sI, hm_sI, fI_sI_n, fI_sR, aI_sR, aL_sR, aR_sR, kd_sR, ln_sR, hn_sR, hm_sR, fR_sR_n, fI_tI, fR_tI, aL_tI, aR_tI, kd_tI, ln_tI, hn_tI, hm_tI, aI_tI_n, fI_tL, fR_tL, aI_tL, aR_tL, kd_tL, ln_tL, hn_tL, hm_tL, aL_tL_n, fI_tR, fR_tR, aI_tR, aL_tR, kd_tR, ln_tR, hn_tR, hm_tR, aR_tR_n, hn_nw, hm_nw, rc400, rc403, rc404, rc405, rc407, rc409, rc420, rc440, bI_0, bI_1, bI_T, bI_F, iF_T, iF_F, br_not, le_nlt, not_true_eq_false, not_false_eq_true, and_self, and_true, true_and, and_false, false_and, or_true, true_or, or_false, false_or, ne_eq, reduceCtorEq, Nat.reduceLeDiff, Nat.reduceEqDiff, Nat.reduceLT, Nat.reduceAdd, Nat.reduceSub, Nat.reduceMul, Int32.reduceLT, Int32.reduceLE, Int32.reduceToNatClampNeg, Int32.reduceAdd, Int32.reduceSub, implies_true, forall_const, isIn_e, bit_e, lits, E1, hA, r4, ix]
  unfold grTst grTst2 at hY hN
  refine isSideR_e hB R.1 _ (fun l1 h2 e2 l2 l3 l4 l5 l6 => ?_) (fun l1 h2 e2 l4 => ?_)
  rotate_left
  · have lz := l1
    generalize grSide (grN L n) (a, -1) = l at *
    have s1 : grP (grSg (grN L n l.2)) l.2 = l.2 := by
      rw [grN_z l1]
      unfold grP
      rw [iF_n (by unfold grSg; decide), grF_z l1]
    rw [s1] at hN
    have s2 := grSide_z (L := L) (n := n) l1
    simp (config := {decide := true}) only [gI_e, gR_e, pI_e, pZ_e, pR_e, ldI_e, ldZ_e, ldL_e, ldR_e, stI_e, stZ_e, stL_e, stR_e, alN_e, nwA_e, nwO_e, dvI_e, rmI_e, oV_e, oN_e, lt_e, rZ_e, br_T, br_F, fR_sI, aI_sI, aL_sI, aR_sI, kd_sI, ln_sI, hn_sI, hm_sI, fI_sI_n, fI_sR, aI_sR, aL_sR, aR_sR, kd_sR, ln_sR, hn_sR, hm_sR, fR_sR_n, fI_tI, fR_tI, aL_tI, aR_tI, kd_tI, ln_tI, hn_tI, hm_tI, aI_tI_n, fI_tL, fR_tL, aI_tL, aR_tL, kd_tL, ln_tL, hn_tL, hm_tL, aL_tL_n, fI_tR, fR_tR, aI_tR, aL_tR, kd_tR, ln_tR, hn_tR, hm_tR, aR_tR_n, hn_nw, hm_nw, rc400, rc403, rc404, rc405, rc407, rc409, rc420, rc440, bI_0, bI_1, bI_T, bI_F, iF_T, iF_F, br_not, le_nlt, not_true_eq_false, not_false_eq_true, and_self, and_true, true_and, and_false, false_and, or_true, true_or, or_false, false_or, ne_eq, reduceCtorEq, Nat.reduceLeDiff, Nat.reduceEqDiff, Nat.reduceLT, Nat.reduceAdd, Nat.reduceSub, Nat.reduceMul, Int32.reduceLT, Int32.reduceLE, Int32.reduceToNatClampNeg, Int32.reduceAdd, Int32.reduceSub, implies_true, forall_const, isIn_e, bit_e, lits]
    refine hN (by rw [s2]; exact l1) h2 (R.1.1.sd e2) ?_
    rw [s2]
    exact l4
  generalize grSide (grN L n) (a, -1) = l at *
  have lp : l.2 = (l.2.1, -1) := Prod.ext rfl l1
  generalize hb : l.2.1 = b at *
  rw [lp] at hY hN
  have R2 := R.sd e2 l2 l4
  have E1' : kd h2 = kd h0 := e2.2.2.1.trans E1
  have E2' : ln h2 = ln h0 := e2.2.2.2.1.trans E2
  have E3' : fR h2 = fR h0 := e2.2.2.2.2.1.trans E3
  simp (config := {decide := true}) only [gI_e, gR_e, pI_e, pZ_e, pR_e, ldI_e, ldZ_e, ldL_e, ldR_e, stI_e, stZ_e, stL_e, stR_e, alN_e, nwA_e, nwO_e, dvI_e, rmI_e, oV_e, oN_e, lt_e, rZ_e, br_T, br_F, fR_sI, aI_sI, aL_sI, aR_sI, kd_sI, ln_sI, hn_sI, hm_sI, fI_sI_n, fI_sR, aI_sR, aL_sR, aR_sR, kd_sR, ln_sR, hn_sR, hm_sR, fR_sR_n, fI_tI, fR_tI, aL_tI, aR_tI, kd_tI, ln_tI, hn_tI, hm_tI, aI_tI_n, fI_tL, fR_tL, aI_tL, aR_tL, kd_tL, ln_tL, hn_tL, hm_tL, aL_tL_n, fI_tR, fR_tR, aI_tR, aL_tR, kd_tR, ln_tR, hn_tR, hm_tR, aR_tR_n, hn_nw, hm_nw, rc400, rc403, rc404, rc405, rc407, rc409, rc420, rc440, bI_0, bI_1, bI_T, bI_F, iF_T, iF_F, br_not, le_nlt, not_true_eq_false, not_false_eq_true, and_self, and_true, true_and, and_false, false_and, or_true, true_or, or_false, false_or, ne_eq, reduceCtorEq, Nat.reduceLeDiff, Nat.reduceEqDiff, Nat.reduceLT, Nat.reduceAdd, Nat.reduceSub, Nat.reduceMul, Int32.reduceLT, Int32.reduceLE, Int32.reduceToNatClampNeg, Int32.reduceAdd, Int32.reduceSub, implies_true, forall_const, isIn_e, bit_e, lits, E1', E2', E3', hA, cx, l5, l6]
  have R3 := (R2.t15 (q := 154) (j := 40 * r + T.length) (by decide) (Nat.le_refl _) l.1.1).t15 (q := 155) (j := 40 * r + T.length) (by decide) (Nat.le_refl _) l.1.2
  have v4 : aI (tI (tI h2 154 (m 154) (40 * r + T.length) l.1.1) 155 (m 155) (40 * r + T.length) l.1.2) 154 (m 154) (40 * r + T.length) = l.1.1 := by
    simp (config := {decide := true}) only [fR_sI, aI_sI, aL_sI, aR_sI, kd_sI, ln_sI, hn_sI, hm_sI, fI_sI_n, fI_sR, aI_sR, aL_sR, aR_sR, kd_sR, ln_sR, hn_sR, hm_sR, fR_sR_n, fI_tI, fR_tI, aL_tI, aR_tI, kd_tI, ln_tI, hn_tI, hm_tI, aI_tI_n, fI_tL, fR_tL, aI_tL, aR_tL, kd_tL, ln_tL, hn_tL, hm_tL, aL_tL_n, fI_tR, fR_tR, aI_tR, aL_tR, kd_tR, ln_tR, hn_tR, hm_tR, aR_tR_n, hn_nw, hm_nw, fI_sI_e, fR_sR_e, aI_tI_e, aL_tL_e, aR_tR_e, true_and, if_true]
  have v5 : aI (tI (tI h2 154 (m 154) (40 * r + T.length) l.1.1) 155 (m 155) (40 * r + T.length) l.1.2) 155 (m 155) (40 * r + T.length) = l.1.2 := by
    simp (config := {decide := true}) only [fR_sI, aI_sI, aL_sI, aR_sI, kd_sI, ln_sI, hn_sI, hm_sI, fI_sI_n, fI_sR, aI_sR, aL_sR, aR_sR, kd_sR, ln_sR, hn_sR, hm_sR, fR_sR_n, fI_tI, fR_tI, aL_tI, aR_tI, kd_tI, ln_tI, hn_tI, hm_tI, aI_tI_n, fI_tL, fR_tL, aI_tL, aR_tL, kd_tL, ln_tL, hn_tL, hm_tL, aL_tL_n, fI_tR, fR_tR, aI_tR, aL_tR, kd_tR, ln_tR, hn_tR, hm_tR, aR_tR_n, hn_nw, hm_nw, fI_sI_e, fR_sR_e, aI_tI_e, aL_tL_e, aR_tR_e, true_and, if_true]
  generalize tI (tI h2 154 (m 154) (40 * r + T.length) l.1.1) 155 (m 155) (40 * r + T.length) l.1.2 = h3 at *
  obtain ⟨F1, F2, F3, F4, -, -⟩ := R3.1.f hB
  have body : grSg (grN L n (b, -1)) → n_X11_reads_68 (some y) (nI (40 * r + T.length)) h3 Q := by
    intro sg
    have lb : b < n := by
      rcases sg with w | w | w
      · exact (grN_c w (by decide)).2
      · exact (grN_c w (by decide)).2
      · exact (grN_c w (by decide)).2
    have gp : grP (grSg (grN L n (b, -1))) (b, -1) = (b + 1, -1) := iF_y sg _ _
    rw [gp] at hY hN
    have p3 := R3.1.2.2
    unfold n_X11_reads_68
    simp (config := {decide := true}) only [gI_e, gR_e, pI_e, pZ_e, pR_e, ldI_e, ldZ_e, ldL_e, ldR_e, stI_e, stZ_e, stL_e, stR_e, alN_e, nwA_e, nwO_e, dvI_e, rmI_e, oV_e, oN_e, lt_e, rZ_e, br_T, br_F, fR_sI, aI_sI, aL_sI, aR_sI, kd_sI, ln_sI, hn_sI, hm_sI, fI_sI_n, fI_sR, aI_sR, aL_sR, aR_sR, kd_sR, ln_sR, hn_sR, hm_sR, fR_sR_n, fI_tI, fR_tI, aL_tI, aR_tI, kd_tI, ln_tI, hn_tI, hm_tI, aI_tI_n, fI_tL, fR_tL, aI_tL, aR_tL, kd_tL, ln_tL, hn_tL, hm_tL, aL_tL_n, fI_tR, fR_tR, aI_tR, aL_tR, kd_tR, ln_tR, hn_tR, hm_tR, aR_tR_n, hn_nw, hm_nw, rc400, rc403, rc404, rc405, rc407, rc409, rc420, rc440, bI_0, bI_1, bI_T, bI_F, iF_T, iF_F, br_not, le_nlt, not_true_eq_false, not_false_eq_true, and_self, and_true, true_and, and_false, false_and, or_true, true_or, or_false, false_or, ne_eq, reduceCtorEq, Nat.reduceLeDiff, Nat.reduceEqDiff, Nat.reduceLT, Nat.reduceAdd, Nat.reduceSub, Nat.reduceMul, Int32.reduceLT, Int32.reduceLE, Int32.reduceToNatClampNeg, Int32.reduceAdd, Int32.reduceSub, implies_true, forall_const, isIn_e, bit_e, lits, F1, F2, F3, hA, cx, letR_q hB R3.1, p3, n1]
    have R5 := (R3.t15 (q := 156) (j := 40 * r + T.length) (by decide) (Nat.le_refl _) (grN L n (b, -1))).at (show b + 1 ≤ n from lb)
    have w4 : aI (sI (tI h3 156 (m 156) (40 * r + T.length) (grN L n (b, -1))) 1468 y (nI (b + 1))) 154 (m 154) (40 * r + T.length) = l.1.1 := by
      simp (config := {decide := true}) only [fR_sI, aI_sI, aL_sI, aR_sI, kd_sI, ln_sI, hn_sI, hm_sI, fI_sI_n, fI_sR, aI_sR, aL_sR, aR_sR, kd_sR, ln_sR, hn_sR, hm_sR, fR_sR_n, fI_tI, fR_tI, aL_tI, aR_tI, kd_tI, ln_tI, hn_tI, hm_tI, aI_tI_n, fI_tL, fR_tL, aI_tL, aR_tL, kd_tL, ln_tL, hn_tL, hm_tL, aL_tL_n, fI_tR, fR_tR, aI_tR, aL_tR, kd_tR, ln_tR, hn_tR, hm_tR, aR_tR_n, hn_nw, hm_nw]
      exact v4
    have w5 : aI (sI (tI h3 156 (m 156) (40 * r + T.length) (grN L n (b, -1))) 1468 y (nI (b + 1))) 155 (m 155) (40 * r + T.length) = l.1.2 := by
      simp (config := {decide := true}) only [fR_sI, aI_sI, aL_sI, aR_sI, kd_sI, ln_sI, hn_sI, hm_sI, fI_sI_n, fI_sR, aI_sR, aL_sR, aR_sR, kd_sR, ln_sR, hn_sR, hm_sR, fR_sR_n, fI_tI, fR_tI, aL_tI, aR_tI, kd_tI, ln_tI, hn_tI, hm_tI, aI_tI_n, fI_tL, fR_tL, aI_tL, aR_tL, kd_tL, ln_tL, hn_tL, hm_tL, aL_tL_n, fI_tR, fR_tR, aI_tR, aL_tR, kd_tR, ln_tR, hn_tR, hm_tR, aR_tR_n, hn_nw, hm_nw]
      exact v5
    have w6 : aI (sI (tI h3 156 (m 156) (40 * r + T.length) (grN L n (b, -1))) 1468 y (nI (b + 1))) 156 (m 156) (40 * r + T.length) = grN L n (b, -1) := by
      simp (config := {decide := true}) only [fR_sI, aI_sI, aL_sI, aR_sI, kd_sI, ln_sI, hn_sI, hm_sI, fI_sI_n, fI_sR, aI_sR, aL_sR, aR_sR, kd_sR, ln_sR, hn_sR, hm_sR, fR_sR_n, fI_tI, fR_tI, aL_tI, aR_tI, kd_tI, ln_tI, hn_tI, hm_tI, aI_tI_n, fI_tL, fR_tL, aI_tL, aR_tL, kd_tL, ln_tL, hn_tL, hm_tL, aL_tL_n, fI_tR, fR_tR, aI_tR, aL_tR, kd_tR, ln_tR, hn_tR, hm_tR, aR_tR_n, hn_nw, hm_nw, fI_sI_e, fR_sR_e, aI_tI_e, aL_tL_e, aR_tR_e, true_and, if_true]
    generalize sI (tI h3 156 (m 156) (40 * r + T.length) (grN L n (b, -1))) 1468 y (nI (b + 1)) = h5 at *
    obtain ⟨G1, G2, G3, G4, -, -⟩ := R5.1.f hB
    refine isSideR_e hB R5.1 _ (fun k1 h6 e6 k2 k3 k4 k5 k6 => ?_) (fun k1 h6 e6 k4 => ?_)
    rotate_left
    · simp (config := {decide := true}) only [gI_e, gR_e, pI_e, pZ_e, pR_e, ldI_e, ldZ_e, ldL_e, ldR_e, stI_e, stZ_e, stL_e, stR_e, alN_e, nwA_e, nwO_e, dvI_e, rmI_e, oV_e, oN_e, lt_e, rZ_e, br_T, br_F, fR_sI, aI_sI, aL_sI, aR_sI, kd_sI, ln_sI, hn_sI, hm_sI, fI_sI_n, fI_sR, aI_sR, aL_sR, aR_sR, kd_sR, ln_sR, hn_sR, hm_sR, fR_sR_n, fI_tI, fR_tI, aL_tI, aR_tI, kd_tI, ln_tI, hn_tI, hm_tI, aI_tI_n, fI_tL, fR_tL, aI_tL, aR_tL, kd_tL, ln_tL, hn_tL, hm_tL, aL_tL_n, fI_tR, fR_tR, aI_tR, aL_tR, kd_tR, ln_tR, hn_tR, hm_tR, aR_tR_n, hn_nw, hm_nw, rc400, rc403, rc404, rc405, rc407, rc409, rc420, rc440, bI_0, bI_1, bI_T, bI_F, iF_T, iF_F, br_not, le_nlt, not_true_eq_false, not_false_eq_true, and_self, and_true, true_and, and_false, false_and, or_true, true_or, or_false, false_or, ne_eq, reduceCtorEq, Nat.reduceLeDiff, Nat.reduceEqDiff, Nat.reduceLT, Nat.reduceAdd, Nat.reduceSub, Nat.reduceMul, Int32.reduceLT, Int32.reduceLE, Int32.reduceToNatClampNeg, Int32.reduceAdd, Int32.reduceSub, implies_true, forall_const, isIn_e, bit_e, lits]
      exact hN k1 h6 (R5.1.1.sd e6) k4
    have R6 := R5.sd e6 k2 k4
    obtain ⟨H1, H2, H3, H4, -, -⟩ := R6.1.f hB
    have x4 : aI h6 154 (m 154) (40 * r + T.length) = l.1.1 := by rw [e6.2.2.2.2.2.2.1 154 rfl]; exact w4
    have x5 : aI h6 155 (m 155) (40 * r + T.length) = l.1.2 := by rw [e6.2.2.2.2.2.2.1 155 rfl]; exact w5
    have x6 : aI h6 156 (m 156) (40 * r + T.length) = grN L n (b, -1) := by rw [e6.2.2.2.2.2.2.1 156 rfl]; exact w6
    generalize grSide (grN L n) (b + 1, -1) = rr at *
    have R7 := (R6.t15 (q := 157) (j := 40 * r + T.length) (by decide) (Nat.le_refl _) rr.1.1).t15 (q := 158) (j := 40 * r + T.length) (by decide) (Nat.le_refl _) rr.1.2
    have t7 := R7.2.2.2.2.1
    have tt : tTT (tI (tI h6 157 (m 157) (40 * r + T.length) rr.1.1) 158 (m 158) (40 * r + T.length) rr.1.2) m (40 * r + T.length) = (l.1.1, l.1.2, grN L n (b, -1), rr.1.1, rr.1.2) := by
      unfold tTT
      simp (config := {decide := true}) only [fR_sI, aI_sI, aL_sI, aR_sI, kd_sI, ln_sI, hn_sI, hm_sI, fI_sI_n, fI_sR, aI_sR, aL_sR, aR_sR, kd_sR, ln_sR, hn_sR, hm_sR, fR_sR_n, fI_tI, fR_tI, aL_tI, aR_tI, kd_tI, ln_tI, hn_tI, hm_tI, aI_tI_n, fI_tL, fR_tL, aI_tL, aR_tL, kd_tL, ln_tL, hn_tL, hm_tL, aL_tL_n, fI_tR, fR_tR, aI_tR, aL_tR, kd_tR, ln_tR, hn_tR, hm_tR, aR_tR_n, hn_nw, hm_nw, fI_sI_e, fR_sR_e, aI_tI_e, aL_tL_e, aR_tR_e, true_and, if_true, x4, x5, x6]
    have R8 := R7.tst _ tt
    have fin := hY k1 _ R8 (show a + 3 ≤ rr.2.1 by omega)
    have t6 := R6.2.2.2.2.1
    simp (config := {decide := true}) only [gI_e, gR_e, pI_e, pZ_e, pR_e, ldI_e, ldZ_e, ldL_e, ldR_e, stI_e, stZ_e, stL_e, stR_e, alN_e, nwA_e, nwO_e, dvI_e, rmI_e, oV_e, oN_e, lt_e, rZ_e, br_T, br_F, fR_sI, aI_sI, aL_sI, aR_sI, kd_sI, ln_sI, hn_sI, hm_sI, fI_sI_n, fI_sR, aI_sR, aL_sR, aR_sR, kd_sR, ln_sR, hn_sR, hm_sR, fR_sR_n, fI_tI, fR_tI, aL_tI, aR_tI, kd_tI, ln_tI, hn_tI, hm_tI, aI_tI_n, fI_tL, fR_tL, aI_tL, aR_tL, kd_tL, ln_tL, hn_tL, hm_tL, aL_tL_n, fI_tR, fR_tR, aI_tR, aL_tR, kd_tR, ln_tR, hn_tR, hm_tR, aR_tR_n, hn_nw, hm_nw, rc400, rc403, rc404, rc405, rc407, rc409, rc420, rc440, bI_0, bI_1, bI_T, bI_F, iF_T, iF_F, br_not, le_nlt, not_true_eq_false, not_false_eq_true, and_self, and_true, true_and, and_false, false_and, or_true, true_or, or_false, false_or, ne_eq, reduceCtorEq, Nat.reduceLeDiff, Nat.reduceEqDiff, Nat.reduceLT, Nat.reduceAdd, Nat.reduceSub, Nat.reduceMul, Int32.reduceLT, Int32.reduceLE, Int32.reduceToNatClampNeg, Int32.reduceAdd, Int32.reduceSub, implies_true, forall_const, isIn_e, bit_e, lits, H1, H2, H3, hA, cx, k5, k6, t6, n1]
    exact fin
  by_cases s1 : grN L n (b, -1) = 60
  · have := body (Or.inl s1)
    simp (config := {decide := true}) only [gI_e, gR_e, pI_e, pZ_e, pR_e, ldI_e, ldZ_e, ldL_e, ldR_e, stI_e, stZ_e, stL_e, stR_e, alN_e, nwA_e, nwO_e, dvI_e, rmI_e, oV_e, oN_e, lt_e, rZ_e, br_T, br_F, fR_sI, aI_sI, aL_sI, aR_sI, kd_sI, ln_sI, hn_sI, hm_sI, fI_sI_n, fI_sR, aI_sR, aL_sR, aR_sR, kd_sR, ln_sR, hn_sR, hm_sR, fR_sR_n, fI_tI, fR_tI, aL_tI, aR_tI, kd_tI, ln_tI, hn_tI, hm_tI, aI_tI_n, fI_tL, fR_tL, aI_tL, aR_tL, kd_tL, ln_tL, hn_tL, hm_tL, aL_tL_n, fI_tR, fR_tR, aI_tR, aL_tR, kd_tR, ln_tR, hn_tR, hm_tR, aR_tR_n, hn_nw, hm_nw, rc400, rc403, rc404, rc405, rc407, rc409, rc420, rc440, bI_0, bI_1, bI_T, bI_F, iF_T, iF_F, br_not, le_nlt, not_true_eq_false, not_false_eq_true, and_self, and_true, true_and, and_false, false_and, or_true, true_or, or_false, false_or, ne_eq, reduceCtorEq, Nat.reduceLeDiff, Nat.reduceEqDiff, Nat.reduceLT, Nat.reduceAdd, Nat.reduceSub, Nat.reduceMul, Int32.reduceLT, Int32.reduceLE, Int32.reduceToNatClampNeg, Int32.reduceAdd, Int32.reduceSub, implies_true, forall_const, isIn_e, bit_e, lits, F1, hA, isR_q hB R3.1, s1]
    exact this
  · by_cases s2 : grN L n (b, -1) = 62
    · have := body (Or.inr (Or.inl s2))
      simp (config := {decide := true}) only [gI_e, gR_e, pI_e, pZ_e, pR_e, ldI_e, ldZ_e, ldL_e, ldR_e, stI_e, stZ_e, stL_e, stR_e, alN_e, nwA_e, nwO_e, dvI_e, rmI_e, oV_e, oN_e, lt_e, rZ_e, br_T, br_F, fR_sI, aI_sI, aL_sI, aR_sI, kd_sI, ln_sI, hn_sI, hm_sI, fI_sI_n, fI_sR, aI_sR, aL_sR, aR_sR, kd_sR, ln_sR, hn_sR, hm_sR, fR_sR_n, fI_tI, fR_tI, aL_tI, aR_tI, kd_tI, ln_tI, hn_tI, hm_tI, aI_tI_n, fI_tL, fR_tL, aI_tL, aR_tL, kd_tL, ln_tL, hn_tL, hm_tL, aL_tL_n, fI_tR, fR_tR, aI_tR, aL_tR, kd_tR, ln_tR, hn_tR, hm_tR, aR_tR_n, hn_nw, hm_nw, rc400, rc403, rc404, rc405, rc407, rc409, rc420, rc440, bI_0, bI_1, bI_T, bI_F, iF_T, iF_F, br_not, le_nlt, not_true_eq_false, not_false_eq_true, and_self, and_true, true_and, and_false, false_and, or_true, true_or, or_false, false_or, ne_eq, reduceCtorEq, Nat.reduceLeDiff, Nat.reduceEqDiff, Nat.reduceLT, Nat.reduceAdd, Nat.reduceSub, Nat.reduceMul, Int32.reduceLT, Int32.reduceLE, Int32.reduceToNatClampNeg, Int32.reduceAdd, Int32.reduceSub, implies_true, forall_const, isIn_e, bit_e, lits, F1, hA, isR_q hB R3.1, s2]
      exact this
    · by_cases s3 : grN L n (b, -1) = 61
      · have := body (Or.inr (Or.inr s3))
        simp (config := {decide := true}) only [gI_e, gR_e, pI_e, pZ_e, pR_e, ldI_e, ldZ_e, ldL_e, ldR_e, stI_e, stZ_e, stL_e, stR_e, alN_e, nwA_e, nwO_e, dvI_e, rmI_e, oV_e, oN_e, lt_e, rZ_e, br_T, br_F, fR_sI, aI_sI, aL_sI, aR_sI, kd_sI, ln_sI, hn_sI, hm_sI, fI_sI_n, fI_sR, aI_sR, aL_sR, aR_sR, kd_sR, ln_sR, hn_sR, hm_sR, fR_sR_n, fI_tI, fR_tI, aL_tI, aR_tI, kd_tI, ln_tI, hn_tI, hm_tI, aI_tI_n, fI_tL, fR_tL, aI_tL, aR_tL, kd_tL, ln_tL, hn_tL, hm_tL, aL_tL_n, fI_tR, fR_tR, aI_tR, aL_tR, kd_tR, ln_tR, hn_tR, hm_tR, aR_tR_n, hn_nw, hm_nw, rc400, rc403, rc404, rc405, rc407, rc409, rc420, rc440, bI_0, bI_1, bI_T, bI_F, iF_T, iF_F, br_not, le_nlt, not_true_eq_false, not_false_eq_true, and_self, and_true, true_and, and_false, false_and, or_true, true_or, or_false, false_or, ne_eq, reduceCtorEq, Nat.reduceLeDiff, Nat.reduceEqDiff, Nat.reduceLT, Nat.reduceAdd, Nat.reduceSub, Nat.reduceMul, Int32.reduceLT, Int32.reduceLE, Int32.reduceToNatClampNeg, Int32.reduceAdd, Int32.reduceSub, implies_true, forall_const, isIn_e, bit_e, lits, F1, hA, isR_q hB R3.1, s3]
        exact this
      · have no : ¬ grSg (grN L n (b, -1)) := fun w => w.elim s1 (fun w => w.elim s2 s3)
        have gp : grP (grSg (grN L n (b, -1))) (b, -1) = (b, nI b) := by
          unfold grP
          rw [iF_n no]
          exact if_pos rfl
        rw [gp] at hN
        have bn := hB.2.2.2.1
        have nz : ¬ ((b, nI b) : RS).2 = -1 := nI_m1 (by omega)
        have s4 := grSide_z (L := L) (n := n) nz
        simp (config := {decide := true}) only [gI_e, gR_e, pI_e, pZ_e, pR_e, ldI_e, ldZ_e, ldL_e, ldR_e, stI_e, stZ_e, stL_e, stR_e, alN_e, nwA_e, nwO_e, dvI_e, rmI_e, oV_e, oN_e, lt_e, rZ_e, br_T, br_F, fR_sI, aI_sI, aL_sI, aR_sI, kd_sI, ln_sI, hn_sI, hm_sI, fI_sI_n, fI_sR, aI_sR, aL_sR, aR_sR, kd_sR, ln_sR, hn_sR, hm_sR, fR_sR_n, fI_tI, fR_tI, aL_tI, aR_tI, kd_tI, ln_tI, hn_tI, hm_tI, aI_tI_n, fI_tL, fR_tL, aI_tL, aR_tL, kd_tL, ln_tL, hn_tL, hm_tL, aL_tL_n, fI_tR, fR_tR, aI_tR, aL_tR, kd_tR, ln_tR, hn_tR, hm_tR, aR_tR_n, hn_nw, hm_nw, rc400, rc403, rc404, rc405, rc407, rc409, rc420, rc440, bI_0, bI_1, bI_T, bI_F, iF_T, iF_F, br_not, le_nlt, not_true_eq_false, not_false_eq_true, and_self, and_true, true_and, and_false, false_and, or_true, true_or, or_false, false_or, ne_eq, reduceCtorEq, Nat.reduceLeDiff, Nat.reduceEqDiff, Nat.reduceLT, Nat.reduceAdd, Nat.reduceSub, Nat.reduceMul, Int32.reduceLT, Int32.reduceLE, Int32.reduceToNatClampNeg, Int32.reduceAdd, Int32.reduceSub, implies_true, forall_const, isIn_e, bit_e, lits, F1, hA, isR_q hB R3.1, s1, s2, s3]
        refine hN (by rw [s4]; exact nz) h3 R3.1.1 ?_
        rw [s4]
        exact R3.1.2.2
end REFR
