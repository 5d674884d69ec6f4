section VALU
variable {x y b0 s0 np na nm nr ne : Nat} {g : Nat → Nat → Nat} {m : Nat → Nat} {h h1 : Hp}
theorem placesUnder_e (hR : RJ y np na nm nr ne m h) {p : Nat} (hp : p < np) (Q : Int32 → Hp → Prop) (hQ : Q (acI (fun q => iF (aI h 121 (m 121) q = nI p) 1 0) np) h) : w_X11_placesUnder (some y) (nI p) h Q := by
  have hA := hR.1
  unfold JM at hA
  have hC := hR.2.1
  have hbd := hR.2.2.1
  unfold w_X11_placesUnder n_X11_placesUnder_0 l_X11_placesUnder_4
  refine Lo.cnt (n := np) (fun q => iF (aI h 121 (m 121) q = nI p) 1 0) ?_ ?_
  · intro q hq K z hK
    have c := cnF hq (show np ≤ 24 by omega) (by decide)
    unfold b_X11_placesUnder_4 n_X11_placesUnder_25
    by_cases w : aI h 121 (m 121) q = nI p
    · rw [iF_y w] at hK
      simp only [gI_e, gR_e, pI_e, pZ_e, pR_e, ldI_e, ldZ_e, ldL_e, ldR_e, stI_e, stZ_e, stL_e, stR_e, alN_e, nwA_e, nwO_e, dvI_e, rmI_e, oV_e, oN_e, lt_e, rZ_e, br_T, br_F, fR_sI, aI_sI, aL_sI, aR_sI, kd_sI, ln_sI, hn_sI, hm_sI, fI_sI_n, fI_sR, aI_sR, aL_sR, aR_sR, kd_sR, ln_sR, hn_sR, hm_sR, fR_sR_n, fI_tI, fR_tI, aL_tI, aR_tI, kd_tI, ln_tI, hn_tI, hm_tI, aI_tI_n, fI_tL, fR_tL, aI_tL, aR_tL, kd_tL, ln_tL, hn_tL, hm_tL, aL_tL_n, fI_tR, fR_tR, aI_tR, aL_tR, kd_tR, ln_tR, hn_tR, hm_tR, aR_tR_n, hn_nw, hm_nw, rc400, rc403, rc404, rc405, rc407, rc409, rc420, rc440, bI_0, bI_1, bI_T, bI_F, iF_T, iF_F, br_not, le_nlt, not_true_eq_false, not_false_eq_true, and_self, and_true, true_and, and_false, false_and, or_true, true_or, or_false, false_or, ne_eq, reduceCtorEq, Nat.reduceLeDiff, Nat.reduceEqDiff, Nat.reduceLT, Nat.reduceAdd, Nat.reduceSub, Nat.reduceMul, Int32.reduceLT, Int32.reduceLE, Int32.reduceToNatClampNeg, Int32.reduceAdd, Int32.reduceSub, implies_true, forall_const, isIn_e, bit_e, lits, hA, hC, c, w]
      exact hK
    · rw [iF_n w, Int32.add_zero] at hK
      simp only [gI_e, gR_e, pI_e, pZ_e, pR_e, ldI_e, ldZ_e, ldL_e, ldR_e, stI_e, stZ_e, stL_e, stR_e, alN_e, nwA_e, nwO_e, dvI_e, rmI_e, oV_e, oN_e, lt_e, rZ_e, br_T, br_F, fR_sI, aI_sI, aL_sI, aR_sI, kd_sI, ln_sI, hn_sI, hm_sI, fI_sI_n, fI_sR, aI_sR, aL_sR, aR_sR, kd_sR, ln_sR, hn_sR, hm_sR, fR_sR_n, fI_tI, fR_tI, aL_tI, aR_tI, kd_tI, ln_tI, hn_tI, hm_tI, aI_tI_n, fI_tL, fR_tL, aI_tL, aR_tL, kd_tL, ln_tL, hn_tL, hm_tL, aL_tL_n, fI_tR, fR_tR, aI_tR, aL_tR, kd_tR, ln_tR, hn_tR, hm_tR, aR_tR_n, hn_nw, hm_nw, rc400, rc403, rc404, rc405, rc407, rc409, rc420, rc440, bI_0, bI_1, bI_T, bI_F, iF_T, iF_F, br_not, le_nlt, not_true_eq_false, not_false_eq_true, and_self, and_true, true_and, and_false, false_and, or_true, true_or, or_false, false_or, ne_eq, reduceCtorEq, Nat.reduceLeDiff, Nat.reduceEqDiff, Nat.reduceLT, Nat.reduceAdd, Nat.reduceSub, Nat.reduceMul, Int32.reduceLT, Int32.reduceLE, Int32.reduceToNatClampNeg, Int32.reduceAdd, Int32.reduceSub, implies_true, forall_const, isIn_e, bit_e, lits, hA, hC, c, w]
      exact hK
  · intro K
    unfold b_X11_placesUnder_4
    simp only [gI_e, gR_e, pI_e, pZ_e, pR_e, ldI_e, ldZ_e, ldL_e, ldR_e, stI_e, stZ_e, stL_e, stR_e, alN_e, nwA_e, nwO_e, dvI_e, rmI_e, oV_e, oN_e, lt_e, rZ_e, br_T, br_F, fR_sI, aI_sI, aL_sI, aR_sI, kd_sI, ln_sI, hn_sI, hm_sI, fI_sI_n, fI_sR, aI_sR, aL_sR, aR_sR, kd_sR, ln_sR, hn_sR, hm_sR, fR_sR_n, fI_tI, fR_tI, aL_tI, aR_tI, kd_tI, ln_tI, hn_tI, hm_tI, aI_tI_n, fI_tL, fR_tL, aI_tL, aR_tL, kd_tL, ln_tL, hn_tL, hm_tL, aL_tL_n, fI_tR, fR_tR, aI_tR, aL_tR, kd_tR, ln_tR, hn_tR, hm_tR, aR_tR_n, hn_nw, hm_nw, rc400, rc403, rc404, rc405, rc407, rc409, rc420, rc440, bI_0, bI_1, bI_T, bI_F, iF_T, iF_F, br_not, le_nlt, not_true_eq_false, not_false_eq_true, and_self, and_true, true_and, and_false, false_and, or_true, true_or, or_false, false_or, ne_eq, reduceCtorEq, Nat.reduceLeDiff, Nat.reduceEqDiff, Nat.reduceLT, Nat.reduceAdd, Nat.reduceSub, Nat.reduceMul, Int32.reduceLT, Int32.reduceLE, Int32.reduceToNatClampNeg, Int32.reduceAdd, Int32.reduceSub, implies_true, forall_const, isIn_e, bit_e, lits, hA, hC, lt_irr]
    exact hQ
/-- what the fields of a rule hold for a group -/
noncomputable def vaF (h : Hp) (m : Nat → Nat) (y np na : Nat) (L : List Nat) (p k : Nat) (i : Nat) : Int32 := if i = 0 then nI L.length else if i = 1 then acI (fun q => iF (aI h 121 (m 121) q = nI p) 1 0) np else if i = 2 then acI (fun i => hbA (aI h 120 (m 120)) (aI h 124 (m 124)) (aI h 132 (m 132)) (aI h 139 (m 139)) na (L.getD i 0)) L.length else if i = 3 then hsP (aI h 120 (m 120)) (aI h 121 (m 121)) (aI h 124 (m 124)) np p else if i = 4 then nI (jvN (mgF h m L) L.length (rkN L.length 0)) else if i = 5 then nI (k / 8) else if i = 6 then fI h 1408 y else aI h 127 (m 127) (16 * p + k / 8)
theorem valueOf_e (hR : RJ y np na nm nr ne m h) {L : List Nat} (hG : GG h m y L) (l0 : 0 < L.length) (l24 : L.length ≤ 24) (hL : ∀ i, i < L.length → L.getD i 0 < na) {p k : Nat} (hp : p < np) (hk : k < 128) (a f : Int32) (Q : Int64 → Hp → Prop) (hQ : ∀ h', eqX jrF jrK h h' → GG h' m y L → Q (sdv (vaF h m y np na L p k) (a, f)) h') : w_X11_valueOf (some y) a f (nI p) (nI k) h Q := by
  have hA := hR.1
  unfold JM at hA
  have hbd := hR.2.2.1
  have hW := hR.2.2.2
  have d8 := div8_e k hk
  have z8 : ¬ (8 : Int32) = 0 := by decide
  have stay := hQ h (eqX.rf h) hG
  unfold sdv at stay hQ
  unfold w_X11_valueOf n_X11_valueOf_0 n_X11_valueOf_218 n_X11_valueOf_236
  by_cases f1 : f = -1
  · rw [iF_y f1] at stay
    simp (config := {decide := true}) only [gI_e, gR_e, pI_e, pZ_e, pR_e, ldI_e, ldZ_e, ldL_e, ldR_e, stI_e, stZ_e, stL_e, stR_e, alN_e, nwA_e, nwO_e, dvI_e, rmI_e, oV_e, oN_e, lt_e, rZ_e, br_T, br_F, fR_sI, aI_sI, aL_sI, aR_sI, kd_sI, ln_sI, hn_sI, hm_sI, fI_sI_n, fI_sR, aI_sR, aL_sR, aR_sR, kd_sR, ln_sR, hn_sR, hm_sR, fR_sR_n, fI_tI, fR_tI, aL_tI, aR_tI, kd_tI, ln_tI, hn_tI, hm_tI, aI_tI_n, fI_tL, fR_tL, aI_tL, aR_tL, kd_tL, ln_tL, hn_tL, hm_tL, aL_tL_n, fI_tR, fR_tR, aI_tR, aL_tR, kd_tR, ln_tR, hn_tR, hm_tR, aR_tR_n, hn_nw, hm_nw, rc400, rc403, rc404, rc405, rc407, rc409, rc420, rc440, bI_0, bI_1, bI_T, bI_F, iF_T, iF_F, br_not, le_nlt, not_true_eq_false, not_false_eq_true, and_self, and_true, true_and, and_false, false_and, or_true, true_or, or_false, false_or, ne_eq, reduceCtorEq, Nat.reduceLeDiff, Nat.reduceEqDiff, Nat.reduceLT, Nat.reduceAdd, Nat.reduceSub, Nat.reduceMul, Int32.reduceLT, Int32.reduceLE, Int32.reduceToNatClampNeg, Int32.reduceAdd, Int32.reduceSub, implies_true, forall_const, isIn_e, bit_e, lits, f1]
    exact stay
  rw [iF_n f1] at stay
  have key : ∀ i, fIx f = i → Q (a.toInt64 * (vaF h m y np na L p k i).toInt64) h := fun i e => by rw [← e]; exact stay
  by_cases s1 : f = 98
  · have kk := key 1 (by rw [s1]; rfl)
    have e : vaF h m y np na L p k 1 = acI (fun q => iF (aI h 121 (m 121) q = nI p) 1 0) np := rfl
    rw [e] at kk
    simp (config := {decide := true}) only [gI_e, gR_e, pI_e, pZ_e, pR_e, ldI_e, ldZ_e, ldL_e, ldR_e, stI_e, stZ_e, stL_e, stR_e, alN_e, nwA_e, nwO_e, dvI_e, rmI_e, oV_e, oN_e, lt_e, rZ_e, br_T, br_F, fR_sI, aI_sI, aL_sI, aR_sI, kd_sI, ln_sI, hn_sI, hm_sI, fI_sI_n, fI_sR, aI_sR, aL_sR, aR_sR, kd_sR, ln_sR, hn_sR, hm_sR, fR_sR_n, fI_tI, fR_tI, aL_tI, aR_tI, kd_tI, ln_tI, hn_tI, hm_tI, aI_tI_n, fI_tL, fR_tL, aI_tL, aR_tL, kd_tL, ln_tL, hn_tL, hm_tL, aL_tL_n, fI_tR, fR_tR, aI_tR, aL_tR, kd_tR, ln_tR, hn_tR, hm_tR, aR_tR_n, hn_nw, hm_nw, rc400, rc403, rc404, rc405, rc407, rc409, rc420, rc440, bI_0, bI_1, bI_T, bI_F, iF_T, iF_F, br_not, le_nlt, not_true_eq_false, not_false_eq_true, and_self, and_true, true_and, and_false, false_and, or_true, true_or, or_false, false_or, ne_eq, reduceCtorEq, Nat.reduceLeDiff, Nat.reduceEqDiff, Nat.reduceLT, Nat.reduceAdd, Nat.reduceSub, Nat.reduceMul, Int32.reduceLT, Int32.reduceLE, Int32.reduceToNatClampNeg, Int32.reduceAdd, Int32.reduceSub, implies_true, forall_const, isIn_e, bit_e, lits, hA, s1]
    refine placesUnder_e hR hp _ ?_
    exact kk
  by_cases s2 : f = 100
  · have kk := key 6 (by rw [s2]; rfl)
    have e : vaF h m y np na L p k 6 = fI h 1408 y := rfl
    rw [e] at kk
    simp (config := {decide := true}) only [gI_e, gR_e, pI_e, pZ_e, pR_e, ldI_e, ldZ_e, ldL_e, ldR_e, stI_e, stZ_e, stL_e, stR_e, alN_e, nwA_e, nwO_e, dvI_e, rmI_e, oV_e, oN_e, lt_e, rZ_e, br_T, br_F, fR_sI, aI_sI, aL_sI, aR_sI, kd_sI, ln_sI, hn_sI, hm_sI, fI_sI_n, fI_sR, aI_sR, aL_sR, aR_sR, kd_sR, ln_sR, hn_sR, hm_sR, fR_sR_n, fI_tI, fR_tI, aL_tI, aR_tI, kd_tI, ln_tI, hn_tI, hm_tI, aI_tI_n, fI_tL, fR_tL, aI_tL, aR_tL, kd_tL, ln_tL, hn_tL, hm_tL, aL_tL_n, fI_tR, fR_tR, aI_tR, aL_tR, kd_tR, ln_tR, hn_tR, hm_tR, aR_tR_n, hn_nw, hm_nw, rc400, rc403, rc404, rc405, rc407, rc409, rc420, rc440, bI_0, bI_1, bI_T, bI_F, iF_T, iF_F, br_not, le_nlt, not_true_eq_false, not_false_eq_true, and_self, and_true, true_and, and_false, false_and, or_true, true_or, or_false, false_or, ne_eq, reduceCtorEq, Nat.reduceLeDiff, Nat.reduceEqDiff, Nat.reduceLT, Nat.reduceAdd, Nat.reduceSub, Nat.reduceMul, Int32.reduceLT, Int32.reduceLE, Int32.reduceToNatClampNeg, Int32.reduceAdd, Int32.reduceSub, implies_true, forall_const, isIn_e, bit_e, lits, hA, s2]
    exact kk
  by_cases s3 : f = 104
  · have kk := key 2 (by rw [s3]; rfl)
    have e : vaF h m y np na L p k 2 = acI (fun i => hbA (aI h 120 (m 120)) (aI h 124 (m 124)) (aI h 132 (m 132)) (aI h 139 (m 139)) na (L.getD i 0)) L.length := rfl
    rw [e] at kk
    have t : ∀ i, i < L.length → hbA (aI h 120 (m 120)) (aI h 124 (m 124)) (aI h 132 (m 132)) (aI h 139 (m 139)) na (L.getD i 0) = nI (hbA (aI h 120 (m 120)) (aI h 124 (m 124)) (aI h 132 (m 132)) (aI h 139 (m 139)) na (L.getD i 0)).toNatClampNeg ∧ (hbA (aI h 120 (m 120)) (aI h 124 (m 124)) (aI h 132 (m 132)) (aI h 139 (m 139)) na (L.getD i 0)).toNatClampNeg ≤ 159840 := by
      intro i hi
      obtain ⟨z, z1, z2, z3⟩ := hbA_e hW (by omega) (by omega) (hL i hi)
      rw [z3, nI_clamp (by omega)]
      exact ⟨rfl, z2⟩
    generalize hZ : (fun i => (hbA (aI h 120 (m 120)) (aI h 124 (m 124)) (aI h 132 (m 132)) (aI h 139 (m 139)) na (L.getD i 0)).toNatClampNeg) = Z at *
    have t2 : ∀ i, i < L.length → hbA (aI h 120 (m 120)) (aI h 124 (m 124)) (aI h 132 (m 132)) (aI h 139 (m 139)) na (L.getD i 0) = nI (Z i) ∧ Z i ≤ 159840 := fun i hi => by rw [← hZ]; exact t i hi
    have u1 := suN_le (f := Z) (c := 159840) (n := L.length) (fun i hi => (t2 i hi).2)
    rw [acI_congr (fun i hi => (t2 i hi).1), acI_nI, nI_l (by omega)] at kk
    simp (config := {decide := true}) only [gI_e, gR_e, pI_e, pZ_e, pR_e, ldI_e, ldZ_e, ldL_e, ldR_e, stI_e, stZ_e, stL_e, stR_e, alN_e, nwA_e, nwO_e, dvI_e, rmI_e, oV_e, oN_e, lt_e, rZ_e, br_T, br_F, fR_sI, aI_sI, aL_sI, aR_sI, kd_sI, ln_sI, hn_sI, hm_sI, fI_sI_n, fI_sR, aI_sR, aL_sR, aR_sR, kd_sR, ln_sR, hn_sR, hm_sR, fR_sR_n, fI_tI, fR_tI, aL_tI, aR_tI, kd_tI, ln_tI, hn_tI, hm_tI, aI_tI_n, fI_tL, fR_tL, aI_tL, aR_tL, kd_tL, ln_tL, hn_tL, hm_tL, aL_tL_n, fI_tR, fR_tR, aI_tR, aL_tR, kd_tR, ln_tR, hn_tR, hm_tR, aR_tR_n, hn_nw, hm_nw, rc400, rc403, rc404, rc405, rc407, rc409, rc420, rc440, bI_0, bI_1, bI_T, bI_F, iF_T, iF_F, br_not, le_nlt, not_true_eq_false, not_false_eq_true, and_self, and_true, true_and, and_false, false_and, or_true, true_or, or_false, false_or, ne_eq, reduceCtorEq, Nat.reduceLeDiff, Nat.reduceEqDiff, Nat.reduceLT, Nat.reduceAdd, Nat.reduceSub, Nat.reduceMul, Int32.reduceLT, Int32.reduceLE, Int32.reduceToNatClampNeg, Int32.reduceAdd, Int32.reduceSub, implies_true, forall_const, isIn_e, bit_e, lits, hA, s3]
    unfold l_X11_valueOf_140
    refine Lo.run L.length (fun t => (lN (suN Z t), nI t)) (fun _ => h) ?_ ?_ rfl rfl
    · intro t ht K hK
      have c := cnF ht (show L.length ≤ 160 by omega) (by decide)
      have c2 := cnF (hL t ht) (show na ≤ 160 by omega) (by decide)
      unfold b_X11_valueOf_140
      simp (config := {decide := true}) only [gI_e, gR_e, pI_e, pZ_e, pR_e, ldI_e, ldZ_e, ldL_e, ldR_e, stI_e, stZ_e, stL_e, stR_e, alN_e, nwA_e, nwO_e, dvI_e, rmI_e, oV_e, oN_e, lt_e, rZ_e, br_T, br_F, fR_sI, aI_sI, aL_sI, aR_sI, kd_sI, ln_sI, hn_sI, hm_sI, fI_sI_n, fI_sR, aI_sR, aL_sR, aR_sR, kd_sR, ln_sR, hn_sR, hm_sR, fR_sR_n, fI_tI, fR_tI, aL_tI, aR_tI, kd_tI, ln_tI, hn_tI, hm_tI, aI_tI_n, fI_tL, fR_tL, aI_tL, aR_tL, kd_tL, ln_tL, hn_tL, hm_tL, aL_tL_n, fI_tR, fR_tR, aI_tR, aL_tR, kd_tR, ln_tR, hn_tR, hm_tR, aR_tR_n, hn_nw, hm_nw, rc400, rc403, rc404, rc405, rc407, rc409, rc420, rc440, bI_0, bI_1, bI_T, bI_F, iF_T, iF_F, br_not, le_nlt, not_true_eq_false, not_false_eq_true, and_self, and_true, true_and, and_false, false_and, or_true, true_or, or_false, false_or, ne_eq, reduceCtorEq, Nat.reduceLeDiff, Nat.reduceEqDiff, Nat.reduceLT, Nat.reduceAdd, Nat.reduceSub, Nat.reduceMul, Int32.reduceLT, Int32.reduceLE, Int32.reduceToNatClampNeg, Int32.reduceAdd, Int32.reduceSub, implies_true, forall_const, isIn_e, bit_e, lits, hA, hG.1, c, hG.2 t ht]
      refine hearthsBehind_e hR (hL t ht) _ ?_
      rw [(t2 t ht).1, nI_l (by have := (t2 t ht).2; omega)]
      simp only [lt_e, lN_add, c]
      exact hK
    · intro K
      unfold b_X11_valueOf_140 n_X11_valueOf_236
      simp (config := {decide := true}) only [gI_e, gR_e, pI_e, pZ_e, pR_e, ldI_e, ldZ_e, ldL_e, ldR_e, stI_e, stZ_e, stL_e, stR_e, alN_e, nwA_e, nwO_e, dvI_e, rmI_e, oV_e, oN_e, lt_e, rZ_e, br_T, br_F, fR_sI, aI_sI, aL_sI, aR_sI, kd_sI, ln_sI, hn_sI, hm_sI, fI_sI_n, fI_sR, aI_sR, aL_sR, aR_sR, kd_sR, ln_sR, hn_sR, hm_sR, fR_sR_n, fI_tI, fR_tI, aL_tI, aR_tI, kd_tI, ln_tI, hn_tI, hm_tI, aI_tI_n, fI_tL, fR_tL, aI_tL, aR_tL, kd_tL, ln_tL, hn_tL, hm_tL, aL_tL_n, fI_tR, fR_tR, aI_tR, aL_tR, kd_tR, ln_tR, hn_tR, hm_tR, aR_tR_n, hn_nw, hm_nw, rc400, rc403, rc404, rc405, rc407, rc409, rc420, rc440, bI_0, bI_1, bI_T, bI_F, iF_T, iF_F, br_not, le_nlt, not_true_eq_false, not_false_eq_true, and_self, and_true, true_and, and_false, false_and, or_true, true_or, or_false, false_or, ne_eq, reduceCtorEq, Nat.reduceLeDiff, Nat.reduceEqDiff, Nat.reduceLT, Nat.reduceAdd, Nat.reduceSub, Nat.reduceMul, Int32.reduceLT, Int32.reduceLE, Int32.reduceToNatClampNeg, Int32.reduceAdd, Int32.reduceSub, implies_true, forall_const, isIn_e, bit_e, lits, hA, hG.1, lt_irr]
      exact kk
  by_cases s4 : f = 109
  · have e4 : fIx f = 4 := by rw [s4]; rfl
    simp (config := {decide := true}) only [gI_e, gR_e, pI_e, pZ_e, pR_e, ldI_e, ldZ_e, ldL_e, ldR_e, stI_e, stZ_e, stL_e, stR_e, alN_e, nwA_e, nwO_e, dvI_e, rmI_e, oV_e, oN_e, lt_e, rZ_e, br_T, br_F, fR_sI, aI_sI, aL_sI, aR_sI, kd_sI, ln_sI, hn_sI, hm_sI, fI_sI_n, fI_sR, aI_sR, aL_sR, aR_sR, kd_sR, ln_sR, hn_sR, hm_sR, fR_sR_n, fI_tI, fR_tI, aL_tI, aR_tI, kd_tI, ln_tI, hn_tI, hm_tI, aI_tI_n, fI_tL, fR_tL, aI_tL, aR_tL, kd_tL, ln_tL, hn_tL, hm_tL, aL_tL_n, fI_tR, fR_tR, aI_tR, aL_tR, kd_tR, ln_tR, hn_tR, hm_tR, aR_tR_n, hn_nw, hm_nw, rc400, rc403, rc404, rc405, rc407, rc409, rc420, rc440, bI_0, bI_1, bI_T, bI_F, iF_T, iF_F, br_not, le_nlt, not_true_eq_false, not_false_eq_true, and_self, and_true, true_and, and_false, false_and, or_true, true_or, or_false, false_or, ne_eq, reduceCtorEq, Nat.reduceLeDiff, Nat.reduceEqDiff, Nat.reduceLT, Nat.reduceAdd, Nat.reduceSub, Nat.reduceMul, Int32.reduceLT, Int32.reduceLE, Int32.reduceToNatClampNeg, Int32.reduceAdd, Int32.reduceSub, implies_true, forall_const, isIn_e, bit_e, lits, hA, s4]
    refine joinR_e (d := 0) hR hG l0 l24 hL (by decide) _ ?_
    intro h2 e2 g2
    have kk := hQ h2 e2 g2
    rw [iF_n f1] at kk
    have kk2 : Q (a.toInt64 * (vaF h m y np na L p k (fIx f)).toInt64) h2 := kk
    rw [e4] at kk2
    have e : vaF h m y np na L p k 4 = nI (jvN (mgF h m L) L.length (rkN L.length 0)) := rfl
    rw [e] at kk2
    exact kk2
  by_cases s5 : f = 110
  · have kk := key 0 (by rw [s5]; rfl)
    have e : vaF h m y np na L p k 0 = nI L.length := rfl
    rw [e] at kk
    simp (config := {decide := true}) only [gI_e, gR_e, pI_e, pZ_e, pR_e, ldI_e, ldZ_e, ldL_e, ldR_e, stI_e, stZ_e, stL_e, stR_e, alN_e, nwA_e, nwO_e, dvI_e, rmI_e, oV_e, oN_e, lt_e, rZ_e, br_T, br_F, fR_sI, aI_sI, aL_sI, aR_sI, kd_sI, ln_sI, hn_sI, hm_sI, fI_sI_n, fI_sR, aI_sR, aL_sR, aR_sR, kd_sR, ln_sR, hn_sR, hm_sR, fR_sR_n, fI_tI, fR_tI, aL_tI, aR_tI, kd_tI, ln_tI, hn_tI, hm_tI, aI_tI_n, fI_tL, fR_tL, aI_tL, aR_tL, kd_tL, ln_tL, hn_tL, hm_tL, aL_tL_n, fI_tR, fR_tR, aI_tR, aL_tR, kd_tR, ln_tR, hn_tR, hm_tR, aR_tR_n, hn_nw, hm_nw, rc400, rc403, rc404, rc405, rc407, rc409, rc420, rc440, bI_0, bI_1, bI_T, bI_F, iF_T, iF_F, br_not, le_nlt, not_true_eq_false, not_false_eq_true, and_self, and_true, true_and, and_false, false_and, or_true, true_or, or_false, false_or, ne_eq, reduceCtorEq, Nat.reduceLeDiff, Nat.reduceEqDiff, Nat.reduceLT, Nat.reduceAdd, Nat.reduceSub, Nat.reduceMul, Int32.reduceLT, Int32.reduceLE, Int32.reduceToNatClampNeg, Int32.reduceAdd, Int32.reduceSub, implies_true, forall_const, isIn_e, bit_e, lits, hA, s5, hG.1]
    exact kk
  by_cases s6 : f = 116
  · have kk := key 3 (by rw [s6]; rfl)
    have e : vaF h m y np na L p k 3 = hsP (aI h 120 (m 120)) (aI h 121 (m 121)) (aI h 124 (m 124)) np p := rfl
    rw [e] at kk
    simp (config := {decide := true}) only [gI_e, gR_e, pI_e, pZ_e, pR_e, ldI_e, ldZ_e, ldL_e, ldR_e, stI_e, stZ_e, stL_e, stR_e, alN_e, nwA_e, nwO_e, dvI_e, rmI_e, oV_e, oN_e, lt_e, rZ_e, br_T, br_F, fR_sI, aI_sI, aL_sI, aR_sI, kd_sI, ln_sI, hn_sI, hm_sI, fI_sI_n, fI_sR, aI_sR, aL_sR, aR_sR, kd_sR, ln_sR, hn_sR, hm_sR, fR_sR_n, fI_tI, fR_tI, aL_tI, aR_tI, kd_tI, ln_tI, hn_tI, hm_tI, aI_tI_n, fI_tL, fR_tL, aI_tL, aR_tL, kd_tL, ln_tL, hn_tL, hm_tL, aL_tL_n, fI_tR, fR_tR, aI_tR, aL_tR, kd_tR, ln_tR, hn_tR, hm_tR, aR_tR_n, hn_nw, hm_nw, rc400, rc403, rc404, rc405, rc407, rc409, rc420, rc440, bI_0, bI_1, bI_T, bI_F, iF_T, iF_F, br_not, le_nlt, not_true_eq_false, not_false_eq_true, and_self, and_true, true_and, and_false, false_and, or_true, true_or, or_false, false_or, ne_eq, reduceCtorEq, Nat.reduceLeDiff, Nat.reduceEqDiff, Nat.reduceLT, Nat.reduceAdd, Nat.reduceSub, Nat.reduceMul, Int32.reduceLT, Int32.reduceLE, Int32.reduceToNatClampNeg, Int32.reduceAdd, Int32.reduceSub, implies_true, forall_const, isIn_e, bit_e, lits, hA, s6]
    refine hearthsOf_e hR hp _ ?_
    exact kk
  by_cases s7 : f = 119
  · have kk := key 5 (by rw [s7]; rfl)
    have e : vaF h m y np na L p k 5 = nI (k / 8) := rfl
    rw [e] at kk
    simp (config := {decide := true}) only [gI_e, gR_e, pI_e, pZ_e, pR_e, ldI_e, ldZ_e, ldL_e, ldR_e, stI_e, stZ_e, stL_e, stR_e, alN_e, nwA_e, nwO_e, dvI_e, rmI_e, oV_e, oN_e, lt_e, rZ_e, br_T, br_F, fR_sI, aI_sI, aL_sI, aR_sI, kd_sI, ln_sI, hn_sI, hm_sI, fI_sI_n, fI_sR, aI_sR, aL_sR, aR_sR, kd_sR, ln_sR, hn_sR, hm_sR, fR_sR_n, fI_tI, fR_tI, aL_tI, aR_tI, kd_tI, ln_tI, hn_tI, hm_tI, aI_tI_n, fI_tL, fR_tL, aI_tL, aR_tL, kd_tL, ln_tL, hn_tL, hm_tL, aL_tL_n, fI_tR, fR_tR, aI_tR, aL_tR, kd_tR, ln_tR, hn_tR, hm_tR, aR_tR_n, hn_nw, hm_nw, rc400, rc403, rc404, rc405, rc407, rc409, rc420, rc440, bI_0, bI_1, bI_T, bI_F, iF_T, iF_F, br_not, le_nlt, not_true_eq_false, not_false_eq_true, and_self, and_true, true_and, and_false, false_and, or_true, true_or, or_false, false_or, ne_eq, reduceCtorEq, Nat.reduceLeDiff, Nat.reduceEqDiff, Nat.reduceLT, Nat.reduceAdd, Nat.reduceSub, Nat.reduceMul, Int32.reduceLT, Int32.reduceLE, Int32.reduceToNatClampNeg, Int32.reduceAdd, Int32.reduceSub, implies_true, forall_const, isIn_e, bit_e, lits, hA, s7, z8, d8]
    exact kk
  · have e7 : vaF h m y np na L p k (fIx f) = aI h 127 (m 127) (16 * p + k / 8) := by
      unfold fIx
      by_cases s8 : f = 121
      · rw [s8]; rfl
      · rw [if_neg s5, if_neg s1, if_neg s3, if_neg s6, if_neg s4, if_neg s7, if_neg s2, if_neg s8]
        rfl
    have kk := key _ rfl
    rw [e7] at kk
    have ix : (16 : Int32) * nI p + nI (k / 8) = nI (16 * p + k / 8) := by
      rw [show (16 : Int32) = nI 16 from rfl, pk_mul, nI_add]
    have cx := cnF (show 16 * p + k / 8 < 384 by omega) (Nat.le_refl 384) (by decide)
    simp (config := {decide := true}) only [gI_e, gR_e, pI_e, pZ_e, pR_e, ldI_e, ldZ_e, ldL_e, ldR_e, stI_e, stZ_e, stL_e, stR_e, alN_e, nwA_e, nwO_e, dvI_e, rmI_e, oV_e, oN_e, lt_e, rZ_e, br_T, br_F, fR_sI, aI_sI, aL_sI, aR_sI, kd_sI, ln_sI, hn_sI, hm_sI, fI_sI_n, fI_sR, aI_sR, aL_sR, aR_sR, kd_sR, ln_sR, hn_sR, hm_sR, fR_sR_n, fI_tI, fR_tI, aL_tI, aR_tI, kd_tI, ln_tI, hn_tI, hm_tI, aI_tI_n, fI_tL, fR_tL, aI_tL, aR_tL, kd_tL, ln_tL, hn_tL, hm_tL, aL_tL_n, fI_tR, fR_tR, aI_tR, aL_tR, kd_tR, ln_tR, hn_tR, hm_tR, aR_tR_n, hn_nw, hm_nw, rc400, rc403, rc404, rc405, rc407, rc409, rc420, rc440, bI_0, bI_1, bI_T, bI_F, iF_T, iF_F, br_not, le_nlt, not_true_eq_false, not_false_eq_true, and_self, and_true, true_and, and_false, false_and, or_true, true_or, or_false, false_or, ne_eq, reduceCtorEq, Nat.reduceLeDiff, Nat.reduceEqDiff, Nat.reduceLT, Nat.reduceAdd, Nat.reduceSub, Nat.reduceMul, Int32.reduceLT, Int32.reduceLE, Int32.reduceToNatClampNeg, Int32.reduceAdd, Int32.reduceSub, implies_true, forall_const, isIn_e, bit_e, lits, hA, f1, s1, s2, s3, s4, s5, s6, s7, z8, d8, ix, cx]
    exact kk
def kpF (_ : Nat) : Bool := false
def kpK (k : Nat) : Bool := k == 165 || k == 166
theorem kp_sF : ∀ f, isSf f = false → kpF f = false := fun _ _ => rfl
theorem kp_sK : ∀ k, isSk k = false → kpK k = false := by
  intro k q
  unfold isSk at q
  unfold kpK
  simp at q ⊢
  omega
theorem jr_kF : ∀ f, kpF f = false → jrF f = false := fun _ _ => rfl
theorem jr_kK : ∀ k, kpK k = false → jrK k = false := by
  intro k q
  unfold kpK at q
  unfold jrK
  simp at q ⊢
  omega
theorem vaF_same (e : eqX kpF kpK h h1) (m : Nat → Nat) : vaF h1 m = vaF h m := by
  funext y np na L p k i
  have E := eqS_l (eqX.s kp_sF kp_sK e)
  unfold vaF mgF mcN
  simp only [E]
/-- the heap of what was said, as the reference holds it -/
def SAt (h : Hp) (m : Nat → Nat) (s : List Prop) : Prop := ∀ i, i < s.length → aI h 166 (m 166) (s.length - 1 - i) = bI (s.getD i True)
theorem bI_and (p q : Prop) : bI p &&& bI q = bI (p ∧ q) := by
  by_cases a : p
  · by_cases b : q
    · rw [bI_y a, bI_y b, bI_y ⟨a, b⟩]; rfl
    · rw [bI_y a, bI_n b, bI_n (fun z => b z.2)]; rfl
  · by_cases b : q
    · rw [bI_n a, bI_y b, bI_n (fun z => a z.1)]; rfl
    · rw [bI_n a, bI_n b, bI_n (fun z => a z.1)]; rfl
theorem bI_or (p q : Prop) : bI p ||| bI q = bI (p ∨ q) := by
  by_cases a : p
  · by_cases b : q
    · rw [bI_y a, bI_y b, bI_y (Or.inl a)]; rfl
    · rw [bI_y a, bI_n b, bI_y (Or.inl a)]; rfl
  · by_cases b : q
    · rw [bI_n a, bI_y b, bI_y (Or.inr b)]; rfl
    · rw [bI_n a, bI_n b, bI_n (fun z => z.elim a b)]; rfl
theorem bI_not (p : Prop) : 1 - bI p = bI (¬ p) := by
  by_cases a : p
  · rw [bI_y a, bI_n (fun z => z a)]; rfl
  · rw [bI_n a, bI_y a]; rfl
theorem keeps_e (hR : RJ y np na nm nr ne m h) {L : List Nat} (hG : GG h m y L) (l0 : 0 < L.length) (l24 : L.length ≤ 24) (hL : ∀ i, i < L.length → L.getD i 0 < na) {p k r : Nat} (hp : p < np) (hk : k < 128) (hr : r < 12) {C : List Int32} {T : List RT} (hn : aI h 151 (m 151) r = nI C.length) (hC : ∀ i, i < C.length → aI h 153 (m 153) (100 * r + i) = C.getD i 0) (hT : ∀ i, i < T.length → tTT h m (40 * r + i) = T.getD i (0, 0, 0, 0, 0)) (c60 : C.length ≤ 60) (t30 : T.length ≤ 30) {v : Prop} (hv : rS T.length (fun i => gtE (vaF h m y np na L p k) (T.getD i (0, 0, 0, 0, 0))) C [] = some [v]) (Q : Int32 → Hp → Prop) (hQ : ∀ h', eqX kpF kpK h h' → GG h' m y L → Q (bI v) h') : w_X11_keeps (some y) (nI r) (nI p) (nI k) h Q := by
  generalize hE : (fun i => gtE (vaF h m y np na L p k) (T.getD i (0, 0, 0, 0, 0))) = E at *
  unfold w_X11_keeps n_X11_keeps_0 l_X11_keeps_6
  refine Lo.count C.length (fun j st h' => ∃ s : List Prop, eqX kpF kpK h h' ∧ GG h' m y L ∧ st = (nI s.length, nI j) ∧ SAt h' m s ∧ rS T.length E (C.drop j) s = some [v] ∧ s.length ≤ j) ?_ 0 (Nat.zero_le _) _ _ ⟨[], eqX.rf h, hG, rfl, fun i hi => absurd hi (Nat.not_lt_zero _), hv, Nat.le_refl 0⟩
  rintro j st h' hj ⟨s, eX, hG', rfl, hS, hv', sl⟩ K hK
  have eS := eqX.s kp_sF kp_sK eX
  have hR' := RJ.ofS hR eS
  have hA := hR'.1
  unfold JM at hA
  have hn' : aI h' 151 (m 151) r = nI C.length := by rw [eX.2.2.2.2.2.2.1 151 rfl]; exact hn
  have hC' : ∀ i, i < C.length → aI h' 153 (m 153) (100 * r + i) = C.getD i 0 := by rw [eX.2.2.2.2.2.2.1 153 rfl]; exact hC
  have hT' : ∀ i, i < T.length → tTT h' m (40 * r + i) = T.getD i (0, 0, 0, 0, 0) := by
    unfold tTT
    rw [eX.2.2.2.2.2.2.1 154 rfl, eX.2.2.2.2.2.2.1 155 rfl, eX.2.2.2.2.2.2.1 156 rfl, eX.2.2.2.2.2.2.1 157 rfl, eX.2.2.2.2.2.2.1 158 rfl]
    exact hT
  have cr := cnF hr (show 12 ≤ 13 by decide) (by decide)
  unfold b_X11_keeps_6
  by_cases e : j < C.length
  rotate_left
  · obtain rfl : j = C.length := by omega
    rw [List.drop_length] at hv'
    have es : s = [v] := Option.some.inj hv'
    have t0 : aI h' 166 (m 166) 0 = bI v := by
      rw [es] at hS
      exact hS 0 (by show 0 < 1; decide)
    have z0 : vp_in (0 : Int32) 60 ∧ (0 : Int32).toNatClampNeg = 0 := ⟨vp_lit 0 (by decide) (by decide), rfl⟩
    have fin := hQ h' eX hG'
    unfold n_X11_keeps_267
    by_cases w : v
    · rw [bI_y w] at fin t0
      simp (config := {decide := true}) only [gI_e, gR_e, pI_e, pZ_e, pR_e, ldI_e, ldZ_e, ldL_e, ldR_e, stI_e, stZ_e, stL_e, stR_e, alN_e, nwA_e, nwO_e, dvI_e, rmI_e, oV_e, oN_e, lt_e, rZ_e, br_T, br_F, fR_sI, aI_sI, aL_sI, aR_sI, kd_sI, ln_sI, hn_sI, hm_sI, fI_sI_n, fI_sR, aI_sR, aL_sR, aR_sR, kd_sR, ln_sR, hn_sR, hm_sR, fR_sR_n, fI_tI, fR_tI, aL_tI, aR_tI, kd_tI, ln_tI, hn_tI, hm_tI, aI_tI_n, fI_tL, fR_tL, aI_tL, aR_tL, kd_tL, ln_tL, hn_tL, hm_tL, aL_tL_n, fI_tR, fR_tR, aI_tR, aL_tR, kd_tR, ln_tR, hn_tR, hm_tR, aR_tR_n, hn_nw, hm_nw, rc400, rc403, rc404, rc405, rc407, rc409, rc420, rc440, bI_0, bI_1, bI_T, bI_F, iF_T, iF_F, br_not, le_nlt, not_true_eq_false, not_false_eq_true, and_self, and_true, true_and, and_false, false_and, or_true, true_or, or_false, false_or, ne_eq, reduceCtorEq, Nat.reduceLeDiff, Nat.reduceEqDiff, Nat.reduceLT, Nat.reduceAdd, Nat.reduceSub, Nat.reduceMul, Int32.reduceLT, Int32.reduceLE, Int32.reduceToNatClampNeg, Int32.reduceAdd, Int32.reduceSub, implies_true, forall_const, isIn_e, bit_e, lits, hA, cr, hn', lt_irr, z0, t0]
      exact fin
    · rw [bI_n w] at fin t0
      simp (config := {decide := true}) only [gI_e, gR_e, pI_e, pZ_e, pR_e, ldI_e, ldZ_e, ldL_e, ldR_e, stI_e, stZ_e, stL_e, stR_e, alN_e, nwA_e, nwO_e, dvI_e, rmI_e, oV_e, oN_e, lt_e, rZ_e, br_T, br_F, fR_sI, aI_sI, aL_sI, aR_sI, kd_sI, ln_sI, hn_sI, hm_sI, fI_sI_n, fI_sR, aI_sR, aL_sR, aR_sR, kd_sR, ln_sR, hn_sR, hm_sR, fR_sR_n, fI_tI, fR_tI, aL_tI, aR_tI, kd_tI, ln_tI, hn_tI, hm_tI, aI_tI_n, fI_tL, fR_tL, aI_tL, aR_tL, kd_tL, ln_tL, hn_tL, hm_tL, aL_tL_n, fI_tR, fR_tR, aI_tR, aL_tR, kd_tR, ln_tR, hn_tR, hm_tR, aR_tR_n, hn_nw, hm_nw, rc400, rc403, rc404, rc405, rc407, rc409, rc420, rc440, bI_0, bI_1, bI_T, bI_F, iF_T, iF_F, br_not, le_nlt, not_true_eq_false, not_false_eq_true, and_self, and_true, true_and, and_false, false_and, or_true, true_or, or_false, false_or, ne_eq, reduceCtorEq, Nat.reduceLeDiff, Nat.reduceEqDiff, Nat.reduceLT, Nat.reduceAdd, Nat.reduceSub, Nat.reduceMul, Int32.reduceLT, Int32.reduceLE, Int32.reduceToNatClampNeg, Int32.reduceAdd, Int32.reduceSub, implies_true, forall_const, isIn_e, bit_e, lits, hA, cr, hn', lt_irr, z0, t0]
      exact fin
  have cj := cnF e c60 (by decide)
  have dr : C.drop j = C.getD j 0 :: C.drop (j + 1) := by
    rw [List.drop_eq_getElem_cons e]
    congr 1
    rw [List.getD_eq_getElem?_getD, List.getElem?_eq_getElem e]
    rfl
  rw [dr] at hv'
  have hc := hC' j e
  generalize C.getD j 0 = c at *
  have ix : (100 : Int32) * nI r + nI j = nI (100 * r + j) := by
    rw [show (100 : Int32) = nI 100 from rfl, pk_mul, nI_add]
  have cx := cnF (show 100 * r + j < 1300 by omega) (Nat.le_refl 1300) (by decide)
  have put : ∀ (s2 : List Prop) (q : Prop) (h2 : Hp), eqX kpF kpK h h2 → GG h2 m y L → SAt h2 m s2 → s2.length ≤ j → rS T.length E (C.drop (j + 1)) (q :: s2) = some [v] → K (nI (s2.length + 1), nI (j + 1)) (tI h2 166 (m 166) s2.length (bI q)) := by
    intro s2 q h2 eX2 hG2 hS2 sl2 hv2
    refine hK _ _ e ⟨q :: s2, eX2.tI rfl _ _ _, hG2.t (by decide) _ _ _, rfl, fun i hi => ?_, hv2, by show s2.length + 1 ≤ j + 1; omega⟩
    have hi2 : i < s2.length + 1 := hi
    show aI (tI h2 166 (m 166) s2.length (bI q)) 166 (m 166) (s2.length + 1 - 1 - i) = _
    rw [aI_tI_e]
    cases i with
    | zero =>
      rw [if_pos ⟨rfl, by omega⟩]
      rfl
    | succ i =>
      rw [if_neg (by omega)]
      have := hS2 i (by omega)
      rw [show s2.length + 1 - 1 - (i + 1) = s2.length - 1 - i by omega]
      exact this
  rw [rS_c] at hv'
  unfold n_X11_keeps_245 n_X11_keeps_246
  by_cases c1 : c = -1
  · rw [if_pos c1] at hv'
    cases s with
    | nil => exact absurd (show (none : Option (List Prop)) = some [v] from hv') (fun z => by cases z)
    | cons q s2 =>
      have t0 : aI h' 166 (m 166) s2.length = bI q := by
        have := hS 0 (by show 0 < s2.length + 1; omega)
        exact this
      have sl2 : s2.length + 1 ≤ j := sl
      have S2 : SAt h' m s2 := fun i hi => by
        have := hS (i + 1) (by show i + 1 < s2.length + 1; omega)
        have e2 : (q :: s2).length - 1 - (i + 1) = s2.length - 1 - i := by show s2.length + 1 - 1 - (i + 1) = _; omega
        rw [e2] at this
        exact this
      have fin := put s2 (¬ q) h' eX hG' S2 (by omega) hv'
      have c2 := cnF (show s2.length < 60 by omega) (Nat.le_refl 60) (by decide)
      have pr := nI_pred s2.length
      have ls : nI (q :: s2).length = nI (s2.length + 1) := rfl
      rw [← bI_not] at fin
      simp (config := {decide := true}) only [gI_e, gR_e, pI_e, pZ_e, pR_e, ldI_e, ldZ_e, ldL_e, ldR_e, stI_e, stZ_e, stL_e, stR_e, alN_e, nwA_e, nwO_e, dvI_e, rmI_e, oV_e, oN_e, lt_e, rZ_e, br_T, br_F, fR_sI, aI_sI, aL_sI, aR_sI, kd_sI, ln_sI, hn_sI, hm_sI, fI_sI_n, fI_sR, aI_sR, aL_sR, aR_sR, kd_sR, ln_sR, hn_sR, hm_sR, fR_sR_n, fI_tI, fR_tI, aL_tI, aR_tI, kd_tI, ln_tI, hn_tI, hm_tI, aI_tI_n, fI_tL, fR_tL, aI_tL, aR_tL, kd_tL, ln_tL, hn_tL, hm_tL, aL_tL_n, fI_tR, fR_tR, aI_tR, aL_tR, kd_tR, ln_tR, hn_tR, hm_tR, aR_tR_n, hn_nw, hm_nw, rc400, rc403, rc404, rc405, rc407, rc409, rc420, rc440, bI_0, bI_1, bI_T, bI_F, iF_T, iF_F, br_not, le_nlt, not_true_eq_false, not_false_eq_true, and_self, and_true, true_and, and_false, false_and, or_true, true_or, or_false, false_or, ne_eq, reduceCtorEq, Nat.reduceLeDiff, Nat.reduceEqDiff, Nat.reduceLT, Nat.reduceAdd, Nat.reduceSub, Nat.reduceMul, Int32.reduceLT, Int32.reduceLE, Int32.reduceToNatClampNeg, Int32.reduceAdd, Int32.reduceSub, implies_true, forall_const, isIn_e, bit_e, lits, hA, cr, hn', cj, ix, cx, hc, c1, ls, pr, c2, t0]
      exact fin
  rw [if_neg c1] at hv'
  have two : ∀ (q w : Prop) (s2 : List Prop), s = q :: w :: s2 → aI h' 166 (m 166) (s2.length + 1) = bI q ∧ aI h' 166 (m 166) s2.length = bI w ∧ SAt h' m s2 ∧ s2.length + 2 ≤ j := by
    intro q w s2 es
    subst es
    have a0 := hS 0 (by show 0 < s2.length + 2; omega)
    have a1 := hS 1 (by show 1 < s2.length + 2; omega)
    refine ⟨a0, a1, fun i hi => ?_, sl⟩
    have := hS (i + 2) (by show i + 2 < s2.length + 2; omega)
    have e2 : (q :: w :: s2).length - 1 - (i + 2) = s2.length - 1 - i := by show s2.length + 2 - 1 - (i + 2) = _; omega
    rw [e2] at this
    exact this
  have pr1 : ∀ n, nI (n + 2) + (-1) = nI (n + 1) := fun n => by rw [← Int32.sub_eq_add_neg]; exact nI_pred (n + 1)
  by_cases c2 : c = -2
  · rw [if_pos c2] at hv'
    cases s with
    | nil => exact absurd (show (none : Option (List Prop)) = some [v] from hv') (fun z => by cases z)
    | cons q s1 =>
      cases s1 with
      | nil => exact absurd (show (none : Option (List Prop)) = some [v] from hv') (fun z => by cases z)
      | cons w s2 =>
        obtain ⟨t0, t1, S2, sl2⟩ := two q w s2 rfl
        have fin := put s2 (w ∧ q) h' eX hG' S2 (by omega) hv'
        have k2 := cnF (show s2.length < 60 by omega) (Nat.le_refl 60) (by decide)
        have k3 := cnF (show s2.length + 1 < 60 by omega) (Nat.le_refl 60) (by decide)
        have pr := nI_pred s2.length
        have p1 := pr1 s2.length
        have ls : nI (q :: w :: s2).length = nI (s2.length + 2) := rfl
        rw [← bI_and] at fin
        simp (config := {decide := true}) only [gI_e, gR_e, pI_e, pZ_e, pR_e, ldI_e, ldZ_e, ldL_e, ldR_e, stI_e, stZ_e, stL_e, stR_e, alN_e, nwA_e, nwO_e, dvI_e, rmI_e, oV_e, oN_e, lt_e, rZ_e, br_T, br_F, fR_sI, aI_sI, aL_sI, aR_sI, kd_sI, ln_sI, hn_sI, hm_sI, fI_sI_n, fI_sR, aI_sR, aL_sR, aR_sR, kd_sR, ln_sR, hn_sR, hm_sR, fR_sR_n, fI_tI, fR_tI, aL_tI, aR_tI, kd_tI, ln_tI, hn_tI, hm_tI, aI_tI_n, fI_tL, fR_tL, aI_tL, aR_tL, kd_tL, ln_tL, hn_tL, hm_tL, aL_tL_n, fI_tR, fR_tR, aI_tR, aL_tR, kd_tR, ln_tR, hn_tR, hm_tR, aR_tR_n, hn_nw, hm_nw, rc400, rc403, rc404, rc405, rc407, rc409, rc420, rc440, bI_0, bI_1, bI_T, bI_F, iF_T, iF_F, br_not, le_nlt, not_true_eq_false, not_false_eq_true, and_self, and_true, true_and, and_false, false_and, or_true, true_or, or_false, false_or, ne_eq, reduceCtorEq, Nat.reduceLeDiff, Nat.reduceEqDiff, Nat.reduceLT, Nat.reduceAdd, Nat.reduceSub, Nat.reduceMul, Int32.reduceLT, Int32.reduceLE, Int32.reduceToNatClampNeg, Int32.reduceAdd, Int32.reduceSub, implies_true, forall_const, isIn_e, bit_e, lits, hA, cr, hn', cj, ix, cx, hc, c2, ls, p1, pr, k2, k3, t0, t1]
        exact fin
  rw [if_neg c2] at hv'
  by_cases c3 : c = -3
  · rw [if_pos c3] at hv'
    cases s with
    | nil => exact absurd (show (none : Option (List Prop)) = some [v] from hv') (fun z => by cases z)
    | cons q s1 =>
      cases s1 with
      | nil => exact absurd (show (none : Option (List Prop)) = some [v] from hv') (fun z => by cases z)
      | cons w s2 =>
        obtain ⟨t0, t1, S2, sl2⟩ := two q w s2 rfl
        have fin := put s2 (w ∨ q) h' eX hG' S2 (by omega) hv'
        have k2 := cnF (show s2.length < 60 by omega) (Nat.le_refl 60) (by decide)
        have k3 := cnF (show s2.length + 1 < 60 by omega) (Nat.le_refl 60) (by decide)
        have pr := nI_pred s2.length
        have p1 := pr1 s2.length
        have ls : nI (q :: w :: s2).length = nI (s2.length + 2) := rfl
        rw [← bI_or] at fin
        simp (config := {decide := true}) only [gI_e, gR_e, pI_e, pZ_e, pR_e, ldI_e, ldZ_e, ldL_e, ldR_e, stI_e, stZ_e, stL_e, stR_e, alN_e, nwA_e, nwO_e, dvI_e, rmI_e, oV_e, oN_e, lt_e, rZ_e, br_T, br_F, fR_sI, aI_sI, aL_sI, aR_sI, kd_sI, ln_sI, hn_sI, hm_sI, fI_sI_n, fI_sR, aI_sR, aL_sR, aR_sR, kd_sR, ln_sR, hn_sR, hm_sR, fR_sR_n, fI_tI, fR_tI, aL_tI, aR_tI, kd_tI, ln_tI, hn_tI, hm_tI, aI_tI_n, fI_tL, fR_tL, aI_tL, aR_tL, kd_tL, ln_tL, hn_tL, hm_tL, aL_tL_n, fI_tR, fR_tR, aI_tR, aL_tR, kd_tR, ln_tR, hn_tR, hm_tR, aR_tR_n, hn_nw, hm_nw, rc400, rc403, rc404, rc405, rc407, rc409, rc420, rc440, bI_0, bI_1, bI_T, bI_F, iF_T, iF_F, br_not, le_nlt, not_true_eq_false, not_false_eq_true, and_self, and_true, true_and, and_false, false_and, or_true, true_or, or_false, false_or, ne_eq, reduceCtorEq, Nat.reduceLeDiff, Nat.reduceEqDiff, Nat.reduceLT, Nat.reduceAdd, Nat.reduceSub, Nat.reduceMul, Int32.reduceLT, Int32.reduceLE, Int32.reduceToNatClampNeg, Int32.reduceAdd, Int32.reduceSub, implies_true, forall_const, isIn_e, bit_e, lits, hA, cr, hn', cj, ix, cx, hc, c3, ls, p1, pr, k2, k3, t0, t1]
        exact fin
  rw [if_neg c3] at hv'
  by_cases ci : ∃ i, i < T.length ∧ c = nI i
  rotate_left
  · rw [iF_n ci] at hv'
    exact absurd (show (none : Option (List Prop)) = some [v] from hv') (fun z => by cases z)
  obtain ⟨i, hi, rfl⟩ := ci
  rw [iF_y ⟨i, hi, rfl⟩, nI_clamp (by omega)] at hv'
  have ng : ¬ nI i < 0 := nI_pos (by omega)
  have iy : (40 : Int32) * nI r + nI i = nI (40 * r + i) := by
    rw [show (40 : Int32) = nI 40 from rfl, pk_mul, nI_add]
  have cy := cnF (show 40 * r + i < 520 by omega) (Nat.le_refl 520) (by decide)
  have tt := hT' i hi
  have ev : E i = gtE (vaF h m y np na L p k) (T.getD i (0, 0, 0, 0, 0)) := by rw [← hE]
  rw [ev] at hv'
  generalize T.getD i (0, 0, 0, 0, 0) = td at *
  have t1 : aI h' 154 (m 154) (40 * r + i) = td.1 := congrArg (fun t : RT => t.1) tt
  have t2 : aI h' 155 (m 155) (40 * r + i) = td.2.1 := congrArg (fun t : RT => t.2.1) tt
  have t3 : aI h' 156 (m 156) (40 * r + i) = td.2.2.1 := congrArg (fun t : RT => t.2.2.1) tt
  have t4 : aI h' 157 (m 157) (40 * r + i) = td.2.2.2.1 := congrArg (fun t : RT => t.2.2.2.1) tt
  have t5 : aI h' 158 (m 158) (40 * r + i) = td.2.2.2.2 := congrArg (fun t : RT => t.2.2.2.2) tt
  simp (config := {decide := true}) only [gI_e, gR_e, pI_e, pZ_e, pR_e, ldI_e, ldZ_e, ldL_e, ldR_e, stI_e, stZ_e, stL_e, stR_e, alN_e, nwA_e, nwO_e, dvI_e, rmI_e, oV_e, oN_e, lt_e, rZ_e, br_T, br_F, fR_sI, aI_sI, aL_sI, aR_sI, kd_sI, ln_sI, hn_sI, hm_sI, fI_sI_n, fI_sR, aI_sR, aL_sR, aR_sR, kd_sR, ln_sR, hn_sR, hm_sR, fR_sR_n, fI_tI, fR_tI, aL_tI, aR_tI, kd_tI, ln_tI, hn_tI, hm_tI, aI_tI_n, fI_tL, fR_tL, aI_tL, aR_tL, kd_tL, ln_tL, hn_tL, hm_tL, aL_tL_n, fI_tR, fR_tR, aI_tR, aL_tR, kd_tR, ln_tR, hn_tR, hm_tR, aR_tR_n, hn_nw, hm_nw, rc400, rc403, rc404, rc405, rc407, rc409, rc420, rc440, bI_0, bI_1, bI_T, bI_F, iF_T, iF_F, br_not, le_nlt, not_true_eq_false, not_false_eq_true, and_self, and_true, true_and, and_false, false_and, or_true, true_or, or_false, false_or, ne_eq, reduceCtorEq, Nat.reduceLeDiff, Nat.reduceEqDiff, Nat.reduceLT, Nat.reduceAdd, Nat.reduceSub, Nat.reduceMul, Int32.reduceLT, Int32.reduceLE, Int32.reduceToNatClampNeg, Int32.reduceAdd, Int32.reduceSub, implies_true, forall_const, isIn_e, bit_e, lits, hA, cr, hn', cj, ix, cx, hc, ng, iy, cy, t1, t2]
  refine valueOf_e hR' hG' l0 l24 hL hp hk _ _ _ ?_
  intro h2 e2 g2
  have eX2 : eqX kpF kpK h h2 := eX.tr (eqX.up jr_kF jr_kK e2)
  have hR2 := RJ.ofS hR (eqX.s kp_sF kp_sK eX2)
  have hA2 := hR2.1
  unfold JM at hA2
  have u3 : aI h2 156 (m 156) (40 * r + i) = td.2.2.1 := by rw [e2.2.2.2.2.2.2.1 156 rfl]; exact t3
  have u4 : aI h2 157 (m 157) (40 * r + i) = td.2.2.2.1 := by rw [e2.2.2.2.2.2.2.1 157 rfl]; exact t4
  have u5 : aI h2 158 (m 158) (40 * r + i) = td.2.2.2.2 := by rw [e2.2.2.2.2.2.2.1 158 rfl]; exact t5
  rw [vaF_same eX]
  simp (config := {decide := true}) only [gI_e, gR_e, pI_e, pZ_e, pR_e, ldI_e, ldZ_e, ldL_e, ldR_e, stI_e, stZ_e, stL_e, stR_e, alN_e, nwA_e, nwO_e, dvI_e, rmI_e, oV_e, oN_e, lt_e, rZ_e, br_T, br_F, fR_sI, aI_sI, aL_sI, aR_sI, kd_sI, ln_sI, hn_sI, hm_sI, fI_sI_n, fI_sR, aI_sR, aL_sR, aR_sR, kd_sR, ln_sR, hn_sR, hm_sR, fR_sR_n, fI_tI, fR_tI, aL_tI, aR_tI, kd_tI, ln_tI, hn_tI, hm_tI, aI_tI_n, fI_tL, fR_tL, aI_tL, aR_tL, kd_tL, ln_tL, hn_tL, hm_tL, aL_tL_n, fI_tR, fR_tR, aI_tR, aL_tR, kd_tR, ln_tR, hn_tR, hm_tR, aR_tR_n, hn_nw, hm_nw, rc400, rc403, rc404, rc405, rc407, rc409, rc420, rc440, bI_0, bI_1, bI_T, bI_F, iF_T, iF_F, br_not, le_nlt, not_true_eq_false, not_false_eq_true, and_self, and_true, true_and, and_false, false_and, or_true, true_or, or_false, false_or, ne_eq, reduceCtorEq, Nat.reduceLeDiff, Nat.reduceEqDiff, Nat.reduceLT, Nat.reduceAdd, Nat.reduceSub, Nat.reduceMul, Int32.reduceLT, Int32.reduceLE, Int32.reduceToNatClampNeg, Int32.reduceAdd, Int32.reduceSub, implies_true, forall_const, isIn_e, bit_e, lits, hA2, cy, u4, u5]
  refine valueOf_e hR2 g2 l0 l24 hL hp hk _ _ _ ?_
  intro h3 e3 g3
  have eX3 : eqX kpF kpK h h3 := eX2.tr (eqX.up jr_kF jr_kK e3)
  have hR3 := RJ.ofS hR (eqX.s kp_sF kp_sK eX3)
  have hA3 := hR3.1
  unfold JM at hA3
  have w3 : aI h3 156 (m 156) (40 * r + i) = td.2.2.1 := by rw [e3.2.2.2.2.2.2.1 156 rfl]; exact u3
  have S3 : SAt h3 m s := by
    unfold SAt
    rw [e3.2.2.2.2.2.2.1 166 rfl, e2.2.2.2.2.2.2.1 166 rfl]
    exact hS
  rw [vaF_same eX2]
  have fin := put s _ h3 eX3 g3 S3 sl hv'
  unfold gtE at fin
  have l1 := n1 s.length
  have cs := cnF (show s.length < 60 by omega) (Nat.le_refl 60) (by decide)
  generalize lg_cmp (sdv (vaF h m y np na L p k) (td.1, td.2.1)) (sdv (vaF h m y np na L p k) (td.2.2.2.1, td.2.2.2.2)) = cc at *
  unfold n_X11_keeps_152 n_X11_keeps_156 n_X11_keeps_157 n_X11_keeps_246
  by_cases q1 : td.2.2.1 = 60
  · rw [iF_y q1] at fin
    by_cases q2 : cc < 0
    · rw [bI_y q2] at fin
      simp (config := {decide := true}) only [gI_e, gR_e, pI_e, pZ_e, pR_e, ldI_e, ldZ_e, ldL_e, ldR_e, stI_e, stZ_e, stL_e, stR_e, alN_e, nwA_e, nwO_e, dvI_e, rmI_e, oV_e, oN_e, lt_e, rZ_e, br_T, br_F, fR_sI, aI_sI, aL_sI, aR_sI, kd_sI, ln_sI, hn_sI, hm_sI, fI_sI_n, fI_sR, aI_sR, aL_sR, aR_sR, kd_sR, ln_sR, hn_sR, hm_sR, fR_sR_n, fI_tI, fR_tI, aL_tI, aR_tI, kd_tI, ln_tI, hn_tI, hm_tI, aI_tI_n, fI_tL, fR_tL, aI_tL, aR_tL, kd_tL, ln_tL, hn_tL, hm_tL, aL_tL_n, fI_tR, fR_tR, aI_tR, aL_tR, kd_tR, ln_tR, hn_tR, hm_tR, aR_tR_n, hn_nw, hm_nw, rc400, rc403, rc404, rc405, rc407, rc409, rc420, rc440, bI_0, bI_1, bI_T, bI_F, iF_T, iF_F, br_not, le_nlt, not_true_eq_false, not_false_eq_true, and_self, and_true, true_and, and_false, false_and, or_true, true_or, or_false, false_or, ne_eq, reduceCtorEq, Nat.reduceLeDiff, Nat.reduceEqDiff, Nat.reduceLT, Nat.reduceAdd, Nat.reduceSub, Nat.reduceMul, Int32.reduceLT, Int32.reduceLE, Int32.reduceToNatClampNeg, Int32.reduceAdd, Int32.reduceSub, implies_true, forall_const, isIn_e, bit_e, lits, hA3, cy, w3, q1, q2, l1, cs, cj]
      exact fin
    · rw [bI_n q2] at fin
      simp (config := {decide := true}) only [gI_e, gR_e, pI_e, pZ_e, pR_e, ldI_e, ldZ_e, ldL_e, ldR_e, stI_e, stZ_e, stL_e, stR_e, alN_e, nwA_e, nwO_e, dvI_e, rmI_e, oV_e, oN_e, lt_e, rZ_e, br_T, br_F, fR_sI, aI_sI, aL_sI, aR_sI, kd_sI, ln_sI, hn_sI, hm_sI, fI_sI_n, fI_sR, aI_sR, aL_sR, aR_sR, kd_sR, ln_sR, hn_sR, hm_sR, fR_sR_n, fI_tI, fR_tI, aL_tI, aR_tI, kd_tI, ln_tI, hn_tI, hm_tI, aI_tI_n, fI_tL, fR_tL, aI_tL, aR_tL, kd_tL, ln_tL, hn_tL, hm_tL, aL_tL_n, fI_tR, fR_tR, aI_tR, aL_tR, kd_tR, ln_tR, hn_tR, hm_tR, aR_tR_n, hn_nw, hm_nw, rc400, rc403, rc404, rc405, rc407, rc409, rc420, rc440, bI_0, bI_1, bI_T, bI_F, iF_T, iF_F, br_not, le_nlt, not_true_eq_false, not_false_eq_true, and_self, and_true, true_and, and_false, false_and, or_true, true_or, or_false, false_or, ne_eq, reduceCtorEq, Nat.reduceLeDiff, Nat.reduceEqDiff, Nat.reduceLT, Nat.reduceAdd, Nat.reduceSub, Nat.reduceMul, Int32.reduceLT, Int32.reduceLE, Int32.reduceToNatClampNeg, Int32.reduceAdd, Int32.reduceSub, implies_true, forall_const, isIn_e, bit_e, lits, hA3, cy, w3, q1, q2, l1, cs, cj]
      exact fin
  rw [iF_n q1] at fin
  by_cases q3 : td.2.2.1 = 62
  · rw [iF_y q3] at fin
    by_cases q2 : 0 < cc
    · rw [bI_y q2] at fin
      simp (config := {decide := true}) only [gI_e, gR_e, pI_e, pZ_e, pR_e, ldI_e, ldZ_e, ldL_e, ldR_e, stI_e, stZ_e, stL_e, stR_e, alN_e, nwA_e, nwO_e, dvI_e, rmI_e, oV_e, oN_e, lt_e, rZ_e, br_T, br_F, fR_sI, aI_sI, aL_sI, aR_sI, kd_sI, ln_sI, hn_sI, hm_sI, fI_sI_n, fI_sR, aI_sR, aL_sR, aR_sR, kd_sR, ln_sR, hn_sR, hm_sR, fR_sR_n, fI_tI, fR_tI, aL_tI, aR_tI, kd_tI, ln_tI, hn_tI, hm_tI, aI_tI_n, fI_tL, fR_tL, aI_tL, aR_tL, kd_tL, ln_tL, hn_tL, hm_tL, aL_tL_n, fI_tR, fR_tR, aI_tR, aL_tR, kd_tR, ln_tR, hn_tR, hm_tR, aR_tR_n, hn_nw, hm_nw, rc400, rc403, rc404, rc405, rc407, rc409, rc420, rc440, bI_0, bI_1, bI_T, bI_F, iF_T, iF_F, br_not, le_nlt, not_true_eq_false, not_false_eq_true, and_self, and_true, true_and, and_false, false_and, or_true, true_or, or_false, false_or, ne_eq, reduceCtorEq, Nat.reduceLeDiff, Nat.reduceEqDiff, Nat.reduceLT, Nat.reduceAdd, Nat.reduceSub, Nat.reduceMul, Int32.reduceLT, Int32.reduceLE, Int32.reduceToNatClampNeg, Int32.reduceAdd, Int32.reduceSub, implies_true, forall_const, isIn_e, bit_e, lits, hA3, cy, w3, q3, q2, l1, cs, cj]
      exact fin
    · rw [bI_n q2] at fin
      simp (config := {decide := true}) only [gI_e, gR_e, pI_e, pZ_e, pR_e, ldI_e, ldZ_e, ldL_e, ldR_e, stI_e, stZ_e, stL_e, stR_e, alN_e, nwA_e, nwO_e, dvI_e, rmI_e, oV_e, oN_e, lt_e, rZ_e, br_T, br_F, fR_sI, aI_sI, aL_sI, aR_sI, kd_sI, ln_sI, hn_sI, hm_sI, fI_sI_n, fI_sR, aI_sR, aL_sR, aR_sR, kd_sR, ln_sR, hn_sR, hm_sR, fR_sR_n, fI_tI, fR_tI, aL_tI, aR_tI, kd_tI, ln_tI, hn_tI, hm_tI, aI_tI_n, fI_tL, fR_tL, aI_tL, aR_tL, kd_tL, ln_tL, hn_tL, hm_tL, aL_tL_n, fI_tR, fR_tR, aI_tR, aL_tR, kd_tR, ln_tR, hn_tR, hm_tR, aR_tR_n, hn_nw, hm_nw, rc400, rc403, rc404, rc405, rc407, rc409, rc420, rc440, bI_0, bI_1, bI_T, bI_F, iF_T, iF_F, br_not, le_nlt, not_true_eq_false, not_false_eq_true, and_self, and_true, true_and, and_false, false_and, or_true, true_or, or_false, false_or, ne_eq, reduceCtorEq, Nat.reduceLeDiff, Nat.reduceEqDiff, Nat.reduceLT, Nat.reduceAdd, Nat.reduceSub, Nat.reduceMul, Int32.reduceLT, Int32.reduceLE, Int32.reduceToNatClampNeg, Int32.reduceAdd, Int32.reduceSub, implies_true, forall_const, isIn_e, bit_e, lits, hA3, cy, w3, q3, q2, l1, cs, cj]
      exact fin
  rw [iF_n q3] at fin
  by_cases q2 : cc = 0
  · rw [bI_y q2] at fin
    simp (config := {decide := true}) only [gI_e, gR_e, pI_e, pZ_e, pR_e, ldI_e, ldZ_e, ldL_e, ldR_e, stI_e, stZ_e, stL_e, stR_e, alN_e, nwA_e, nwO_e, dvI_e, rmI_e, oV_e, oN_e, lt_e, rZ_e, br_T, br_F, fR_sI, aI_sI, aL_sI, aR_sI, kd_sI, ln_sI, hn_sI, hm_sI, fI_sI_n, fI_sR, aI_sR, aL_sR, aR_sR, kd_sR, ln_sR, hn_sR, hm_sR, fR_sR_n, fI_tI, fR_tI, aL_tI, aR_tI, kd_tI, ln_tI, hn_tI, hm_tI, aI_tI_n, fI_tL, fR_tL, aI_tL, aR_tL, kd_tL, ln_tL, hn_tL, hm_tL, aL_tL_n, fI_tR, fR_tR, aI_tR, aL_tR, kd_tR, ln_tR, hn_tR, hm_tR, aR_tR_n, hn_nw, hm_nw, rc400, rc403, rc404, rc405, rc407, rc409, rc420, rc440, bI_0, bI_1, bI_T, bI_F, iF_T, iF_F, br_not, le_nlt, not_true_eq_false, not_false_eq_true, and_self, and_true, true_and, and_false, false_and, or_true, true_or, or_false, false_or, ne_eq, reduceCtorEq, Nat.reduceLeDiff, Nat.reduceEqDiff, Nat.reduceLT, Nat.reduceAdd, Nat.reduceSub, Nat.reduceMul, Int32.reduceLT, Int32.reduceLE, Int32.reduceToNatClampNeg, Int32.reduceAdd, Int32.reduceSub, implies_true, forall_const, isIn_e, bit_e, lits, hA3, cy, w3, q1, q3, q2, l1, cs, cj]
    exact fin
  · rw [bI_n q2] at fin
    simp (config := {decide := true}) only [gI_e, gR_e, pI_e, pZ_e, pR_e, ldI_e, ldZ_e, ldL_e, ldR_e, stI_e, stZ_e, stL_e, stR_e, alN_e, nwA_e, nwO_e, dvI_e, rmI_e, oV_e, oN_e, lt_e, rZ_e, br_T, br_F, fR_sI, aI_sI, aL_sI, aR_sI, kd_sI, ln_sI, hn_sI, hm_sI, fI_sI_n, fI_sR, aI_sR, aL_sR, aR_sR, kd_sR, ln_sR, hn_sR, hm_sR, fR_sR_n, fI_tI, fR_tI, aL_tI, aR_tI, kd_tI, ln_tI, hn_tI, hm_tI, aI_tI_n, fI_tL, fR_tL, aI_tL, aR_tL, kd_tL, ln_tL, hn_tL, hm_tL, aL_tL_n, fI_tR, fR_tR, aI_tR, aL_tR, kd_tR, ln_tR, hn_tR, hm_tR, aR_tR_n, hn_nw, hm_nw, rc400, rc403, rc404, rc405, rc407, rc409, rc420, rc440, bI_0, bI_1, bI_T, bI_F, iF_T, iF_F, br_not, le_nlt, not_true_eq_false, not_false_eq_true, and_self, and_true, true_and, and_false, false_and, or_true, true_or, or_false, false_or, ne_eq, reduceCtorEq, Nat.reduceLeDiff, Nat.reduceEqDiff, Nat.reduceLT, Nat.reduceAdd, Nat.reduceSub, Nat.reduceMul, Int32.reduceLT, Int32.reduceLE, Int32.reduceToNatClampNeg, Int32.reduceAdd, Int32.reduceSub, implies_true, forall_const, isIn_e, bit_e, lits, hA3, cy, w3, q1, q3, q2, l1, cs, cj]
    exact fin
end VALU
