theorem isIn_e (n lo hi : Int32) (h : Hp) (Q : Int32 → Hp → Prop) : w_X10_isIn n lo hi h Q = Q (bI (¬ n < lo ∧ ¬ hi < n)) h := by
  unfold w_X10_isIn n_X10_isIn_0 n_X10_isIn_14 n_X10_isIn_15
  by_cases a : n < lo <;> by_cases b : hi < n <;> simp [a, b, br_T, br_F, rZ_e, bI_T, bI_F]
theorem no_e {y : Nat} {m : Nat → Nat} {h : Hp} {Q : Int32 → Hp → Prop} (hM : JM y m h) (k : Nat) (hk : 1 ≤ k ∧ k ≤ 7) : w_X11_no (some y) (-(nI k)) h Q = Q (-(nI k)) (tI h 161 (m 161) k (aI h 161 (m 161) k + 1)) := by
  have hA := hM
  unfold JM at hA
  unfold w_X11_no n_X11_no_0
  have hv : vp_in (- -nI k) 8 := by
    rw [Int32.neg_neg]
    exact vp_in_nI (by omega) (by omega)
  have e : (- -nI k).toNatClampNeg = k := by
    rw [Int32.neg_neg]
    exact nI_clamp (by omega)
  simp only [gI_e, gR_e, pI_e, pZ_e, pR_e, ldI_e, ldZ_e, ldL_e, ldR_e, stI_e, stZ_e, stL_e, stR_e, alN_e, nwA_e, nwO_e, dvI_e, rmI_e, oV_e, oN_e, lt_e, rZ_e, br_T, br_F, fR_sI, aI_sI, aL_sI, aR_sI, kd_sI, ln_sI, hn_sI, hm_sI, fI_sI_n, fI_sI_e, fI_sR, aI_sR, aL_sR, aR_sR, kd_sR, ln_sR, hn_sR, hm_sR, fR_sR_n, fR_sR_e, fI_tI, fR_tI, aL_tI, aR_tI, kd_tI, ln_tI, hn_tI, hm_tI, aI_tI_n, aI_tI_e, fI_tL, fR_tL, aI_tL, aR_tL, kd_tL, ln_tL, hn_tL, hm_tL, aL_tL_n, aL_tL_e, fI_tR, fR_tR, aI_tR, aL_tR, kd_tR, ln_tR, hn_tR, hm_tR, aR_tR_n, aR_tR_e, hn_nw, hm_nw, hA, hv, e, Nat.reduceLeDiff, Nat.reduceLT]
theorem days_1 {x y np na nm nr ne : Nat} {g : Nat → Nat → Nat} {m : Nat → Nat} {h : Hp} {n : Int32} {Q : Int32 → Hp → Prop} (hM : JM y m h) (hS : JS x g h) (hC : JC x y np na nm nr ne h) (a : ¬ n < 1) (b : ¬ 400 < n) (c : ¬ 4000 < fI h 1408 y + n)
   (hQ : Q (fI h 1408 y + n) (sI (sI h 1297 x (fI h 1408 y + n)) 1408 y (fI h 1408 y + n))) : w_X10_days (some x) n h (fun r h1 => w_X11_days (some y) n h1 (fun r2 h2 => r = r2 ∧ Q r2 h2)) := by
  have hA := hM
  unfold JM at hA
  have hB := hS
  unfold JS at hB
  have hD := hC.1
  unfold w_X10_days n_X10_days_0 n_X10_days_23 w_X11_days n_X11_days_0 n_X11_days_24
  simp only [gI_e, gR_e, pI_e, pZ_e, pR_e, ldI_e, ldZ_e, ldL_e, ldR_e, stI_e, stZ_e, stL_e, stR_e, alN_e, nwA_e, nwO_e, dvI_e, rmI_e, oV_e, oN_e, lt_e, rZ_e, br_T, br_F, fR_sI, aI_sI, aL_sI, aR_sI, kd_sI, ln_sI, hn_sI, hm_sI, fI_sI_n, fI_sI_e, fI_sR, aI_sR, aL_sR, aR_sR, kd_sR, ln_sR, hn_sR, hm_sR, fR_sR_n, fR_sR_e, fI_tI, fR_tI, aL_tI, aR_tI, kd_tI, ln_tI, hn_tI, hm_tI, aI_tI_n, aI_tI_e, fI_tL, fR_tL, aI_tL, aR_tL, kd_tL, ln_tL, hn_tL, hm_tL, aL_tL_n, aL_tL_e, fI_tR, fR_tR, aI_tR, aL_tR, kd_tR, ln_tR, hn_tR, hm_tR, aR_tR_n, aR_tR_e, hn_nw, hm_nw, bI_0, bI_1, br_not, le_nlt, isIn_e, not_true_eq_false, not_false_eq_true, and_self, and_true, true_and, and_false, false_and, ne_eq, reduceCtorEq, Nat.reduceEqDiff, Nat.reduceLeDiff, Nat.reduceLT, Nat.reduceLT, Nat.reduceSub, hA, hB, hD, a, b, c, if_true]
  exact hQ
