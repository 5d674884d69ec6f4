theorem eqX_sRb {F K : Nat → Bool} {h h1 : Hp} (e : eqX F K h h1) (f b : Nat) (v : Option Nat) : eqX F K (sR h f b v) (sR h1 f b v) := by
  obtain ⟨e1, e2, e3, e4, e5, e6, e7, e8, e9⟩ := e
  refine ⟨e1, e2, e3, e4, ?_, e6, e7, e8, e9⟩
  show u2 h1.2.1 f b v = u2 h.2.1 f b v
  have e5' : h1.2.1 = h.2.1 := e5
  rw [e5']
theorem eqX_tRb {F K : Nat → Bool} {h h1 : Hp} (e : eqX F K h h1) (k b j : Nat) (v : Option Nat) : eqX F K (tR h k b j v) (tR h1 k b j v) := by
  obtain ⟨e1, e2, e3, e4, e5, e6, e7, e8, e9⟩ := e
  refine ⟨e1, e2, e3, e4, e5, e6, e7, e8, ?_⟩
  have e9' : h1.2.2.2.2.1 = h.2.2.2.2.1 := e9
  show u3 h1.2.2.2.2.1 k b j v = u3 h.2.2.2.2.1 k b j v
  rw [e9']
theorem eqX_nwb {F K : Nat → Bool} {h h1 : Hp} (e : eqX F K h h1) (k n : Nat) : eqX F K (nw h k n) (nw h1 k n) := by
  obtain ⟨e1, e2, e3, e4, e5, e6, e7, e8, e9⟩ := e
  have e3' : h1.2.2.2.2.2.1 = h.2.2.2.2.2.1 := e3
  have e4' : h1.2.2.2.2.2.2.1 = h.2.2.2.2.2.2.1 := e4
  have e5' : h1.2.1 = h.2.1 := e5
  have e8' : h1.2.2.2.1 = h.2.2.2.1 := e8
  have e9' : h1.2.2.2.2.1 = h.2.2.2.2.1 := e9
  refine ⟨?_, ?_, ?_, ?_, ?_, fun f q => ?_, fun k2 q => ?_, ?_, ?_⟩
  · show hn h1 + 1 = hn h + 1
    rw [e1]
  · show hm h1 + n = hm h + n
    rw [e2]
  · show u1 h1.2.2.2.2.2.1 (hn h1) k = u1 h.2.2.2.2.2.1 (hn h) k
    rw [e1, e3']
  · show u1 h1.2.2.2.2.2.2.1 (hn h1) n = u1 h.2.2.2.2.2.2.1 (hn h) n
    rw [e1, e4']
  · show (fun f a => if a = hn h1 then none else h1.2.1 f a) = (fun f a => if a = hn h then none else h.2.1 f a)
    rw [e1, e5']
  · have := e6 f q
    funext a
    show (if a = hn h1 then 0 else fI h1 f a) = (if a = hn h then 0 else fI h f a)
    rw [e1, this]
  · have := e7 k2 q
    funext a j
    show (if a = hn h1 then 0 else aI h1 k2 a j) = (if a = hn h then 0 else aI h k2 a j)
    rw [e1, this]
  · show (fun c a j => if a = hn h1 then 0 else h1.2.2.2.1 c a j) = (fun c a j => if a = hn h then 0 else h.2.2.2.1 c a j)
    rw [e1, e8']
  · show (fun c a j => if a = hn h1 then none else h1.2.2.2.2.1 c a j) = (fun c a j => if a = hn h then none else h.2.2.2.2.1 c a j)
    rw [e1, e9']
theorem eqX_cpNb {F K : Nat → Bool} {h h1 : Hp} (e : eqX F K h h1) (a n : Nat) : eqX F K (cpN h a n) (cpN h1 a n) := by
  have w := eqX_nwb e 399 n
  obtain ⟨e1, e2, e3, e4, e5, e6, e7, e8, e9⟩ := e
  obtain ⟨w1, w2, w3, w4, w5, w6, w7, w8, w9⟩ := w
  refine ⟨w1, w2, w3, w4, w5, w6, w7, ?_, w9⟩
  have w8' : (nw h1 399 n).2.2.2.1 = (nw h 399 n).2.2.2.1 := w8
  show (fun c q x => if c = 399 ∧ q = hn h1 ∧ x < n then aL h1 (kd h1 a) a x else (nw h1 399 n).2.2.2.1 c q x) = (fun c q x => if c = 399 ∧ q = hn h ∧ x < n then aL h (kd h a) a x else (nw h 399 n).2.2.2.1 c q x)
  rw [e1, e3, e8, w8']
theorem eqX.m {F K : Nat → Bool} {h h1 : Hp} (e : eqX F K h h1) (hF : ∀ f, 1408 ≤ f → F f = false) (hK : ∀ k, 120 ≤ k → k < 250 → K k = false) : eqM h h1 := by
  obtain ⟨e1, e2, e3, e4, e5, e6, e7, e8, e9⟩ := e
  exact ⟨by rw [e1]; exact Nat.le_refl _, fun f a q _ => by rw [e6 f (hF f q)], fun f a _ _ => by rw [e5], fun k a q1 q2 _ => by rw [e7 k (hK k q1 q2)], fun k a _ _ _ => by rw [e8], fun a _ => by rw [e3], fun a _ => by rw [e4]⟩
def f98 (f : Nat) : Bool := f == 1298
theorem rl_p {f : Nat} (q : rlF f = false) : f98 f = false ∧ czF f = false ∧ ¬ f = 1295 ∧ ¬ f = 1412 ∧ ¬ f = 1414 := by
  unfold rlF isSf at q
  unfold f98 czF cmF
  simp at q ⊢
  omega
theorem rl_k {k : Nat} (q : rlK k = false) : czK k = false ∧ ¬ k = 148 ∧ ¬ k = 149 ∧ ¬ k = 150 := by
  unfold rlK isSk at q
  unfold czK cmK
  simp at q ⊢
  omega
theorem tl_sF : ∀ f, isSf f = false → tlF f = false := by
  intro f q
  unfold isSf at q
  unfold tlF
  simp at q ⊢
  omega
theorem tl_sK : ∀ k, isSk k = false → tlK k = false := by
  intro f q
  unfold isSk at q
  unfold tlK
  simp at q ⊢
  omega
theorem lev_r {v : Int32} (h1 : ¬ v < 1) (h2 : ¬ 3 < v) : 1 ≤ v.toInt ∧ v.toInt ≤ 3 := by
  have a := Int32.not_lt.mp h1
  have b := Int32.not_lt.mp h2
  rw [Int32.le_iff_toInt_le] at a b
  exact ⟨a, b⟩
theorem day_r {v : Int32} (h1 : ¬ v < 0) (h2 : ¬ 4000 < v) : 0 ≤ v.toInt ∧ v.toInt ≤ 4000 := by
  have a := Int32.not_lt.mp h1
  have b := Int32.not_lt.mp h2
  rw [Int32.le_iff_toInt_le] at a b
  exact ⟨a, b⟩
theorem fI_s (h : Hp) (f a : Nat) (v : Int32) : fI (sI h f a v) f a = v := by rw [fI_sI_e, if_pos rfl]
theorem noJ_e {y : Nat} {m : Nat → Nat} {h : Hp} (hA : JM y m h) (k : Nat) (hk : 1 ≤ k ∧ k ≤ 7) (Q : Int32 → Hp → Prop) : w_X11_no (some y) (-(nI k)) h Q = Q (-(nI k)) (tI h 161 (m 161) k (aI h 161 (m 161) k + 1)) := by
  unfold JM at hA
  unfold w_X11_no n_X11_no_0
  have hv : vp_in (- -nI k) 8 := by
    rw [Int32.neg_neg]
    exact vp_in_nI (by omega) (by omega)
  have e : (- -nI k).toNatClampNeg = k := by
    rw [Int32.neg_neg]
    exact nI_clamp (by omega)
  simp only [gI_e, gR_e, pI_e, pZ_e, pR_e, ldI_e, ldZ_e, ldL_e, ldR_e, stI_e, stZ_e, stL_e, stR_e, alN_e, nwA_e, nwO_e, dvI_e, rmI_e, oV_e, oN_e, lt_e, rZ_e, br_T, br_F, fR_sI, aI_sI, aL_sI, aR_sI, kd_sI, ln_sI, hn_sI, hm_sI, fI_sI_n, fI_sR, aI_sR, aL_sR, aR_sR, kd_sR, ln_sR, hn_sR, hm_sR, fR_sR_n, fI_tI, fR_tI, aL_tI, aR_tI, kd_tI, ln_tI, hn_tI, hm_tI, aI_tI_n, fI_tL, fR_tL, aI_tL, aR_tL, kd_tL, ln_tL, hn_tL, hm_tL, aL_tL_n, fI_tR, fR_tR, aI_tR, aL_tR, kd_tR, ln_tR, hn_tR, hm_tR, aR_tR_n, hn_nw, hm_nw, rc400, rc403, rc404, rc405, rc407, rc409, rc420, rc440, bI_0, bI_1, bI_T, bI_F, iF_T, iF_F, br_not, le_nlt, not_true_eq_false, not_false_eq_true, and_self, and_true, true_and, and_false, false_and, or_true, true_or, or_false, false_or, ne_eq, reduceCtorEq, Nat.reduceLeDiff, Nat.reduceEqDiff, Nat.reduceLT, Nat.reduceAdd, Nat.reduceSub, Nat.reduceMul, Int32.reduceLT, Int32.reduceLE, Int32.reduceToNatClampNeg, Int32.reduceAdd, Int32.reduceSub, implies_true, forall_const, isIn_e, bit_e, lits, hA, hv, e]
section RULB
variable {x y b0 s0 np na nm nr ne : Nat} {g : Nat → Nat → Nat} {m : Nat → Nat} {h h1 h2 E F : Hp}
/-- the class reads the letters of a shelf -/
theorem readC_e (hJ : JA x y b0 s0 np na nm nr ne g m h) {t z : Nat} (htt : t < 8) (hz : z ≤ 60) (d : aI h 128 (m 128) t = 1) (Q : Hp → Prop) (hQ : ∀ h', eqS h h' → fI h' 1028 (g 0 8) = (grE (grN (fun j => (aL h 310 (m 310) (60 * t + j)).toInt32) z) z).2 → Q h') : w_X8_takeLetters (some (g 0 8)) (some (g 8 t)) (nI z) h (fun h => gR h (some x) 11 1288 fun v11 => oV h v11 9 <| w_X8_readRule v11 h Q) := by
  have q := shF hJ htt
  refine takeL_e hJ.2.1 (by rw [q.2.2.2.1]; decide) (by rw [q.2.2.2.2.1]; exact hz) (by rw [q.2.2.2.2.1]; decide) _ ?_
  intro h1 e1 n1' l1
  have eS1 := eqX.s tl_sF tl_sK e1
  have hJ1 := hJ.same eS1
  have hB1 := hJ1.2.1
  unfold JS at hB1
  rw [q.2.2.2.1] at l1
  have bc : BC x g (fun j => (aL h 310 (m 310) (60 * t + j)).toInt32) (fun i => aI h1 109 (g 0 13) i) z h1 := by
    refine ⟨hJ1.2.1, hz, n1', fun j hj => ?_, fun i _ => rfl⟩
    rw [l1 j hj, hJ.2.2.2.2.1.d_cel t j htt (by omega) d]
  simp only [gI_e, gR_e, pI_e, pZ_e, pR_e, ldI_e, ldZ_e, ldL_e, ldR_e, stI_e, stZ_e, stL_e, stR_e, alN_e, nwA_e, nwO_e, dvI_e, rmI_e, oV_e, oN_e, lt_e, rZ_e, br_T, br_F, fR_sI, aI_sI, aL_sI, aR_sI, kd_sI, ln_sI, hn_sI, hm_sI, fI_sI_n, fI_sR, aI_sR, aL_sR, aR_sR, kd_sR, ln_sR, hn_sR, hm_sR, fR_sR_n, fI_tI, fR_tI, aL_tI, aR_tI, kd_tI, ln_tI, hn_tI, hm_tI, aI_tI_n, fI_tL, fR_tL, aI_tL, aR_tL, kd_tL, ln_tL, hn_tL, hm_tL, aL_tL_n, fI_tR, fR_tR, aI_tR, aL_tR, kd_tR, ln_tR, hn_tR, hm_tR, aR_tR_n, hn_nw, hm_nw, rc400, rc403, rc404, rc405, rc407, rc409, rc420, rc440, bI_0, bI_1, bI_T, bI_F, iF_T, iF_F, br_not, le_nlt, not_true_eq_false, not_false_eq_true, and_self, and_true, true_and, and_false, false_and, or_true, true_or, or_false, false_or, ne_eq, reduceCtorEq, Nat.reduceLeDiff, Nat.reduceEqDiff, Nat.reduceLT, Nat.reduceAdd, Nat.reduceSub, Nat.reduceMul, Int32.reduceLT, Int32.reduceLE, Int32.reduceToNatClampNeg, Int32.reduceAdd, Int32.reduceSub, implies_true, forall_const, isIn_e, bit_e, lits, hB1]
  refine rdRule_e bc _ ?_
  intro h2 e2 f2 _ _
  exact hQ h2 (eS1.tr (eqX.s rr_sF cr_sK e2)) f2
theorem K_rule (hJ : JA x y b0 s0 np na nm nr ne g m h) (lv dy s : Int32) (Q : Hp → Prop) (hQ : ∀ h2, JJ x y b0 s0 m h2 → Q h2) : w_X10_rule (some x) lv dy s h (fun r h1 => w_X11_rule (some y) lv dy s h1 (fun r2 h2 => r = r2 ∧ Q h2)) := by
  have hA := hJ.1; unfold JM at hA; have hB := hJ.2.1; unfold JS at hB; have hC := hJ.2.2.1.1; have hR := hJ.rj; have hf := rf_l hJ; have hno := no_l hR; have hno1 := fun k v => no_l (hJ.rj1 k v); have hp := isPlace_e hR; have ha := isAsk_e hR; have hp1 := fun k v => isPlace_e (hJ.rj1 k v); have ha1 := fun k v => isAsk_e (hJ.rj1 k v)
  have hbd := hJ.2.2.1.2
  have hz := hJ.z
  have hW := hJ.2.2.2.2.2.1
  unfold w_X10_rule n_X10_rule_0 n_X10_rule_21 w_X11_rule n_X11_rule_0 n_X11_rule_17 n_X11_rule_53
  by_cases c0 : vp_in s 8
  rotate_left
  · by_cases b1 : lv < 1 <;> by_cases b2 : 3 < lv <;>
    · simp only [gI_e, gR_e, pI_e, pZ_e, pR_e, ldI_e, ldZ_e, ldL_e, ldR_e, stI_e, stZ_e, stL_e, stR_e, alN_e, nwA_e, nwO_e, dvI_e, rmI_e, oV_e, oN_e, lt_e, rZ_e, br_T, br_F, fR_sI, aI_sI, aL_sI, aR_sI, kd_sI, ln_sI, hn_sI, hm_sI, fI_sI_n, fI_sR, aI_sR, aL_sR, aR_sR, kd_sR, ln_sR, hn_sR, hm_sR, fR_sR_n, fI_tI, fR_tI, aL_tI, aR_tI, kd_tI, ln_tI, hn_tI, hm_tI, aI_tI_n, fI_tL, fR_tL, aI_tL, aR_tL, kd_tL, ln_tL, hn_tL, hm_tL, aL_tL_n, fI_tR, fR_tR, aI_tR, aL_tR, kd_tR, ln_tR, hn_tR, hm_tR, aR_tR_n, hn_nw, hm_nw, rc400, rc403, rc404, rc405, rc407, rc409, rc420, rc440, bI_0, bI_1, bI_T, bI_F, iF_T, iF_F, br_not, le_nlt, not_true_eq_false, not_false_eq_true, and_self, and_true, true_and, and_false, false_and, or_true, true_or, or_false, false_or, ne_eq, reduceCtorEq, Nat.reduceLeDiff, Nat.reduceEqDiff, Nat.reduceLT, Nat.reduceAdd, Nat.reduceSub, Nat.reduceMul, Int32.reduceLT, Int32.reduceLE, Int32.reduceToNatClampNeg, Int32.reduceAdd, Int32.reduceSub, implies_true, forall_const, isIn_e, bit_e, lits, hA, hB, hC, hf, hno, hno1, hp, ha, hp1, ha1, placeAt_e hJ, askAt_e hJ, modelAt_e hJ, shelfAt_e hJ, isShelf_e, isGroup_e, isAsked_e, rZ_bI, dec_none, dec_s, dec_1, lt_e, c0, b1, b2]
      exact hQ _ (hJ.ref 1 (by decide)).jj
  by_cases b1 : lv < 1
  · simp only [gI_e, gR_e, pI_e, pZ_e, pR_e, ldI_e, ldZ_e, ldL_e, ldR_e, stI_e, stZ_e, stL_e, stR_e, alN_e, nwA_e, nwO_e, dvI_e, rmI_e, oV_e, oN_e, lt_e, rZ_e, br_T, br_F, fR_sI, aI_sI, aL_sI, aR_sI, kd_sI, ln_sI, hn_sI, hm_sI, fI_sI_n, fI_sR, aI_sR, aL_sR, aR_sR, kd_sR, ln_sR, hn_sR, hm_sR, fR_sR_n, fI_tI, fR_tI, aL_tI, aR_tI, kd_tI, ln_tI, hn_tI, hm_tI, aI_tI_n, fI_tL, fR_tL, aI_tL, aR_tL, kd_tL, ln_tL, hn_tL, hm_tL, aL_tL_n, fI_tR, fR_tR, aI_tR, aL_tR, kd_tR, ln_tR, hn_tR, hm_tR, aR_tR_n, hn_nw, hm_nw, rc400, rc403, rc404, rc405, rc407, rc409, rc420, rc440, bI_0, bI_1, bI_T, bI_F, iF_T, iF_F, br_not, le_nlt, not_true_eq_false, not_false_eq_true, and_self, and_true, true_and, and_false, false_and, or_true, true_or, or_false, false_or, ne_eq, reduceCtorEq, Nat.reduceLeDiff, Nat.reduceEqDiff, Nat.reduceLT, Nat.reduceAdd, Nat.reduceSub, Nat.reduceMul, Int32.reduceLT, Int32.reduceLE, Int32.reduceToNatClampNeg, Int32.reduceAdd, Int32.reduceSub, implies_true, forall_const, isIn_e, bit_e, lits, hA, hB, hC, hf, hno, hno1, hp, ha, hp1, ha1, placeAt_e hJ, askAt_e hJ, modelAt_e hJ, shelfAt_e hJ, isShelf_e, isGroup_e, isAsked_e, rZ_bI, dec_none, dec_s, dec_1, lt_e, c0, b1]
    exact hQ _ (hJ.ref 1 (by decide)).jj
  by_cases b2 : 3 < lv
  · simp only [gI_e, gR_e, pI_e, pZ_e, pR_e, ldI_e, ldZ_e, ldL_e, ldR_e, stI_e, stZ_e, stL_e, stR_e, alN_e, nwA_e, nwO_e, dvI_e, rmI_e, oV_e, oN_e, lt_e, rZ_e, br_T, br_F, fR_sI, aI_sI, aL_sI, aR_sI, kd_sI, ln_sI, hn_sI, hm_sI, fI_sI_n, fI_sR, aI_sR, aL_sR, aR_sR, kd_sR, ln_sR, hn_sR, hm_sR, fR_sR_n, fI_tI, fR_tI, aL_tI, aR_tI, kd_tI, ln_tI, hn_tI, hm_tI, aI_tI_n, fI_tL, fR_tL, aI_tL, aR_tL, kd_tL, ln_tL, hn_tL, hm_tL, aL_tL_n, fI_tR, fR_tR, aI_tR, aL_tR, kd_tR, ln_tR, hn_tR, hm_tR, aR_tR_n, hn_nw, hm_nw, rc400, rc403, rc404, rc405, rc407, rc409, rc420, rc440, bI_0, bI_1, bI_T, bI_F, iF_T, iF_F, br_not, le_nlt, not_true_eq_false, not_false_eq_true, and_self, and_true, true_and, and_false, false_and, or_true, true_or, or_false, false_or, ne_eq, reduceCtorEq, Nat.reduceLeDiff, Nat.reduceEqDiff, Nat.reduceLT, Nat.reduceAdd, Nat.reduceSub, Nat.reduceMul, Int32.reduceLT, Int32.reduceLE, Int32.reduceToNatClampNeg, Int32.reduceAdd, Int32.reduceSub, implies_true, forall_const, isIn_e, bit_e, lits, hA, hB, hC, hf, hno, hno1, hp, ha, hp1, ha1, placeAt_e hJ, askAt_e hJ, modelAt_e hJ, shelfAt_e hJ, isShelf_e, isGroup_e, isAsked_e, rZ_bI, dec_none, dec_s, dec_1, lt_e, c0, b1, b2]
    exact hQ _ (hJ.ref 1 (by decide)).jj
  obtain ⟨t, htt, rfl⟩ := vp_ex c0
  have et : (nI t).toNatClampNeg = t := nI_clamp (by omega)
  have q := shF hJ htt
  rcases hW.w_hel t htt with d | d | d
  · simp only [gI_e, gR_e, pI_e, pZ_e, pR_e, ldI_e, ldZ_e, ldL_e, ldR_e, stI_e, stZ_e, stL_e, stR_e, alN_e, nwA_e, nwO_e, dvI_e, rmI_e, oV_e, oN_e, lt_e, rZ_e, br_T, br_F, fR_sI, aI_sI, aL_sI, aR_sI, kd_sI, ln_sI, hn_sI, hm_sI, fI_sI_n, fI_sR, aI_sR, aL_sR, aR_sR, kd_sR, ln_sR, hn_sR, hm_sR, fR_sR_n, fI_tI, fR_tI, aL_tI, aR_tI, kd_tI, ln_tI, hn_tI, hm_tI, aI_tI_n, fI_tL, fR_tL, aI_tL, aR_tL, kd_tL, ln_tL, hn_tL, hm_tL, aL_tL_n, fI_tR, fR_tR, aI_tR, aL_tR, kd_tR, ln_tR, hn_tR, hm_tR, aR_tR_n, hn_nw, hm_nw, rc400, rc403, rc404, rc405, rc407, rc409, rc420, rc440, bI_0, bI_1, bI_T, bI_F, iF_T, iF_F, br_not, le_nlt, not_true_eq_false, not_false_eq_true, and_self, and_true, true_and, and_false, false_and, or_true, true_or, or_false, false_or, ne_eq, reduceCtorEq, Nat.reduceLeDiff, Nat.reduceEqDiff, Nat.reduceLT, Nat.reduceAdd, Nat.reduceSub, Nat.reduceMul, Int32.reduceLT, Int32.reduceLE, Int32.reduceToNatClampNeg, Int32.reduceAdd, Int32.reduceSub, implies_true, forall_const, isIn_e, bit_e, lits, hA, hB, hC, hf, hno, hno1, hp, ha, hp1, ha1, placeAt_e hJ, askAt_e hJ, modelAt_e hJ, shelfAt_e hJ, isShelf_e, isGroup_e, isAsked_e, rZ_bI, dec_none, dec_s, dec_1, lt_e, c0, b1, b2, et, d, rowTrouble_e hJ htt, wants_e (hJ.rj1 _ _) htt]
    exact hQ _ (hJ.ref 3 (by decide)).jj
  rotate_left
  · simp only [gI_e, gR_e, pI_e, pZ_e, pR_e, ldI_e, ldZ_e, ldL_e, ldR_e, stI_e, stZ_e, stL_e, stR_e, alN_e, nwA_e, nwO_e, dvI_e, rmI_e, oV_e, oN_e, lt_e, rZ_e, br_T, br_F, fR_sI, aI_sI, aL_sI, aR_sI, kd_sI, ln_sI, hn_sI, hm_sI, fI_sI_n, fI_sR, aI_sR, aL_sR, aR_sR, kd_sR, ln_sR, hn_sR, hm_sR, fR_sR_n, fI_tI, fR_tI, aL_tI, aR_tI, kd_tI, ln_tI, hn_tI, hm_tI, aI_tI_n, fI_tL, fR_tL, aI_tL, aR_tL, kd_tL, ln_tL, hn_tL, hm_tL, aL_tL_n, fI_tR, fR_tR, aI_tR, aL_tR, kd_tR, ln_tR, hn_tR, hm_tR, aR_tR_n, hn_nw, hm_nw, rc400, rc403, rc404, rc405, rc407, rc409, rc420, rc440, bI_0, bI_1, bI_T, bI_F, iF_T, iF_F, br_not, le_nlt, not_true_eq_false, not_false_eq_true, and_self, and_true, true_and, and_false, false_and, or_true, true_or, or_false, false_or, ne_eq, reduceCtorEq, Nat.reduceLeDiff, Nat.reduceEqDiff, Nat.reduceLT, Nat.reduceAdd, Nat.reduceSub, Nat.reduceMul, Int32.reduceLT, Int32.reduceLE, Int32.reduceToNatClampNeg, Int32.reduceAdd, Int32.reduceSub, implies_true, forall_const, isIn_e, bit_e, lits, hA, hB, hC, hf, hno, hno1, hp, ha, hp1, ha1, placeAt_e hJ, askAt_e hJ, modelAt_e hJ, shelfAt_e hJ, isShelf_e, isGroup_e, isAsked_e, rZ_bI, dec_none, dec_s, dec_1, lt_e, c0, b1, b2, et, d, rowTrouble_e hJ htt, wants_e (hJ.rj1 _ _) htt]
    exact hQ _ (hJ.ref 2 (by decide)).jj
  obtain ⟨z, hz60, ez⟩ := rngN (N := 60) (hW.w_siz t htt)
  by_cases b3 : dy < 0
  · simp only [gI_e, gR_e, pI_e, pZ_e, pR_e, ldI_e, ldZ_e, ldL_e, ldR_e, stI_e, stZ_e, stL_e, stR_e, alN_e, nwA_e, nwO_e, dvI_e, rmI_e, oV_e, oN_e, lt_e, rZ_e, br_T, br_F, fR_sI, aI_sI, aL_sI, aR_sI, kd_sI, ln_sI, hn_sI, hm_sI, fI_sI_n, fI_sR, aI_sR, aL_sR, aR_sR, kd_sR, ln_sR, hn_sR, hm_sR, fR_sR_n, fI_tI, fR_tI, aL_tI, aR_tI, kd_tI, ln_tI, hn_tI, hm_tI, aI_tI_n, fI_tL, fR_tL, aI_tL, aR_tL, kd_tL, ln_tL, hn_tL, hm_tL, aL_tL_n, fI_tR, fR_tR, aI_tR, aL_tR, kd_tR, ln_tR, hn_tR, hm_tR, aR_tR_n, hn_nw, hm_nw, rc400, rc403, rc404, rc405, rc407, rc409, rc420, rc440, bI_0, bI_1, bI_T, bI_F, iF_T, iF_F, br_not, le_nlt, not_true_eq_false, not_false_eq_true, and_self, and_true, true_and, and_false, false_and, or_true, true_or, or_false, false_or, ne_eq, reduceCtorEq, Nat.reduceLeDiff, Nat.reduceEqDiff, Nat.reduceLT, Nat.reduceAdd, Nat.reduceSub, Nat.reduceMul, Int32.reduceLT, Int32.reduceLE, Int32.reduceToNatClampNeg, Int32.reduceAdd, Int32.reduceSub, implies_true, forall_const, isIn_e, bit_e, lits, hA, hB, hC, hf, hno, hno1, hp, ha, hp1, ha1, placeAt_e hJ, askAt_e hJ, modelAt_e hJ, shelfAt_e hJ, isShelf_e, isGroup_e, isAsked_e, rZ_bI, dec_none, dec_s, dec_1, lt_e, c0, b1, b2, et, d, rowTrouble_e hJ htt, wants_e (hJ.rj1 _ _) htt, b3]
    exact hQ _ (hJ.ref 6 (by decide)).jj
  by_cases b4 : 4000 < dy
  · simp only [gI_e, gR_e, pI_e, pZ_e, pR_e, ldI_e, ldZ_e, ldL_e, ldR_e, stI_e, stZ_e, stL_e, stR_e, alN_e, nwA_e, nwO_e, dvI_e, rmI_e, oV_e, oN_e, lt_e, rZ_e, br_T, br_F, fR_sI, aI_sI, aL_sI, aR_sI, kd_sI, ln_sI, hn_sI, hm_sI, fI_sI_n, fI_sR, aI_sR, aL_sR, aR_sR, kd_sR, ln_sR, hn_sR, hm_sR, fR_sR_n, fI_tI, fR_tI, aL_tI, aR_tI, kd_tI, ln_tI, hn_tI, hm_tI, aI_tI_n, fI_tL, fR_tL, aI_tL, aR_tL, kd_tL, ln_tL, hn_tL, hm_tL, aL_tL_n, fI_tR, fR_tR, aI_tR, aL_tR, kd_tR, ln_tR, hn_tR, hm_tR, aR_tR_n, hn_nw, hm_nw, rc400, rc403, rc404, rc405, rc407, rc409, rc420, rc440, bI_0, bI_1, bI_T, bI_F, iF_T, iF_F, br_not, le_nlt, not_true_eq_false, not_false_eq_true, and_self, and_true, true_and, and_false, false_and, or_true, true_or, or_false, false_or, ne_eq, reduceCtorEq, Nat.reduceLeDiff, Nat.reduceEqDiff, Nat.reduceLT, Nat.reduceAdd, Nat.reduceSub, Nat.reduceMul, Int32.reduceLT, Int32.reduceLE, Int32.reduceToNatClampNeg, Int32.reduceAdd, Int32.reduceSub, implies_true, forall_const, isIn_e, bit_e, lits, hA, hB, hC, hf, hno, hno1, hp, ha, hp1, ha1, placeAt_e hJ, askAt_e hJ, modelAt_e hJ, shelfAt_e hJ, isShelf_e, isGroup_e, isAsked_e, rZ_bI, dec_none, dec_s, dec_1, lt_e, c0, b1, b2, et, d, rowTrouble_e hJ htt, wants_e (hJ.rj1 _ _) htt, b3, b4]
    exact hQ _ (hJ.ref 6 (by decide)).jj
  simp only [gI_e, gR_e, pI_e, pZ_e, pR_e, ldI_e, ldZ_e, ldL_e, ldR_e, stI_e, stZ_e, stL_e, stR_e, alN_e, nwA_e, nwO_e, dvI_e, rmI_e, oV_e, oN_e, lt_e, rZ_e, br_T, br_F, fR_sI, aI_sI, aL_sI, aR_sI, kd_sI, ln_sI, hn_sI, hm_sI, fI_sI_n, fI_sR, aI_sR, aL_sR, aR_sR, kd_sR, ln_sR, hn_sR, hm_sR, fR_sR_n, fI_tI, fR_tI, aL_tI, aR_tI, kd_tI, ln_tI, hn_tI, hm_tI, aI_tI_n, fI_tL, fR_tL, aI_tL, aR_tL, kd_tL, ln_tL, hn_tL, hm_tL, aL_tL_n, fI_tR, fR_tR, aI_tR, aL_tR, kd_tR, ln_tR, hn_tR, hm_tR, aR_tR_n, hn_nw, hm_nw, rc400, rc403, rc404, rc405, rc407, rc409, rc420, rc440, bI_0, bI_1, bI_T, bI_F, iF_T, iF_F, br_not, le_nlt, not_true_eq_false, not_false_eq_true, and_self, and_true, true_and, and_false, false_and, or_true, true_or, or_false, false_or, ne_eq, reduceCtorEq, Nat.reduceLeDiff, Nat.reduceEqDiff, Nat.reduceLT, Nat.reduceAdd, Nat.reduceSub, Nat.reduceMul, Int32.reduceLT, Int32.reduceLE, Int32.reduceToNatClampNeg, Int32.reduceAdd, Int32.reduceSub, implies_true, forall_const, isIn_e, bit_e, lits, hA, hB, hC, hf, hno, hno1, hp, ha, hp1, ha1, placeAt_e hJ, askAt_e hJ, modelAt_e hJ, shelfAt_e hJ, isShelf_e, isGroup_e, isAsked_e, rZ_bI, dec_none, dec_s, dec_1, lt_e, c0, b1, b2, et, q, d, ez, rowTrouble_e hJ htt, b3, b4, if_true]
  refine readC_e hJ htt hz60 d _ ?_
  intro h2 e2 f2
  have E2 := eqS_l e2
  have hJ2 := hJ.same e2
  have d2 : aI h2 128 (m 128) t = 1 := by simp only [E2]; exact d
  have ez2 : aI h2 130 (m 130) t = nI z := by simp only [E2]; exact ez
  have lL : (fun j => (aL h 310 (m 310) (60 * t + j)).toInt32) = fun j => (aL h2 310 (m 310) (60 * t + j)).toInt32 := by simp only [E2]
  generalize (fun j => (aL h 310 (m 310) (60 * t + j)).toInt32) = L at *
  generalize hft : (grE (grN L z) z).2 = ft at *
  clear hz hW q hA hB hC hR hf hno hno1 hp ha hp1 ha1 hbd d ez E2 e2
  clear hJ
  have hJ := hJ2
  clear hJ2
  have d := d2
  have ez := ez2
  clear d2 ez2
  have hA := hJ.1; unfold JM at hA; have hB := hJ.2.1; unfold JS at hB; have hC := hJ.2.2.1.1; have hR := hJ.rj; have hf := rf_l hJ; have hno := no_l hR; have hno1 := fun k v => no_l (hJ.rj1 k v); have hp := isPlace_e hR; have ha := isAsk_e hR; have hp1 := fun k v => isPlace_e (hJ.rj1 k v); have ha1 := fun k v => isAsk_e (hJ.rj1 k v)
  have hbd := hJ.2.2.1.2
  have hz := hJ.z
  have hW := hJ.2.2.2.2.2.1
  have q := shF hJ htt
  simp only [gI_e, gR_e, pI_e, pZ_e, pR_e, ldI_e, ldZ_e, ldL_e, ldR_e, stI_e, stZ_e, stL_e, stR_e, alN_e, nwA_e, nwO_e, dvI_e, rmI_e, oV_e, oN_e, lt_e, rZ_e, br_T, br_F, fR_sI, aI_sI, aL_sI, aR_sI, kd_sI, ln_sI, hn_sI, hm_sI, fI_sI_n, fI_sR, aI_sR, aL_sR, aR_sR, kd_sR, ln_sR, hn_sR, hm_sR, fR_sR_n, fI_tI, fR_tI, aL_tI, aR_tI, kd_tI, ln_tI, hn_tI, hm_tI, aI_tI_n, fI_tL, fR_tL, aI_tL, aR_tL, kd_tL, ln_tL, hn_tL, hm_tL, aL_tL_n, fI_tR, fR_tR, aI_tR, aL_tR, kd_tR, ln_tR, hn_tR, hm_tR, aR_tR_n, hn_nw, hm_nw, rc400, rc403, rc404, rc405, rc407, rc409, rc420, rc440, bI_0, bI_1, bI_T, bI_F, iF_T, iF_F, br_not, le_nlt, not_true_eq_false, not_false_eq_true, and_self, and_true, true_and, and_false, false_and, or_true, true_or, or_false, false_or, ne_eq, reduceCtorEq, Nat.reduceLeDiff, Nat.reduceEqDiff, Nat.reduceLT, Nat.reduceAdd, Nat.reduceSub, Nat.reduceMul, Int32.reduceLT, Int32.reduceLE, Int32.reduceToNatClampNeg, Int32.reduceAdd, Int32.reduceSub, implies_true, forall_const, isIn_e, bit_e, lits, hA, hB, hC, hf, hno, hno1, hp, ha, hp1, ha1, placeAt_e hJ, askAt_e hJ, modelAt_e hJ, shelfAt_e hJ, isShelf_e, isGroup_e, isAsked_e, rZ_bI, dec_none, dec_s, dec_1, lt_e, f2, fI_s]
  -- what both do who refuse
  have jH : ∀ k, 1 ≤ k ∧ k ≤ 7 → ∀ h3, CR m nr (tI (sI h2 1298 x ft) 110 (g 0 6) (k - 1) (aI h2 110 (g 0 6) (k - 1) + 1)) h3 → JA x y b0 s0 np na nm nr ne g m (tI (sI h3 1414 y ft) 161 (m 161) k (aI h2 161 (m 161) k + 1)) := by
    intro k hk h3 k3
    have jf := (hJ.ref k hk).flt ft
    exact JA.cr (h := tI (sI (tI (sI h2 1298 x ft) 110 (g 0 6) (k - 1) (aI h2 110 (g 0 6) (k - 1) + 1)) 1414 y ft) 161 (m 161) k (aI h2 161 (m 161) k + 1)) jf ((k3.sIb 1414 y ft).t161 _ _ _)
  have rj : ∀ k v, RJ y np na nm nr ne m (tI (sI h2 1298 x ft) 110 (g 0 6) k v) := fun k v => hR.of (((eqM.rf h2).sI (by decide) _ _).tI (Or.inl (by decide)) _ _ _)
  have a61 : ∀ k v h3 j, CR m nr (tI (sI h2 1298 x ft) 110 (g 0 6) k v) h3 → aI (sI h3 1414 y ft) 161 (m 161) j = aI h2 161 (m 161) j := by
    intro k v h3 j k3
    show aI h3 161 (m 161) j = _
    rw [k3.1.2.2.2.2.2.2.1 161 rfl]
    rfl
  have noM : ∀ H h3 : Hp, JM y m H → CR m nr H h3 → (∀ Q, w_X11_no (some y) (-6) (sI h3 1414 y ft) Q = Q (-6) (tI (sI h3 1414 y ft) 161 (m 161) 6 (aI (sI h3 1414 y ft) 161 (m 161) 6 + 1))) ∧ (∀ Q, w_X11_no (some y) (-7) (sI h3 1414 y ft) Q = Q (-7) (tI (sI h3 1414 y ft) 161 (m 161) 7 (aI (sI h3 1414 y ft) 161 (m 161) 7 + 1))) := by
    intro H h3 hM k3
    obtain ⟨⟨e1, e2, e3, e4, e5, e6, e7, e8, e9⟩, -⟩ := k3
    have hM3 : JM y m (sI h3 1414 y ft) := by
      unfold JM at hM ⊢
      show kd h3 y = 12 ∧ _
      rw [kd_sI, ln_sI, fR_sI, e3, e4, e5]
      exact hM
    exact ⟨fun Q => noJ_e hM3 6 (by decide) Q, fun Q => noJ_e hM3 7 (by decide) Q⟩
  by_cases fz : ft = -1
  rotate_left
  · have rfS : ∀ Q, w_X10_refuse (some x) (-6) (sI h2 1298 x ft) Q = Q (-6) (tI (sI h2 1298 x ft) 110 (g 0 6) 5 (aI h2 110 (g 0 6) 5 + 1)) := fun Q => refuseS_e (h := sI h2 1298 x ft) hJ.2.1 6 (by decide) Q
    have hR1 := rj 5 (aI h2 110 (g 0 6) 5 + 1)
    have jH6 := jH 6 (by decide)
    have a61' := a61 5 (aI h2 110 (g 0 6) 5 + 1)
    simp only [gI_e, gR_e, pI_e, pZ_e, pR_e, ldI_e, ldZ_e, ldL_e, ldR_e, stI_e, stZ_e, stL_e, stR_e, alN_e, nwA_e, nwO_e, dvI_e, rmI_e, oV_e, oN_e, lt_e, rZ_e, br_T, br_F, fR_sI, aI_sI, aL_sI, aR_sI, kd_sI, ln_sI, hn_sI, hm_sI, fI_sI_n, fI_sR, aI_sR, aL_sR, aR_sR, kd_sR, ln_sR, hn_sR, hm_sR, fR_sR_n, fI_tI, fR_tI, aL_tI, aR_tI, kd_tI, ln_tI, hn_tI, hm_tI, aI_tI_n, fI_tL, fR_tL, aI_tL, aR_tL, kd_tL, ln_tL, hn_tL, hm_tL, aL_tL_n, fI_tR, fR_tR, aI_tR, aL_tR, kd_tR, ln_tR, hn_tR, hm_tR, aR_tR_n, hn_nw, hm_nw, rc400, rc403, rc404, rc405, rc407, rc409, rc420, rc440, bI_0, bI_1, bI_T, bI_F, iF_T, iF_F, br_not, le_nlt, not_true_eq_false, not_false_eq_true, and_self, and_true, true_and, and_false, false_and, or_true, true_or, or_false, false_or, ne_eq, reduceCtorEq, Nat.reduceLeDiff, Nat.reduceEqDiff, Nat.reduceLT, Nat.reduceAdd, Nat.reduceSub, Nat.reduceMul, Int32.reduceLT, Int32.reduceLE, Int32.reduceToNatClampNeg, Int32.reduceAdd, Int32.reduceSub, implies_true, forall_const, isIn_e, bit_e, lits, hA, hB, hC, hf, hno, hno1, hp, ha, hp1, ha1, placeAt_e hJ, askAt_e hJ, modelAt_e hJ, shelfAt_e hJ, isShelf_e, isGroup_e, isAsked_e, rZ_bI, dec_none, dec_s, dec_1, lt_e, fI_s, fz, rfS]
    have dH : aI (tI (sI h2 1298 x ft) 110 (g 0 6) 5 (aI h2 110 (g 0 6) 5 + 1)) 128 (m 128) t = 1 := by
      rw [aI_tI_n _ _ _ _ _ _ (by decide)]; exact d
    have zH : aI (tI (sI h2 1298 x ft) 110 (g 0 6) 5 (aI h2 110 (g 0 6) 5 + 1)) 130 (m 130) t = nI z := by
      rw [aI_tI_n _ _ _ _ _ _ (by decide)]; exact ez
    have lH : L = fun j => (aL (tI (sI h2 1298 x ft) 110 (g 0 6) 5 (aI h2 110 (g 0 6) 5 + 1)) 310 (m 310) (60 * t + j)).toInt32 := lL
    generalize tI (sI h2 1298 x ft) 110 (g 0 6) 5 (aI h2 110 (g 0 6) 5 + 1) = H1 at *
    have hAH := hR1.1
    unfold JM at hAH
    have hCH := hR1.2.1
    simp only [gI_e, gR_e, pI_e, pZ_e, pR_e, ldI_e, ldZ_e, ldL_e, ldR_e, stI_e, stZ_e, stL_e, stR_e, alN_e, nwA_e, nwO_e, dvI_e, rmI_e, oV_e, oN_e, lt_e, rZ_e, br_T, br_F, fR_sI, aI_sI, aL_sI, aR_sI, kd_sI, ln_sI, hn_sI, hm_sI, fI_sI_n, fI_sR, aI_sR, aL_sR, aR_sR, kd_sR, ln_sR, hn_sR, hm_sR, fR_sR_n, fI_tI, fR_tI, aL_tI, aR_tI, kd_tI, ln_tI, hn_tI, hm_tI, aI_tI_n, fI_tL, fR_tL, aI_tL, aR_tL, kd_tL, ln_tL, hn_tL, hm_tL, aL_tL_n, fI_tR, fR_tR, aI_tR, aL_tR, kd_tR, ln_tR, hn_tR, hm_tR, aR_tR_n, hn_nw, hm_nw, rc400, rc403, rc404, rc405, rc407, rc409, rc420, rc440, bI_0, bI_1, bI_T, bI_F, iF_T, iF_F, br_not, le_nlt, not_true_eq_false, not_false_eq_true, and_self, and_true, true_and, and_false, false_and, or_true, true_or, or_false, false_or, ne_eq, reduceCtorEq, Nat.reduceLeDiff, Nat.reduceEqDiff, Nat.reduceLT, Nat.reduceAdd, Nat.reduceSub, Nat.reduceMul, Int32.reduceLT, Int32.reduceLE, Int32.reduceToNatClampNeg, Int32.reduceAdd, Int32.reduceSub, implies_true, forall_const, isIn_e, bit_e, lits, hA, hB, hC, hf, hno, hno1, hp, ha, hp1, ha1, placeAt_e hJ, askAt_e hJ, modelAt_e hJ, shelfAt_e hJ, isShelf_e, isGroup_e, isAsked_e, rZ_bI, dec_none, dec_s, dec_1, lt_e, c0, b1, b2, b3, b4, wants_e hR1 htt, dH, hAH, hCH]
    refine compiles_e hR1 htt (show nr < 13 by omega) hz60 zH lH _ (fun nf h3 k3 => ?_) (fun ok => absurd (hft.symm.trans ok) fz)
    rw [hft]
    have k31 : kd h3 = kd H1 := k3.1.2.2.1
    obtain ⟨n6, n7⟩ := noM H1 h3 hR1.1 k3
    simp only [gI_e, gR_e, pI_e, pZ_e, pR_e, ldI_e, ldZ_e, ldL_e, ldR_e, stI_e, stZ_e, stL_e, stR_e, alN_e, nwA_e, nwO_e, dvI_e, rmI_e, oV_e, oN_e, lt_e, rZ_e, br_T, br_F, fR_sI, aI_sI, aL_sI, aR_sI, kd_sI, ln_sI, hn_sI, hm_sI, fI_sI_n, fI_sR, aI_sR, aL_sR, aR_sR, kd_sR, ln_sR, hn_sR, hm_sR, fR_sR_n, fI_tI, fR_tI, aL_tI, aR_tI, kd_tI, ln_tI, hn_tI, hm_tI, aI_tI_n, fI_tL, fR_tL, aI_tL, aR_tL, kd_tL, ln_tL, hn_tL, hm_tL, aL_tL_n, fI_tR, fR_tR, aI_tR, aL_tR, kd_tR, ln_tR, hn_tR, hm_tR, aR_tR_n, hn_nw, hm_nw, rc400, rc403, rc404, rc405, rc407, rc409, rc420, rc440, bI_0, bI_1, bI_T, bI_F, iF_T, iF_F, br_not, le_nlt, not_true_eq_false, not_false_eq_true, and_self, and_true, true_and, and_false, false_and, or_true, true_or, or_false, false_or, ne_eq, reduceCtorEq, Nat.reduceLeDiff, Nat.reduceEqDiff, Nat.reduceLT, Nat.reduceAdd, Nat.reduceSub, Nat.reduceMul, Int32.reduceLT, Int32.reduceLE, Int32.reduceToNatClampNeg, Int32.reduceAdd, Int32.reduceSub, implies_true, forall_const, isIn_e, bit_e, lits, hA, hB, hC, hf, hno, hno1, hp, ha, hp1, ha1, placeAt_e hJ, askAt_e hJ, modelAt_e hJ, shelfAt_e hJ, isShelf_e, isGroup_e, isAsked_e, rZ_bI, dec_none, dec_s, dec_1, lt_e, fI_s, k31, hAH, fz, n6, a61' h3 _ k3]
    exact hQ _ (jH6 h3 k3).jj
  subst fz
  have t1 : (nI nr < 12) = ¬ nr = 12 := nI_lt20 (N := 12) hbd.2.2.2.2.1 (by decide)
  have t2 : (nI nr = 12) = (nr = 12) := nI_eqN (N := 12) hbd.2.2.2.2.1 (by decide)
  by_cases n12 : nr = 12
  · have t3 : nI nr = 12 := by rw [t2]; exact n12
    have t4 : ¬ nI nr < 12 := by rw [t1]; exact fun z => z n12
    have rfS : ∀ Q, w_X10_refuse (some x) (-7) (sI h2 1298 x (-1)) Q = Q (-7) (tI (sI h2 1298 x (-1)) 110 (g 0 6) 6 (aI h2 110 (g 0 6) 6 + 1)) := fun Q => refuseS_e (h := sI h2 1298 x (-1)) hJ.2.1 7 (by decide) Q
    have hR1 := rj 6 (aI h2 110 (g 0 6) 6 + 1)
    have jH6 := jH 7 (by decide)
    have a61' := a61 6 (aI h2 110 (g 0 6) 6 + 1)
    simp only [gI_e, gR_e, pI_e, pZ_e, pR_e, ldI_e, ldZ_e, ldL_e, ldR_e, stI_e, stZ_e, stL_e, stR_e, alN_e, nwA_e, nwO_e, dvI_e, rmI_e, oV_e, oN_e, lt_e, rZ_e, br_T, br_F, fR_sI, aI_sI, aL_sI, aR_sI, kd_sI, ln_sI, hn_sI, hm_sI, fI_sI_n, fI_sR, aI_sR, aL_sR, aR_sR, kd_sR, ln_sR, hn_sR, hm_sR, fR_sR_n, fI_tI, fR_tI, aL_tI, aR_tI, kd_tI, ln_tI, hn_tI, hm_tI, aI_tI_n, fI_tL, fR_tL, aI_tL, aR_tL, kd_tL, ln_tL, hn_tL, hm_tL, aL_tL_n, fI_tR, fR_tR, aI_tR, aL_tR, kd_tR, ln_tR, hn_tR, hm_tR, aR_tR_n, hn_nw, hm_nw, rc400, rc403, rc404, rc405, rc407, rc409, rc420, rc440, bI_0, bI_1, bI_T, bI_F, iF_T, iF_F, br_not, le_nlt, not_true_eq_false, not_false_eq_true, and_self, and_true, true_and, and_false, false_and, or_true, true_or, or_false, false_or, ne_eq, reduceCtorEq, Nat.reduceLeDiff, Nat.reduceEqDiff, Nat.reduceLT, Nat.reduceAdd, Nat.reduceSub, Nat.reduceMul, Int32.reduceLT, Int32.reduceLE, Int32.reduceToNatClampNeg, Int32.reduceAdd, Int32.reduceSub, implies_true, forall_const, isIn_e, bit_e, lits, hA, hB, hC, hf, hno, hno1, hp, ha, hp1, ha1, placeAt_e hJ, askAt_e hJ, modelAt_e hJ, shelfAt_e hJ, isShelf_e, isGroup_e, isAsked_e, rZ_bI, dec_none, dec_s, dec_1, lt_e, fI_s, t4, rfS]
    have dH : aI (tI (sI h2 1298 x (-1)) 110 (g 0 6) 6 (aI h2 110 (g 0 6) 6 + 1)) 128 (m 128) t = 1 := by
      rw [aI_tI_n _ _ _ _ _ _ (by decide)]; exact d
    have zH : aI (tI (sI h2 1298 x (-1)) 110 (g 0 6) 6 (aI h2 110 (g 0 6) 6 + 1)) 130 (m 130) t = nI z := by
      rw [aI_tI_n _ _ _ _ _ _ (by decide)]; exact ez
    have lH : L = fun j => (aL (tI (sI h2 1298 x (-1)) 110 (g 0 6) 6 (aI h2 110 (g 0 6) 6 + 1)) 310 (m 310) (60 * t + j)).toInt32 := lL
    generalize tI (sI h2 1298 x (-1)) 110 (g 0 6) 6 (aI h2 110 (g 0 6) 6 + 1) = H1 at *
    have hAH := hR1.1
    unfold JM at hAH
    have hCH := hR1.2.1
    simp only [gI_e, gR_e, pI_e, pZ_e, pR_e, ldI_e, ldZ_e, ldL_e, ldR_e, stI_e, stZ_e, stL_e, stR_e, alN_e, nwA_e, nwO_e, dvI_e, rmI_e, oV_e, oN_e, lt_e, rZ_e, br_T, br_F, fR_sI, aI_sI, aL_sI, aR_sI, kd_sI, ln_sI, hn_sI, hm_sI, fI_sI_n, fI_sR, aI_sR, aL_sR, aR_sR, kd_sR, ln_sR, hn_sR, hm_sR, fR_sR_n, fI_tI, fR_tI, aL_tI, aR_tI, kd_tI, ln_tI, hn_tI, hm_tI, aI_tI_n, fI_tL, fR_tL, aI_tL, aR_tL, kd_tL, ln_tL, hn_tL, hm_tL, aL_tL_n, fI_tR, fR_tR, aI_tR, aL_tR, kd_tR, ln_tR, hn_tR, hm_tR, aR_tR_n, hn_nw, hm_nw, rc400, rc403, rc404, rc405, rc407, rc409, rc420, rc440, bI_0, bI_1, bI_T, bI_F, iF_T, iF_F, br_not, le_nlt, not_true_eq_false, not_false_eq_true, and_self, and_true, true_and, and_false, false_and, or_true, true_or, or_false, false_or, ne_eq, reduceCtorEq, Nat.reduceLeDiff, Nat.reduceEqDiff, Nat.reduceLT, Nat.reduceAdd, Nat.reduceSub, Nat.reduceMul, Int32.reduceLT, Int32.reduceLE, Int32.reduceToNatClampNeg, Int32.reduceAdd, Int32.reduceSub, implies_true, forall_const, isIn_e, bit_e, lits, hA, hB, hC, hf, hno, hno1, hp, ha, hp1, ha1, placeAt_e hJ, askAt_e hJ, modelAt_e hJ, shelfAt_e hJ, isShelf_e, isGroup_e, isAsked_e, rZ_bI, dec_none, dec_s, dec_1, lt_e, c0, b1, b2, b3, b4, wants_e hR1 htt, dH, hAH, hCH]
    refine compiles_e hR1 htt (show nr < 13 by omega) hz60 zH lH _ (fun nf => absurd hft nf) (fun ok h3 k3 _ _ _ _ _ => ?_)
    have k31 : kd h3 = kd H1 := k3.1.2.2.1
    have k12 : fI h3 1412 y = nI nr := by rw [k3.1.2.2.2.2.2.1 1412 rfl]; exact hCH.2.2.2.1
    obtain ⟨n6, n7⟩ := noM H1 h3 hR1.1 k3
    simp (config := {decide := true}) only [gI_e, gR_e, pI_e, pZ_e, pR_e, ldI_e, ldZ_e, ldL_e, ldR_e, stI_e, stZ_e, stL_e, stR_e, alN_e, nwA_e, nwO_e, dvI_e, rmI_e, oV_e, oN_e, lt_e, rZ_e, br_T, br_F, fR_sI, aI_sI, aL_sI, aR_sI, kd_sI, ln_sI, hn_sI, hm_sI, fI_sI_n, fI_sR, aI_sR, aL_sR, aR_sR, kd_sR, ln_sR, hn_sR, hm_sR, fR_sR_n, fI_tI, fR_tI, aL_tI, aR_tI, kd_tI, ln_tI, hn_tI, hm_tI, aI_tI_n, fI_tL, fR_tL, aI_tL, aR_tL, kd_tL, ln_tL, hn_tL, hm_tL, aL_tL_n, fI_tR, fR_tR, aI_tR, aL_tR, kd_tR, ln_tR, hn_tR, hm_tR, aR_tR_n, hn_nw, hm_nw, rc400, rc403, rc404, rc405, rc407, rc409, rc420, rc440, bI_0, bI_1, bI_T, bI_F, iF_T, iF_F, br_not, le_nlt, not_true_eq_false, not_false_eq_true, and_self, and_true, true_and, and_false, false_and, or_true, true_or, or_false, false_or, ne_eq, reduceCtorEq, Nat.reduceLeDiff, Nat.reduceEqDiff, Nat.reduceLT, Nat.reduceAdd, Nat.reduceSub, Nat.reduceMul, Int32.reduceLT, Int32.reduceLE, Int32.reduceToNatClampNeg, Int32.reduceAdd, Int32.reduceSub, implies_true, forall_const, isIn_e, bit_e, lits, hA, hB, hC, hf, hno, hno1, hp, ha, hp1, ha1, placeAt_e hJ, askAt_e hJ, modelAt_e hJ, shelfAt_e hJ, isShelf_e, isGroup_e, isAsked_e, rZ_bI, dec_none, dec_s, dec_1, lt_e, fI_s, k31, hAH, k12, t3, n7, a61' h3 _ k3]
    exact hQ _ (jH6 h3 k3).jj
  have lt12 : nr < 12 := by have := hbd.2.2.2.2.1; omega
  unfold w_X9_rowCopy n_X9_rowCopy_0 w_X7_init n_X7_init_0
  simp (config := {decide := true}) only [gI_e, gR_e, pI_e, pZ_e, pR_e, ldI_e, ldZ_e, ldL_e, ldR_e, stI_e, stZ_e, stL_e, stR_e, alN_e, nwA_e, nwO_e, dvI_e, rmI_e, oV_e, oN_e, lt_e, rZ_e, br_T, br_F, fR_sI, aI_sI, aL_sI, aR_sI, kd_sI, ln_sI, hn_sI, hm_sI, fI_sI_n, fI_sR, aI_sR, aL_sR, aR_sR, kd_sR, ln_sR, hn_sR, hm_sR, fR_sR_n, fI_tI, fR_tI, aL_tI, aR_tI, kd_tI, ln_tI, hn_tI, hm_tI, aI_tI_n, fI_tL, fR_tL, aI_tL, aR_tL, kd_tL, ln_tL, hn_tL, hm_tL, aL_tL_n, fI_tR, fR_tR, aI_tR, aL_tR, kd_tR, ln_tR, hn_tR, hm_tR, aR_tR_n, hn_nw, hm_nw, rc400, rc403, rc404, rc405, rc407, rc409, rc420, rc440, bI_0, bI_1, bI_T, bI_F, iF_T, iF_F, br_not, le_nlt, not_true_eq_false, not_false_eq_true, and_self, and_true, true_and, and_false, false_and, or_true, true_or, or_false, false_or, ne_eq, reduceCtorEq, Nat.reduceLeDiff, Nat.reduceEqDiff, Nat.reduceLT, Nat.reduceAdd, Nat.reduceSub, Nat.reduceMul, Int32.reduceLT, Int32.reduceLE, Int32.reduceToNatClampNeg, Int32.reduceAdd, Int32.reduceSub, implies_true, forall_const, isIn_e, bit_e, lits, hA, hB, hC, hf, hno, hno1, hp, ha, hp1, ha1, placeAt_e hJ, askAt_e hJ, modelAt_e hJ, shelfAt_e hJ, isShelf_e, isGroup_e, isAsked_e, rZ_bI, dec_none, dec_s, dec_1, lt_e, kd_nw, ln_nw, fI_nw, fR_nw, if_true, if_false, nn_f hz, fI_s, q, d, ez, t1, n12]
  refine ⟨g 8 t, rfl, ?_, nI_pos (by omega), ?_, ?_, ?_⟩
  · simp (config := {decide := true}) only [kd_nw, ln_nw, fI_nw, fR_nw, if_true, if_false, nn_f hz, fR_sI, aI_sI, aL_sI, aR_sI, kd_sI, ln_sI, hn_sI, hm_sI, fI_sI_n, fI_sR, aI_sR, aL_sR, aR_sR, kd_sR, ln_sR, hn_sR, hm_sR, fR_sR_n, fI_tI, fR_tI, aL_tI, aR_tI, kd_tI, ln_tI, hn_tI, hm_tI, aI_tI_n, fI_tL, fR_tL, aI_tL, aR_tL, kd_tL, ln_tL, hn_tL, hm_tL, aL_tL_n, fI_tR, fR_tR, aI_tR, aL_tR, kd_tR, ln_tR, hn_tR, hm_tR, aR_tR_n, hn_nw, hm_nw, q]
  · simp (config := {decide := true}) only [kd_nw, ln_nw, fI_nw, fR_nw, if_true, if_false, nn_f hz, fR_sI, aI_sI, aL_sI, aR_sI, kd_sI, ln_sI, hn_sI, hm_sI, fI_sI_n, fI_sR, aI_sR, aL_sR, aR_sR, kd_sR, ln_sR, hn_sR, hm_sR, fR_sR_n, fI_tI, fR_tI, aL_tI, aR_tI, kd_tI, ln_tI, hn_tI, hm_tI, aI_tI_n, fI_tL, fR_tL, aI_tL, aR_tL, kd_tL, ln_tL, hn_tL, hm_tL, aL_tL_n, fI_tR, fR_tR, aI_tR, aL_tR, kd_tR, ln_tR, hn_tR, hm_tR, aR_tR_n, hn_nw, hm_nw, q]
    rw [nI_clamp (by omega)]
    exact hz60
  · simp (config := {decide := true}) only [kd_nw, ln_nw, fI_nw, fR_nw, if_true, if_false, nn_f hz, fR_sI, aI_sI, aL_sI, aR_sI, kd_sI, ln_sI, hn_sI, hm_sI, fI_sI_n, fI_sR, aI_sR, aL_sR, aR_sR, kd_sR, ln_sR, hn_sR, hm_sR, fR_sR_n, fI_tI, fR_tI, aL_tI, aR_tI, kd_tI, ln_tI, hn_tI, hm_tI, aI_tI_n, fI_tL, fR_tL, aI_tL, aR_tL, kd_tL, ln_tL, hn_tL, hm_tL, aL_tL_n, fI_tR, fR_tR, aI_tR, aL_tR, kd_tR, ln_tR, hn_tR, hm_tR, aR_tR_n, hn_nw, hm_nw, q]
  rw [nI_clamp (n := z) (by omega)]
  have nN : (hn h2 = hn h2 + 1) = False := eq_false (by omega)
  simp (config := {decide := true}) only [gI_e, gR_e, pI_e, pZ_e, pR_e, ldI_e, ldZ_e, ldL_e, ldR_e, stI_e, stZ_e, stL_e, stR_e, alN_e, nwA_e, nwO_e, dvI_e, rmI_e, oV_e, oN_e, lt_e, rZ_e, br_T, br_F, fR_sI, aI_sI, aL_sI, aR_sI, kd_sI, ln_sI, hn_sI, hm_sI, fI_sI_n, fI_sR, aI_sR, aL_sR, aR_sR, kd_sR, ln_sR, hn_sR, hm_sR, fR_sR_n, fI_tI, fR_tI, aL_tI, aR_tI, kd_tI, ln_tI, hn_tI, hm_tI, aI_tI_n, fI_tL, fR_tL, aI_tL, aR_tL, kd_tL, ln_tL, hn_tL, hm_tL, aL_tL_n, fI_tR, fR_tR, aI_tR, aL_tR, kd_tR, ln_tR, hn_tR, hm_tR, aR_tR_n, hn_nw, hm_nw, rc400, rc403, rc404, rc405, rc407, rc409, rc420, rc440, bI_0, bI_1, bI_T, bI_F, iF_T, iF_F, br_not, le_nlt, not_true_eq_false, not_false_eq_true, and_self, and_true, true_and, and_false, false_and, or_true, true_or, or_false, false_or, ne_eq, reduceCtorEq, Nat.reduceLeDiff, Nat.reduceEqDiff, Nat.reduceLT, Nat.reduceAdd, Nat.reduceSub, Nat.reduceMul, Int32.reduceLT, Int32.reduceLE, Int32.reduceToNatClampNeg, Int32.reduceAdd, Int32.reduceSub, implies_true, forall_const, isIn_e, bit_e, lits, hA, hB, hC, hf, hno, hno1, hp, ha, hp1, ha1, placeAt_e hJ, askAt_e hJ, modelAt_e hJ, shelfAt_e hJ, isShelf_e, isGroup_e, isAsked_e, rZ_bI, dec_none, dec_s, dec_1, lt_e, kd_cpN, ln_cpN, fI_cpN, fR_cpN, hn_cpN, kd_nw, ln_nw, fI_nw, fR_nw, if_true, if_false, nn_f hz, nN, hn_nw]
  generalize hEr : sR (sI (sI (sI (sI (cpN (nw (sI h2 1298 x (-1)) 8 5) (g 8 t) z) 900 (hn h2) (-1)) 896 (hn h2) (nI nr)) 897 (hn h2) lv) 898 (hn h2) dy) 899 (hn h2) (some (hn h2 + 1)) = Er
  obtain ⟨Eb, hEb⟩ : ∃ Eb, Eb = sR (sI (sI (sI (sI (cpN (nw h2 8 5) (g 8 t) z) 900 (hn h2) (-1)) 896 (hn h2) (nI nr)) 897 (hn h2) lv) 898 (hn h2) dy) 899 (hn h2) (some (hn h2 + 1)) := ⟨_, rfl⟩
  have eXb : eqX f98 (fun _ => false) Eb Er := by
    rw [hEb, ← hEr]
    exact eqX_sRb (eqX_sIb (eqX_sIb (eqX_sIb (eqX_sIb (eqX_cpNb (eqX_nwb ((eqX.rf h2).sI (F := f98) (f := 1298) rfl x (-1)) 8 5) (g 8 t) z) 900 _ _) 896 _ _) 897 _ _) 898 _ _) 899 _ _
  have nz : kd (nw h2 8 5) (hn (nw h2 8 5)) = 0 := by
    rw [kd_nw_o _ _ _ _ (by rw [hn_nw]; omega), hn_nw]
    exact hJ.2.2.2.2.2.2.2.1 _ (by omega)
  have eO : eqO h2 Eb := by
    rw [hEb]
    exact (((((eqO_cpN ((eqO.rf h2).nw hz 8 5) nz (g 8 t) z).sI hz _ _).sI hz _ _).sI hz _ _).sI hz _ _).sR hz _ _
  have hnE : hn Eb = hn h2 + 2 := by rw [hEb]; rfl
  have hmE : hm Eb = hm h2 + 5 + z := by rw [hEb]; rfl
  have kz : ∀ a, hn Eb ≤ a → kd Eb a = 0 := by
    intro a ha
    rw [hEb]
    show kd (cpN (nw h2 8 5) (g 8 t) z) a = 0
    rw [kd_cpN, if_neg (by rw [hn_nw]; omega), kd_nw_o _ _ _ _ (by omega)]
    exact hJ.2.2.2.2.2.2.2.1 a (by omega)
  have hJE := hJ.ext eO 2 (5 + z) kz (by omega) (by omega)
  have n8 : (g 8 t = hn h2) = False := nn_f hz (by rw [q.2.2.2.1]; decide)
  have kN : kd Eb (hn h2) = 8 := by rw [hEb]; simp (config := {decide := true}) only [fR_sI, aI_sI, aL_sI, aR_sI, kd_sI, ln_sI, hn_sI, hm_sI, fI_sI_n, fI_sR, aI_sR, aL_sR, aR_sR, kd_sR, ln_sR, hn_sR, hm_sR, fR_sR_n, fI_tI, fR_tI, aL_tI, aR_tI, kd_tI, ln_tI, hn_tI, hm_tI, aI_tI_n, fI_tL, fR_tL, aI_tL, aR_tL, kd_tL, ln_tL, hn_tL, hm_tL, aL_tL_n, fI_tR, fR_tR, aI_tR, aL_tR, kd_tR, ln_tR, hn_tR, hm_tR, aR_tR_n, hn_nw, hm_nw, kd_cpN, ln_cpN, fI_cpN, fR_cpN, hn_cpN, kd_nw, ln_nw, fI_nw, fR_nw, if_true, if_false, nn_f hz, nN]
  have kN2 : kd Eb (hn h2 + 1) = 399 := by rw [hEb]; simp (config := {decide := true}) only [fR_sI, aI_sI, aL_sI, aR_sI, kd_sI, ln_sI, hn_sI, hm_sI, fI_sI_n, fI_sR, aI_sR, aL_sR, aR_sR, kd_sR, ln_sR, hn_sR, hm_sR, fR_sR_n, fI_tI, fR_tI, aL_tI, aR_tI, kd_tI, ln_tI, hn_tI, hm_tI, aI_tI_n, fI_tL, fR_tL, aI_tL, aR_tL, kd_tL, ln_tL, hn_tL, hm_tL, aL_tL_n, fI_tR, fR_tR, aI_tR, aL_tR, kd_tR, ln_tR, hn_tR, hm_tR, aR_tR_n, hn_nw, hm_nw, kd_cpN, ln_cpN, fI_cpN, fR_cpN, hn_cpN, kd_nw, ln_nw, fI_nw, fR_nw, if_true, if_false, nn_f hz]
  have lN2 : ln Eb (hn h2 + 1) = z := by rw [hEb]; simp (config := {decide := true}) only [fR_sI, aI_sI, aL_sI, aR_sI, kd_sI, ln_sI, hn_sI, hm_sI, fI_sI_n, fI_sR, aI_sR, aL_sR, aR_sR, kd_sR, ln_sR, hn_sR, hm_sR, fR_sR_n, fI_tI, fR_tI, aL_tI, aR_tI, kd_tI, ln_tI, hn_tI, hm_tI, aI_tI_n, fI_tL, fR_tL, aI_tL, aR_tL, kd_tL, ln_tL, hn_tL, hm_tL, aL_tL_n, fI_tR, fR_tR, aI_tR, aL_tR, kd_tR, ln_tR, hn_tR, hm_tR, aR_tR_n, hn_nw, hm_nw, kd_cpN, ln_cpN, fI_cpN, fR_cpN, hn_cpN, kd_nw, ln_nw, fI_nw, fR_nw, if_true, if_false, nn_f hz]
  have o2 : fI Eb 896 (hn h2) = nI nr := by rw [hEb]; simp (config := {decide := true}) only [fR_sI, aI_sI, aL_sI, aR_sI, kd_sI, ln_sI, hn_sI, hm_sI, fI_sI_n, fI_sR, aI_sR, aL_sR, aR_sR, kd_sR, ln_sR, hn_sR, hm_sR, fR_sR_n, fI_tI, fR_tI, aL_tI, aR_tI, kd_tI, ln_tI, hn_tI, hm_tI, aI_tI_n, fI_tL, fR_tL, aI_tL, aR_tL, kd_tL, ln_tL, hn_tL, hm_tL, aL_tL_n, fI_tR, fR_tR, aI_tR, aL_tR, kd_tR, ln_tR, hn_tR, hm_tR, aR_tR_n, hn_nw, hm_nw, fI_sI_e, fR_sR_e, aI_tI_e, aL_tL_e, aR_tR_e, kd_nw, ln_nw, fI_nw, fR_nw, if_true, if_false, nn_f hz]
  have o3 : fI Eb 897 (hn h2) = lv := by rw [hEb]; simp (config := {decide := true}) only [fR_sI, aI_sI, aL_sI, aR_sI, kd_sI, ln_sI, hn_sI, hm_sI, fI_sI_n, fI_sR, aI_sR, aL_sR, aR_sR, kd_sR, ln_sR, hn_sR, hm_sR, fR_sR_n, fI_tI, fR_tI, aL_tI, aR_tI, kd_tI, ln_tI, hn_tI, hm_tI, aI_tI_n, fI_tL, fR_tL, aI_tL, aR_tL, kd_tL, ln_tL, hn_tL, hm_tL, aL_tL_n, fI_tR, fR_tR, aI_tR, aL_tR, kd_tR, ln_tR, hn_tR, hm_tR, aR_tR_n, hn_nw, hm_nw, fI_sI_e, fR_sR_e, aI_tI_e, aL_tL_e, aR_tR_e, kd_nw, ln_nw, fI_nw, fR_nw, if_true, if_false, nn_f hz]
  have o4 : fI Eb 898 (hn h2) = dy := by rw [hEb]; simp (config := {decide := true}) only [fR_sI, aI_sI, aL_sI, aR_sI, kd_sI, ln_sI, hn_sI, hm_sI, fI_sI_n, fI_sR, aI_sR, aL_sR, aR_sR, kd_sR, ln_sR, hn_sR, hm_sR, fR_sR_n, fI_tI, fR_tI, aL_tI, aR_tI, kd_tI, ln_tI, hn_tI, hm_tI, aI_tI_n, fI_tL, fR_tL, aI_tL, aR_tL, kd_tL, ln_tL, hn_tL, hm_tL, aL_tL_n, fI_tR, fR_tR, aI_tR, aL_tR, kd_tR, ln_tR, hn_tR, hm_tR, aR_tR_n, hn_nw, hm_nw, fI_sI_e, fR_sR_e, aI_tI_e, aL_tL_e, aR_tR_e, kd_nw, ln_nw, fI_nw, fR_nw, if_true, if_false, nn_f hz]
  have o5 : fR Eb 899 (hn h2) = some (hn h2 + 1) := by rw [hEb]; simp (config := {decide := true}) only [fR_sI, aI_sI, aL_sI, aR_sI, kd_sI, ln_sI, hn_sI, hm_sI, fI_sI_n, fI_sR, aI_sR, aL_sR, aR_sR, kd_sR, ln_sR, hn_sR, hm_sR, fR_sR_n, fI_tI, fR_tI, aL_tI, aR_tI, kd_tI, ln_tI, hn_tI, hm_tI, aI_tI_n, fI_tL, fR_tL, aI_tL, aR_tL, kd_tL, ln_tL, hn_tL, hm_tL, aL_tL_n, fI_tR, fR_tR, aI_tR, aL_tR, kd_tR, ln_tR, hn_tR, hm_tR, aR_tR_n, hn_nw, hm_nw, fI_sI_e, fR_sR_e, aI_tI_e, aL_tL_e, aR_tR_e, kd_nw, ln_nw, fI_nw, fR_nw, if_true, if_false, nn_f hz]
  have o6 : fI Eb 900 (hn h2) = -1 := by rw [hEb]; simp (config := {decide := true}) only [fR_sI, aI_sI, aL_sI, aR_sI, kd_sI, ln_sI, hn_sI, hm_sI, fI_sI_n, fI_sR, aI_sR, aL_sR, aR_sR, kd_sR, ln_sR, hn_sR, hm_sR, fR_sR_n, fI_tI, fR_tI, aL_tI, aR_tI, kd_tI, ln_tI, hn_tI, hm_tI, aI_tI_n, fI_tL, fR_tL, aI_tL, aR_tL, kd_tL, ln_tL, hn_tL, hm_tL, aL_tL_n, fI_tR, fR_tR, aI_tR, aL_tR, kd_tR, ln_tR, hn_tR, hm_tR, aR_tR_n, hn_nw, hm_nw, fI_sI_e, fR_sR_e, aI_tI_e, aL_tL_e, aR_tR_e, kd_nw, ln_nw, fI_nw, fR_nw, if_true, if_false, nn_f hz]
  have o7 : ∀ j, j < z → aL Eb 399 (hn h2 + 1) j = aL h2 310 (m 310) (60 * t + j) := by
    intro j hj
    rw [hEb]
    show aL (cpN (nw h2 8 5) (g 8 t) z) 399 (hn (nw h2 8 5)) j = _
    rw [aL_cpN _ _ _ (hn (nw h2 8 5)) _ hj, kd_nw_o _ _ _ _ (fun w => by rw [n8] at w; exact w), q.2.2.2.1, aL_nw_o _ _ _ _ _ _ (fun w => by rw [n8] at w; exact w)]
    exact hJ.2.2.2.2.1.d_cel t j htt (by omega) d
  have heE : aI Eb 128 (m 128) t = 1 := by rw [eO.2.2.1 _ _ (by simp only [hA, Nat.reduceLeDiff, Nat.reduceEqDiff, Nat.reduceLT, ne_eq, not_false_eq_true, not_true_eq_false, reduceCtorEq])]; exact d
  have szE : aI Eb 130 (m 130) t = nI z := by rw [eO.2.2.1 _ _ (by simp only [hA, Nat.reduceLeDiff, Nat.reduceEqDiff, Nat.reduceLT, ne_eq, not_false_eq_true, not_true_eq_false, reduceCtorEq])]; exact ez
  have cellE : aL Eb 310 (m 310) = aL h2 310 (m 310) := eO.2.2.2.1 _ _ (by simp only [hA, Nat.reduceLeDiff, Nat.reduceEqDiff, Nat.reduceLT, ne_eq, not_false_eq_true, not_true_eq_false, reduceCtorEq])
  have rr1 := hJ.2.2.2.2.2.2.2.2.1
  have rr2 := hJ.2.2.2.2.2.2.2.2.2
  have xN1 : (x = hn h2 + 1) = False := eq_false (fun w => by
    have w2 := hJ.2.2.2.2.2.2.2.1 (hn h2 + 1) (by omega)
    rw [← w, hB.1] at w2
    exact absurd w2 (by decide))
  have x98 : fI Er 1298 x = -1 := by rw [← hEr]; simp (config := {decide := true}) only [fR_sI, aI_sI, aL_sI, aR_sI, kd_sI, ln_sI, hn_sI, hm_sI, fI_sI_n, fI_sR, aI_sR, aL_sR, aR_sR, kd_sR, ln_sR, hn_sR, hm_sR, fR_sR_n, fI_tI, fR_tI, aL_tI, aR_tI, kd_tI, ln_tI, hn_tI, hm_tI, aI_tI_n, fI_tL, fR_tL, aI_tL, aR_tL, kd_tL, ln_tL, hn_tL, hm_tL, aL_tL_n, fI_tR, fR_tR, aI_tR, aL_tR, kd_tR, ln_tR, hn_tR, hm_tR, aR_tR_n, hn_nw, hm_nw, fI_sI_e, fR_sR_e, aI_tI_e, aL_tL_e, aR_tR_e, kd_cpN, ln_cpN, fI_cpN, fR_cpN, hn_cpN, kd_nw, ln_nw, fI_nw, fR_nw, if_true, if_false, nn_f hz, hB, xN1]
  clear hEb hEr
  generalize hNN : hn h2 = N at *
  have hAE := hJE.1; unfold JM at hAE; have hBE := hJE.2.1; unfold JS at hBE; have hCE := hJE.2.2.1.1; have hGE := hJE.2.2.2.1; have hDE := hJE.2.2.2.2.1; have hWE := hJE.2.2.2.2.2.1; have hEE := hJE.2.2.2.2.2.2.1
  have K1 : kd Er = kd Eb := eXb.2.2.1
  have L1 : ln Er = ln Eb := eXb.2.2.2.1
  have R1 : fR Er = fR Eb := eXb.2.2.2.2.1
  have cN := cnF lt12 (Nat.le_refl 12) (by decide)
  have cN13 := cnF (show nr < 13 by omega) (Nat.le_refl 13) (by decide)
  have c95 : fI Er 1295 x = nI nr := by rw [eXb.2.2.2.2.2.1 1295 rfl]; exact hCE.2.2.2.1
  have b4d : fR Er 1284 x = some (g 0 4) := by rw [R1]; simp only [hBE]
  refine stR_i (k := 407) (by rw [K1]; simp only [hBE]) (by decide) rc407 (fun b hb => by cases hb; rw [K1, kN]; rfl) (by rw [L1]; simp only [hBE]; exact cN.2.1) ?_
  have hR1 : RJ y np na nm nr ne m (sI (tR Er 407 (g 0 4) nr (some N)) 1295 x (nI (nr + 1))) := hJE.rj.of (((eqX.m eXb (fun f hf => by unfold f98; simp; omega) (fun _ _ _ => rfl)).tR 407 (g 0 4) nr (some N)).sI (f := 1295) (by decide) x (nI (nr + 1)))
  have dH : aI (sI (tR Er 407 (g 0 4) nr (some N)) 1295 x (nI (nr + 1))) 128 (m 128) t = 1 := by
    show aI Er 128 (m 128) t = 1
    rw [eXb.2.2.2.2.2.2.1 128 rfl]; exact heE
  have zH : aI (sI (tR Er 407 (g 0 4) nr (some N)) 1295 x (nI (nr + 1))) 130 (m 130) t = nI z := by
    show aI Er 130 (m 130) t = nI z
    rw [eXb.2.2.2.2.2.2.1 130 rfl]; exact szE
  have lH : L = fun j => (aL (sI (tR Er 407 (g 0 4) nr (some N)) 1295 x (nI (nr + 1))) 310 (m 310) (60 * t + j)).toInt32 := by
    show L = fun j => (aL Er 310 (m 310) (60 * t + j)).toInt32
    rw [eXb.2.2.2.2.2.2.2.1, cellE]
    exact lL
  simp (config := {decide := true}) only [gI_e, gR_e, pI_e, pZ_e, pR_e, ldI_e, ldZ_e, ldL_e, ldR_e, stI_e, stZ_e, stL_e, stR_e, alN_e, nwA_e, nwO_e, dvI_e, rmI_e, oV_e, oN_e, lt_e, rZ_e, br_T, br_F, fR_sI, aI_sI, aL_sI, aR_sI, kd_sI, ln_sI, hn_sI, hm_sI, fI_sI_n, fI_sR, aI_sR, aL_sR, aR_sR, kd_sR, ln_sR, hn_sR, hm_sR, fR_sR_n, fI_tI, fR_tI, aL_tI, aR_tI, kd_tI, ln_tI, hn_tI, hm_tI, aI_tI_n, fI_tL, fR_tL, aI_tL, aR_tL, kd_tL, ln_tL, hn_tL, hm_tL, aL_tL_n, fI_tR, fR_tR, aI_tR, aL_tR, kd_tR, ln_tR, hn_tR, hm_tR, aR_tR_n, hn_nw, hm_nw, rc400, rc403, rc404, rc405, rc407, rc409, rc420, rc440, bI_0, bI_1, bI_T, bI_F, iF_T, iF_F, br_not, le_nlt, not_true_eq_false, not_false_eq_true, and_self, and_true, true_and, and_false, false_and, or_true, true_or, or_false, false_or, ne_eq, reduceCtorEq, Nat.reduceLeDiff, Nat.reduceEqDiff, Nat.reduceLT, Nat.reduceAdd, Nat.reduceSub, Nat.reduceMul, Int32.reduceLT, Int32.reduceLE, Int32.reduceToNatClampNeg, Int32.reduceAdd, Int32.reduceSub, implies_true, forall_const, isIn_e, bit_e, lits, hA, hB, hC, hf, hno, hno1, hp, ha, hp1, ha1, placeAt_e hJ, askAt_e hJ, modelAt_e hJ, shelfAt_e hJ, isShelf_e, isGroup_e, isAsked_e, rZ_bI, dec_none, dec_s, dec_1, lt_e, c95, K1, hBE, cN]
  have G1 : ∀ f, f98 f = false → ¬ f = 1295 → fI (sI (tR Er 407 (g 0 4) nr (some N)) 1295 x (nI (nr + 1))) f = fI Eb f := by
    intro f q1 q2
    rw [fI_sI_n _ _ _ _ _ q2, fI_tR]
    exact eXb.2.2.2.2.2.1 f q1
  have G2 : aI (sI (tR Er 407 (g 0 4) nr (some N)) 1295 x (nI (nr + 1))) = aI Eb := funext fun k => eXb.2.2.2.2.2.2.1 k rfl
  have G3 : aL (sI (tR Er 407 (g 0 4) nr (some N)) 1295 x (nI (nr + 1))) = aL Eb := eXb.2.2.2.2.2.2.2.1
  have G4 : ∀ k, ¬ k = 407 → aR (sI (tR Er 407 (g 0 4) nr (some N)) 1295 x (nI (nr + 1))) k = aR Eb k := by
    intro k q1
    rw [aR_sI, aR_tR_n _ _ _ _ _ _ q1, eXb.2.2.2.2.2.2.2.2]
  have G5 : ∀ j, aR (sI (tR Er 407 (g 0 4) nr (some N)) 1295 x (nI (nr + 1))) 407 (g 0 4) j = if j = nr then some N else aR Eb 407 (g 0 4) j := by
    intro j
    rw [aR_sI, aR_tR_e, eXb.2.2.2.2.2.2.2.2]
    simp only [true_and]
  have G6 : kd (sI (tR Er 407 (g 0 4) nr (some N)) 1295 x (nI (nr + 1))) = kd Eb := K1
  have G7 : ln (sI (tR Er 407 (g 0 4) nr (some N)) 1295 x (nI (nr + 1))) = ln Eb := L1
  have G8 : fR (sI (tR Er 407 (g 0 4) nr (some N)) 1295 x (nI (nr + 1))) = fR Eb := R1
  have G9 : fI (sI (tR Er 407 (g 0 4) nr (some N)) 1295 x (nI (nr + 1))) 1295 x = nI (nr + 1) := fI_s _ _ _ _
  have G10 : hn (sI (tR Er 407 (g 0 4) nr (some N)) 1295 x (nI (nr + 1))) = hn Eb := eXb.1
  have G11 : hm (sI (tR Er 407 (g 0 4) nr (some N)) 1295 x (nI (nr + 1))) = hm Eb := eXb.2.1
  have G98 : fI (sI (tR Er 407 (g 0 4) nr (some N)) 1295 x (nI (nr + 1))) 1298 x = fI Er 1298 x := by
    rw [fI_sI_n _ _ _ _ _ (by decide), fI_tR]
  rw [x98] at G98
  have hAE2 := hAE
  generalize sI (tR Er 407 (g 0 4) nr (some N)) 1295 x (nI (nr + 1)) = Fc at *
  have hAH := hR1.1
  unfold JM at hAH
  have hCH := hR1.2.1
  simp only [gI_e, gR_e, pI_e, pZ_e, pR_e, ldI_e, ldZ_e, ldL_e, ldR_e, stI_e, stZ_e, stL_e, stR_e, alN_e, nwA_e, nwO_e, dvI_e, rmI_e, oV_e, oN_e, lt_e, rZ_e, br_T, br_F, fR_sI, aI_sI, aL_sI, aR_sI, kd_sI, ln_sI, hn_sI, hm_sI, fI_sI_n, fI_sR, aI_sR, aL_sR, aR_sR, kd_sR, ln_sR, hn_sR, hm_sR, fR_sR_n, fI_tI, fR_tI, aL_tI, aR_tI, kd_tI, ln_tI, hn_tI, hm_tI, aI_tI_n, fI_tL, fR_tL, aI_tL, aR_tL, kd_tL, ln_tL, hn_tL, hm_tL, aL_tL_n, fI_tR, fR_tR, aI_tR, aL_tR, kd_tR, ln_tR, hn_tR, hm_tR, aR_tR_n, hn_nw, hm_nw, rc400, rc403, rc404, rc405, rc407, rc409, rc420, rc440, bI_0, bI_1, bI_T, bI_F, iF_T, iF_F, br_not, le_nlt, not_true_eq_false, not_false_eq_true, and_self, and_true, true_and, and_false, false_and, or_true, true_or, or_false, false_or, ne_eq, reduceCtorEq, Nat.reduceLeDiff, Nat.reduceEqDiff, Nat.reduceLT, Nat.reduceAdd, Nat.reduceSub, Nat.reduceMul, Int32.reduceLT, Int32.reduceLE, Int32.reduceToNatClampNeg, Int32.reduceAdd, Int32.reduceSub, implies_true, forall_const, isIn_e, bit_e, lits, hA, hB, hC, hf, hno, hno1, hp, ha, hp1, ha1, placeAt_e hJ, askAt_e hJ, modelAt_e hJ, shelfAt_e hJ, isShelf_e, isGroup_e, isAsked_e, rZ_bI, dec_none, dec_s, dec_1, lt_e, c0, b1, b2, b3, b4, wants_e hR1 htt, dH, hAH, hCH]
  refine compiles_e hR1 htt (show nr < 13 by omega) hz60 zH lH _ (fun nf => absurd hft nf) (fun ok h3 k3 bd v53 v54 v51 v52 => ?_)
  obtain ⟨⟨e1, e2, e3, e4, e5, e6, e7, e8, e9⟩, j1, j2, j3⟩ := k3
  have k12 : fI h3 1412 y = nI nr := by rw [e6 1412 rfl]; exact hCH.2.2.2.1
  simp (config := {decide := true}) only [gI_e, gR_e, pI_e, pZ_e, pR_e, ldI_e, ldZ_e, ldL_e, ldR_e, stI_e, stZ_e, stL_e, stR_e, alN_e, nwA_e, nwO_e, dvI_e, rmI_e, oV_e, oN_e, lt_e, rZ_e, br_T, br_F, fR_sI, aI_sI, aL_sI, aR_sI, kd_sI, ln_sI, hn_sI, hm_sI, fI_sI_n, fI_sR, aI_sR, aL_sR, aR_sR, kd_sR, ln_sR, hn_sR, hm_sR, fR_sR_n, fI_tI, fR_tI, aL_tI, aR_tI, kd_tI, ln_tI, hn_tI, hm_tI, aI_tI_n, fI_tL, fR_tL, aI_tL, aR_tL, kd_tL, ln_tL, hn_tL, hm_tL, aL_tL_n, fI_tR, fR_tR, aI_tR, aL_tR, kd_tR, ln_tR, hn_tR, hm_tR, aR_tR_n, hn_nw, hm_nw, rc400, rc403, rc404, rc405, rc407, rc409, rc420, rc440, bI_0, bI_1, bI_T, bI_F, iF_T, iF_F, br_not, le_nlt, not_true_eq_false, not_false_eq_true, and_self, and_true, true_and, and_false, false_and, or_true, true_or, or_false, false_or, ne_eq, reduceCtorEq, Nat.reduceLeDiff, Nat.reduceEqDiff, Nat.reduceLT, Nat.reduceAdd, Nat.reduceSub, Nat.reduceMul, Int32.reduceLT, Int32.reduceLE, Int32.reduceToNatClampNeg, Int32.reduceAdd, Int32.reduceSub, implies_true, forall_const, isIn_e, bit_e, lits, hA, hB, hC, hf, hno, hno1, hp, ha, hp1, ha1, placeAt_e hJ, askAt_e hJ, modelAt_e hJ, shelfAt_e hJ, isShelf_e, isGroup_e, isAsked_e, rZ_bI, dec_none, dec_s, dec_1, lt_e, fI_s, e3, e4, e5, hAH, k12, t2, n12, cN13]
  refine hQ _ ⟨np, na, nm, nr + 1, ne, upG (upG g 5 nr N) 12 nr (N + 1), growRule (N := N) (lv := lv) (dy := dy) hJE lt12 ?_ ?_ ?_ ?_ ?_ ?_ ?_ ?_ ?_ ?_ kN o2 o3 o4 o5 o6 kN2 ?_ ?_ ?_ ?_ ?_ ?_ ?_ ?_ ?_ ?_ ?_ ?_ ?_⟩
  · show kd h3 = kd Eb
    rw [e3, G6]
  · show ln h3 = ln Eb
    rw [e4, G7]
  · show fR h3 = fR Eb
    rw [e5, G8]
  · intro f qf
    obtain ⟨p1, p2, p3, p4, p5⟩ := rl_p qf
    rw [fI_sI_n _ _ _ _ _ p4, fI_tI, fI_tI, fI_tI, fI_sI_n _ _ _ _ _ p5, e6 f p2, G1 f p1 p3]
  · intro k qk
    obtain ⟨p1, p2, p3, p4⟩ := rl_k qk
    rw [aI_sI, aI_tI_n _ _ _ _ _ _ p4, aI_tI_n _ _ _ _ _ _ p3, aI_tI_n _ _ _ _ _ _ p2, aI_sI, e7 k p1, G2]
  · show aL h3 = aL Eb
    rw [e8, G3]
  · intro k _ qk
    show aR h3 k = aR Eb k
    rw [e9, G4 k qk]
  · simp (config := {decide := true}) only [fR_sI, aI_sI, aL_sI, aR_sI, kd_sI, ln_sI, hn_sI, hm_sI, fI_sI_n, fI_sR, aI_sR, aL_sR, aR_sR, kd_sR, ln_sR, hn_sR, hm_sR, fR_sR_n, fI_tI, fR_tI, aL_tI, aR_tI, kd_tI, ln_tI, hn_tI, hm_tI, aI_tI_n, fI_tL, fR_tL, aI_tL, aR_tL, kd_tL, ln_tL, hn_tL, hm_tL, aL_tL_n, fI_tR, fR_tR, aI_tR, aL_tR, kd_tR, ln_tR, hn_tR, hm_tR, aR_tR_n, hn_nw, hm_nw, e6, G9]
  · rw [fI_s]
  · simp (config := {decide := true}) only [fR_sI, aI_sI, aL_sI, aR_sI, kd_sI, ln_sI, hn_sI, hm_sI, fI_sI_n, fI_sR, aI_sR, aL_sR, aR_sR, kd_sR, ln_sR, hn_sR, hm_sR, fR_sR_n, fI_tI, fR_tI, aL_tI, aR_tI, kd_tI, ln_tI, hn_tI, hm_tI, aI_tI_n, fI_tL, fR_tL, aI_tL, aR_tL, kd_tL, ln_tL, hn_tL, hm_tL, aL_tL_n, fI_tR, fR_tR, aI_tR, aL_tR, kd_tR, ln_tR, hn_tR, hm_tR, aR_tR_n, hn_nw, hm_nw, fI_s, e6, G98]
  · intro j hj
    show aR h3 407 (g 0 4) j = _
    rw [e9, G5, if_neg (by omega)]
  · show aR h3 407 (g 0 4) nr = _
    rw [e9, G5, if_pos rfl]
  · intro j hj
    simp (config := {decide := true}) only [fR_sI, aI_sI, aL_sI, aR_sI, kd_sI, ln_sI, hn_sI, hm_sI, fI_sI_n, fI_sR, aI_sR, aL_sR, aR_sR, kd_sR, ln_sR, hn_sR, hm_sR, fR_sR_n, fI_tI, fR_tI, aL_tI, aR_tI, kd_tI, ln_tI, hn_tI, hm_tI, aI_tI_n, fI_tL, fR_tL, aI_tL, aR_tL, kd_tL, ln_tL, hn_tL, hm_tL, aL_tL_n, fI_tR, fR_tR, aI_tR, aL_tR, kd_tR, ln_tR, hn_tR, hm_tR, aR_tR_n, hn_nw, hm_nw, fI_sI_e, fR_sR_e, aI_tI_e, aL_tL_e, aR_tR_e, true_and, e7, G2]
    rw [if_neg (by omega), if_neg (by omega), if_neg (by omega)]
    exact ⟨rfl, rfl, rfl⟩
  · simp (config := {decide := true}) only [fR_sI, aI_sI, aL_sI, aR_sI, kd_sI, ln_sI, hn_sI, hm_sI, fI_sI_n, fI_sR, aI_sR, aL_sR, aR_sR, kd_sR, ln_sR, hn_sR, hm_sR, fR_sR_n, fI_tI, fR_tI, aL_tI, aR_tI, kd_tI, ln_tI, hn_tI, hm_tI, aI_tI_n, fI_tL, fR_tL, aI_tL, aR_tL, kd_tL, ln_tL, hn_tL, hm_tL, aL_tL_n, fI_tR, fR_tR, aI_tR, aL_tR, kd_tR, ln_tR, hn_tR, hm_tR, aR_tR_n, hn_nw, hm_nw, fI_sI_e, fR_sR_e, aI_tI_e, aL_tL_e, aR_tR_e, true_and, if_true]
  · simp (config := {decide := true}) only [fR_sI, aI_sI, aL_sI, aR_sI, kd_sI, ln_sI, hn_sI, hm_sI, fI_sI_n, fI_sR, aI_sR, aL_sR, aR_sR, kd_sR, ln_sR, hn_sR, hm_sR, fR_sR_n, fI_tI, fR_tI, aL_tI, aR_tI, kd_tI, ln_tI, hn_tI, hm_tI, aI_tI_n, fI_tL, fR_tL, aI_tL, aR_tL, kd_tL, ln_tL, hn_tL, hm_tL, aL_tL_n, fI_tR, fR_tR, aI_tR, aL_tR, kd_tR, ln_tR, hn_tR, hm_tR, aR_tR_n, hn_nw, hm_nw, fI_sI_e, fR_sR_e, aI_tI_e, aL_tL_e, aR_tR_e, true_and, if_true]
  · simp (config := {decide := true}) only [fR_sI, aI_sI, aL_sI, aR_sI, kd_sI, ln_sI, hn_sI, hm_sI, fI_sI_n, fI_sR, aI_sR, aL_sR, aR_sR, kd_sR, ln_sR, hn_sR, hm_sR, fR_sR_n, fI_tI, fR_tI, aL_tI, aR_tI, kd_tI, ln_tI, hn_tI, hm_tI, aI_tI_n, fI_tL, fR_tL, aI_tL, aR_tL, kd_tL, ln_tL, hn_tL, hm_tL, aL_tL_n, fI_tR, fR_tR, aI_tR, aL_tR, kd_tR, ln_tR, hn_tR, hm_tR, aR_tR_n, hn_nw, hm_nw, fI_sI_e, fR_sR_e, aI_tI_e, aL_tL_e, aR_tR_e, true_and, if_true]
  · intro j hj
    simp (config := {decide := true}) only [fR_sI, aI_sI, aL_sI, aR_sI, kd_sI, ln_sI, hn_sI, hm_sI, fI_sI_n, fI_sR, aI_sR, aL_sR, aR_sR, kd_sR, ln_sR, hn_sR, hm_sR, fR_sR_n, fI_tI, fR_tI, aL_tI, aR_tI, kd_tI, ln_tI, hn_tI, hm_tI, aI_tI_n, fI_tL, fR_tL, aI_tL, aR_tL, kd_tL, ln_tL, hn_tL, hm_tL, aL_tL_n, fI_tR, fR_tR, aI_tR, aL_tR, kd_tR, ln_tR, hn_tR, hm_tR, aR_tR_n, hn_nw, hm_nw]
    rw [← G2]
    exact j3 j hj
  · intro j hj
    simp (config := {decide := true}) only [fR_sI, aI_sI, aL_sI, aR_sI, kd_sI, ln_sI, hn_sI, hm_sI, fI_sI_n, fI_sR, aI_sR, aL_sR, aR_sR, kd_sR, ln_sR, hn_sR, hm_sR, fR_sR_n, fI_tI, fR_tI, aL_tI, aR_tI, kd_tI, ln_tI, hn_tI, hm_tI, aI_tI_n, fI_tL, fR_tL, aI_tL, aR_tL, kd_tL, ln_tL, hn_tL, hm_tL, aL_tL_n, fI_tR, fR_tR, aI_tR, aL_tR, kd_tR, ln_tR, hn_tR, hm_tR, aR_tR_n, hn_nw, hm_nw]
    rw [← G2]
    exact j1 j hj
  · intro j hj
    simp (config := {decide := true}) only [fR_sI, aI_sI, aL_sI, aR_sI, kd_sI, ln_sI, hn_sI, hm_sI, fI_sI_n, fI_sR, aI_sR, aL_sR, aR_sR, kd_sR, ln_sR, hn_sR, hm_sR, fR_sR_n, fI_tI, fR_tI, aL_tI, aR_tI, kd_tI, ln_tI, hn_tI, hm_tI, aI_tI_n, fI_tL, fR_tL, aI_tL, aR_tL, kd_tL, ln_tL, hn_tL, hm_tL, aL_tL_n, fI_tR, fR_tR, aI_tR, aL_tR, kd_tR, ln_tR, hn_tR, hm_tR, aR_tR_n, hn_nw, hm_nw]
    rw [← G2]
    exact j2 j hj
  · have gE : grN (fun j => (aL Eb 399 (N + 1) j).toInt32) z = grN L z := grN_g (fun j hj => by rw [o7 j hj, lL])
    rw [lN2]
    simp (config := {decide := true}) only [fR_sI, aI_sI, aL_sI, aR_sI, kd_sI, ln_sI, hn_sI, hm_sI, fI_sI_n, fI_sR, aI_sR, aL_sR, aR_sR, kd_sR, ln_sR, hn_sR, hm_sR, fR_sR_n, fI_tI, fR_tI, aL_tI, aR_tI, kd_tI, ln_tI, hn_tI, hm_tI, aI_tI_n, fI_tL, fR_tL, aI_tL, aR_tL, kd_tL, ln_tL, hn_tL, hm_tL, aL_tL_n, fI_tR, fR_tR, aI_tR, aL_tR, kd_tR, ln_tR, hn_tR, hm_tR, aR_tR_n, hn_nw, hm_nw]
    unfold ruleOK
    rw [gE]
    obtain ⟨d', hd', v52a, v52b⟩ := v52
    exact ⟨hz60, hft, bd, v51, v53, v54, d', hd', v52a, v52b⟩
  · exact lev_r b1 b2
  · exact day_r b3 b4
  · refine ⟨?_, ?_, ?_⟩
    · show ∀ a, hn h3 ≤ a → kd h3 a = 0
      rw [e1, e3, G10, G6]
      exact kz
    · show hn h3 ≤ _
      rw [e1, G10]
      omega
    · show hm h3 ≤ _
      rw [e2, G11]
      omega
end RULB
