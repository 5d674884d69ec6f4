/-- the reference's own half -/
def RJ (y np na nm nr ne : Nat) (m : Nat → Nat) (h : Hp) : Prop := JM y m h ∧ (fI h 1409 y = nI np ∧ fI h 1410 y = nI na ∧ fI h 1411 y = nI nm ∧ fI h 1412 y = nI nr ∧ fI h 1413 y = nI ne) ∧ (1 ≤ np ∧ np ≤ 24 ∧ na ≤ 160 ∧ nm ≤ 8 ∧ nr ≤ 12 ∧ ne ≤ 20) ∧ JW y np na nm nr ne m h
/-- what the class does leaves the reference's half -/
def eqM (h h1 : Hp) : Prop := hn h ≤ hn h1 ∧ (∀ f a, 1408 ≤ f → kd h a ≠ 0 → fI h1 f a = fI h f a) ∧ (∀ f a, 1408 ≤ f → kd h a ≠ 0 → fR h1 f a = fR h f a) ∧ (∀ k a, 120 ≤ k → k < 250 → kd h a ≠ 0 → aI h1 k a = aI h k a) ∧ (∀ k a, 310 ≤ k → k < 399 → kd h a ≠ 0 → aL h1 k a = aL h k a) ∧ (∀ a, kd h a ≠ 0 → kd h1 a = kd h a) ∧ (∀ a, kd h a ≠ 0 → ln h1 a = ln h a)
theorem eqM.rf (h : Hp) : eqM h h := ⟨Nat.le_refl _, fun _ _ _ _ => rfl, fun _ _ _ _ => rfl, fun _ _ _ _ _ => rfl, fun _ _ _ _ _ => rfl, fun _ _ => rfl, fun _ _ => rfl⟩
theorem eqM.tr {h h1 h2 : Hp} (a : eqM h h1) (b : eqM h1 h2) : eqM h h2 := by
  obtain ⟨a0, a1, a2, a3, a4, a5, a6⟩ := a
  obtain ⟨b0, b1, b2, b3, b4, b5, b6⟩ := b
  have lv : ∀ c, kd h c ≠ 0 → kd h1 c ≠ 0 := fun c q => by rw [a5 c q]; exact q
  exact ⟨Nat.le_trans a0 b0, fun f c q r => (b1 f c q (lv c r)).trans (a1 f c q r), fun f c q r => (b2 f c q (lv c r)).trans (a2 f c q r), fun k c q r s => (b3 k c q r (lv c s)).trans (a3 k c q r s), fun k c q r s => (b4 k c q r (lv c s)).trans (a4 k c q r s), fun c r => (b5 c (lv c r)).trans (a5 c r), fun c r => (b6 c (lv c r)).trans (a6 c r)⟩
theorem eqM.sI {h h1 : Hp} (a : eqM h h1) {f : Nat} (hf : f < 1408) (b : Nat) (v : Int32) : eqM h (sI h1 f b v) :=
  a.tr ⟨Nat.le_refl _, fun f2 c q _ => by rw [fI_sI_n _ _ _ _ _ (by omega)], fun _ _ _ _ => rfl, fun _ _ _ _ _ => rfl, fun _ _ _ _ _ => rfl, fun _ _ => rfl, fun _ _ => rfl⟩
theorem eqM.sR {h h1 : Hp} (a : eqM h h1) {f : Nat} (hf : f < 1408) (b : Nat) (v : Option Nat) : eqM h (sR h1 f b v) :=
  a.tr ⟨Nat.le_refl _, fun _ _ _ _ => rfl, fun f2 c q _ => by rw [fR_sR_n _ _ _ _ _ (by omega)], fun _ _ _ _ _ => rfl, fun _ _ _ _ _ => rfl, fun _ _ => rfl, fun _ _ => rfl⟩
theorem eqM.tI {h h1 : Hp} (a : eqM h h1) {k : Nat} (hk : k < 120 ∨ 250 ≤ k) (b j : Nat) (v : Int32) : eqM h (tI h1 k b j v) :=
  a.tr ⟨Nat.le_refl _, fun _ _ _ _ => rfl, fun _ _ _ _ => rfl, fun k2 c q r _ => by rw [aI_tI_n _ _ _ _ _ _ (by omega)], fun _ _ _ _ _ => rfl, fun _ _ => rfl, fun _ _ => rfl⟩
theorem eqM.tL {h h1 : Hp} (a : eqM h h1) {k : Nat} (hk : k < 310 ∨ 399 ≤ k) (b j : Nat) (v : Int64) : eqM h (tL h1 k b j v) :=
  a.tr ⟨Nat.le_refl _, fun _ _ _ _ => rfl, fun _ _ _ _ => rfl, fun _ _ _ _ _ => rfl, fun k2 c q r _ => by rw [aL_tL_n _ _ _ _ _ _ (by omega)], fun _ _ => rfl, fun _ _ => rfl⟩
theorem eqM.tR {h h1 : Hp} (a : eqM h h1) (k b j : Nat) (v : Option Nat) : eqM h (tR h1 k b j v) :=
  a.tr ⟨Nat.le_refl _, fun _ _ _ _ => rfl, fun _ _ _ _ => rfl, fun _ _ _ _ _ => rfl, fun _ _ _ _ _ => rfl, fun _ _ => rfl, fun _ _ => rfl⟩
theorem eqM.nw {h h1 : Hp} (a : eqM h h1) (hz : kd h1 (hn h1) = 0) (k n : Nat) : eqM h (nw h1 k n) := by
  have ne : ∀ c, kd h1 c ≠ 0 → c ≠ hn h1 := fun c q e => q (by rw [e]; exact hz)
  exact a.tr ⟨by rw [hn_nw]; omega, fun f2 c _ q => fI_nw_o _ _ _ _ _ (ne c q), fun f2 c _ q => fR_nw_o _ _ _ _ _ (ne c q), fun k2 c _ _ q => funext fun j => aI_nw_o _ _ _ _ _ _ (ne c q), fun k2 c _ _ q => funext fun j => aL_nw_o _ _ _ _ _ _ (ne c q), fun c q => kd_nw_o _ _ _ _ (ne c q), fun c q => ln_nw_o _ _ _ _ (ne c q)⟩
section FR
variable {x y b0 s0 np na nm nr ne : Nat} {g : Nat → Nat → Nat} {m : Nat → Nat} {h h1 : Hp}
theorem JA.rj (hJ : JA x y b0 s0 np na nm nr ne g m h) : RJ y np na nm nr ne m h := by
  obtain ⟨hM, -, hC, -, -, hW, -⟩ := hJ
  exact ⟨hM, ⟨hC.1.2.2.2.2.2.1, hC.1.2.2.2.2.2.2.1, hC.1.2.2.2.2.2.2.2.1, hC.1.2.2.2.2.2.2.2.2.1, hC.1.2.2.2.2.2.2.2.2.2.1⟩, hC.2, hW⟩
theorem RJ.of (hR : RJ y np na nm nr ne m h) (e : eqM h h1) : RJ y np na nm nr ne m h1 := by
  obtain ⟨-, e1, e2, e3, e4, e5, e6⟩ := e
  obtain ⟨hM, hC, hB, hW⟩ := hR
  have hA := hM
  unfold JM at hA
  unfold RJ
  refine ⟨?_, ?_, hB, ?_⟩
  · unfold JM
    simp only [e1, e2, e3, e4, e5, e6, hA, Nat.reduceLeDiff, Nat.reduceEqDiff, Nat.reduceLT, ne_eq, not_false_eq_true, not_true_eq_false, reduceCtorEq, and_self]
  · simp only [e1, hA, hC, Nat.reduceLeDiff, Nat.reduceEqDiff, Nat.reduceLT, ne_eq, not_false_eq_true, not_true_eq_false, reduceCtorEq, and_self]
  · unfold JW at hW ⊢
    simp only [e1, e2, e3, e4, e5, e6, hA, Nat.reduceLeDiff, Nat.reduceEqDiff, Nat.reduceLT, ne_eq, not_false_eq_true, not_true_eq_false, reduceCtorEq]
    exact hW
theorem isPlace_e (hR : RJ y np na nm nr ne m h) (n : Int32) (Q : Int32 → Hp → Prop) : w_X11_isPlace (some y) n h Q = Q (bI (vp_in n np)) h := by
  obtain ⟨hA, hD, hB, -⟩ := hR
  unfold JM at hA
  have hb : np < 2 ^ 31 := by omega
  unfold w_X11_isPlace n_X11_isPlace_0 n_X11_isPlace_16 n_X11_isPlace_17
  rw [in_iff hb]
  by_cases c : n < 0 <;> by_cases d : n < nI np <;> simp only [c, d, hA, hD, gI_e, gR_e, pI_e, pZ_e, pR_e, ldI_e, ldZ_e, ldL_e, ldR_e, stI_e, stZ_e, stL_e, stR_e, alN_e, nwA_e, nwO_e, dvI_e, rmI_e, oV_e, oN_e, lt_e, rZ_e, br_T, br_F, fR_sI, aI_sI, aL_sI, aR_sI, kd_sI, ln_sI, hn_sI, hm_sI, fI_sI_n, fI_sR, aI_sR, aL_sR, aR_sR, kd_sR, ln_sR, hn_sR, hm_sR, fR_sR_n, fI_tI, fR_tI, aL_tI, aR_tI, kd_tI, ln_tI, hn_tI, hm_tI, aI_tI_n, fI_tL, fR_tL, aI_tL, aR_tL, kd_tL, ln_tL, hn_tL, hm_tL, aL_tL_n, fI_tR, fR_tR, aI_tR, aL_tR, kd_tR, ln_tR, hn_tR, hm_tR, aR_tR_n, hn_nw, hm_nw, rc400, rc403, rc404, rc405, rc407, rc409, rc420, rc440, bI_0, bI_1, bI_T, bI_F, iF_T, iF_F, br_not, le_nlt, not_true_eq_false, not_false_eq_true, and_self, and_true, true_and, and_false, false_and, or_true, true_or, or_false, false_or, ne_eq, reduceCtorEq, Nat.reduceLeDiff, Nat.reduceEqDiff, Nat.reduceLT, Nat.reduceAdd, Nat.reduceSub, Nat.reduceMul, Int32.reduceLT, Int32.reduceLE, Int32.reduceToNatClampNeg, Int32.reduceAdd, Int32.reduceSub, implies_true, forall_const, isIn_e, bit_e, lits, rZ_bI]
theorem isAsk_e (hR : RJ y np na nm nr ne m h) (n : Int32) (Q : Int32 → Hp → Prop) : w_X11_isAsk (some y) n h Q = Q (bI (vp_in n na)) h := by
  obtain ⟨hA, hD, hB, -⟩ := hR
  unfold JM at hA
  have hb : na < 2 ^ 31 := by omega
  unfold w_X11_isAsk n_X11_isAsk_0 n_X11_isAsk_16 n_X11_isAsk_17
  rw [in_iff hb]
  by_cases c : n < 0 <;> by_cases d : n < nI na <;> simp only [c, d, hA, hD, gI_e, gR_e, pI_e, pZ_e, pR_e, ldI_e, ldZ_e, ldL_e, ldR_e, stI_e, stZ_e, stL_e, stR_e, alN_e, nwA_e, nwO_e, dvI_e, rmI_e, oV_e, oN_e, lt_e, rZ_e, br_T, br_F, fR_sI, aI_sI, aL_sI, aR_sI, kd_sI, ln_sI, hn_sI, hm_sI, fI_sI_n, fI_sR, aI_sR, aL_sR, aR_sR, kd_sR, ln_sR, hn_sR, hm_sR, fR_sR_n, fI_tI, fR_tI, aL_tI, aR_tI, kd_tI, ln_tI, hn_tI, hm_tI, aI_tI_n, fI_tL, fR_tL, aI_tL, aR_tL, kd_tL, ln_tL, hn_tL, hm_tL, aL_tL_n, fI_tR, fR_tR, aI_tR, aL_tR, kd_tR, ln_tR, hn_tR, hm_tR, aR_tR_n, hn_nw, hm_nw, rc400, rc403, rc404, rc405, rc407, rc409, rc420, rc440, bI_0, bI_1, bI_T, bI_F, iF_T, iF_F, br_not, le_nlt, not_true_eq_false, not_false_eq_true, and_self, and_true, true_and, and_false, false_and, or_true, true_or, or_false, false_or, ne_eq, reduceCtorEq, Nat.reduceLeDiff, Nat.reduceEqDiff, Nat.reduceLT, Nat.reduceAdd, Nat.reduceSub, Nat.reduceMul, Int32.reduceLT, Int32.reduceLE, Int32.reduceToNatClampNeg, Int32.reduceAdd, Int32.reduceSub, implies_true, forall_const, isIn_e, bit_e, lits, rZ_bI]
theorem no_e (hR : RJ y np na nm nr ne m h) (k : Nat) (hk : 1 ≤ k ∧ k ≤ 7) (Q : Int32 → Hp → Prop) : w_X11_no (some y) (-(nI k)) h Q = Q (-(nI k)) (tI h 161 (m 161) k (aI h 161 (m 161) k + 1)) := by
  obtain ⟨hA, -⟩ := hR
  unfold JM at hA
  unfold w_X11_no n_X11_no_0
  have hv : vp_in (- -nI k) 8 := by
    rw [Int32.neg_neg]
    exact vp_in_nI (by omega) (by omega)
  have e : (- -nI k).toNatClampNeg = k := by
    rw [Int32.neg_neg]
    exact nI_clamp (by omega)
  simp only [gI_e, gR_e, pI_e, pZ_e, pR_e, ldI_e, ldZ_e, ldL_e, ldR_e, stI_e, stZ_e, stL_e, stR_e, alN_e, nwA_e, nwO_e, dvI_e, rmI_e, oV_e, oN_e, lt_e, rZ_e, br_T, br_F, fR_sI, aI_sI, aL_sI, aR_sI, kd_sI, ln_sI, hn_sI, hm_sI, fI_sI_n, fI_sR, aI_sR, aL_sR, aR_sR, kd_sR, ln_sR, hn_sR, hm_sR, fR_sR_n, fI_tI, fR_tI, aL_tI, aR_tI, kd_tI, ln_tI, hn_tI, hm_tI, aI_tI_n, fI_tL, fR_tL, aI_tL, aR_tL, kd_tL, ln_tL, hn_tL, hm_tL, aL_tL_n, fI_tR, fR_tR, aI_tR, aL_tR, kd_tR, ln_tR, hn_tR, hm_tR, aR_tR_n, hn_nw, hm_nw, rc400, rc403, rc404, rc405, rc407, rc409, rc420, rc440, bI_0, bI_1, bI_T, bI_F, iF_T, iF_F, br_not, le_nlt, not_true_eq_false, not_false_eq_true, and_self, and_true, true_and, and_false, false_and, or_true, true_or, or_false, false_or, ne_eq, reduceCtorEq, Nat.reduceLeDiff, Nat.reduceEqDiff, Nat.reduceLT, Nat.reduceAdd, Nat.reduceSub, Nat.reduceMul, Int32.reduceLT, Int32.reduceLE, Int32.reduceToNatClampNeg, Int32.reduceAdd, Int32.reduceSub, implies_true, forall_const, isIn_e, bit_e, lits, hA, hv, e]
/-- both refuse: all as it was, but how many were refused -/
theorem JA.ref (hJ : JA x y b0 s0 np na nm nr ne g m h) (k : Nat) (hk : 1 ≤ k ∧ k ≤ 7) : JA x y b0 s0 np na nm nr ne g m (tI (tI h 110 (g 0 6) (k - 1) (aI h 110 (g 0 6) (k - 1) + 1)) 161 (m 161) k (aI h 161 (m 161) k + 1)) := by
  obtain ⟨hM, hS, hC, hG, hD, hW, hE, hR⟩ := hJ
  refine ⟨hM, hS, hC, hG, ?_, ?_, ?_, hR⟩
  · unfold JD
    simp (config := {decide := true}) only [fR_sI, aI_sI, aL_sI, aR_sI, kd_sI, ln_sI, hn_sI, hm_sI, fI_sI_n, fI_sR, aI_sR, aL_sR, aR_sR, kd_sR, ln_sR, hn_sR, hm_sR, fR_sR_n, fI_tI, fR_tI, aL_tI, aR_tI, kd_tI, ln_tI, hn_tI, hm_tI, aI_tI_n, fI_tL, fR_tL, aI_tL, aR_tL, kd_tL, ln_tL, hn_tL, hm_tL, aL_tL_n, fI_tR, fR_tR, aI_tR, aL_tR, kd_tR, ln_tR, hn_tR, hm_tR, aR_tR_n, hn_nw, hm_nw]
    refine ⟨JD.d_lev hD, JD.d_und hD, JD.d_way hD, JD.d_ord hD, JD.d_mad hD, JD.d_tor hD, JD.d_cho hD, JD.d_yes hD, JD.d_srt hD, JD.d_siz hD, JD.d_sha hD, JD.d_cel hD, JD.d_at hD, JD.d_wha hD, JD.d_who hD, JD.d_muc hD, JD.d_wri hD, JD.d_kin hD, JD.d_lat hD, JD.d_gap hD, JD.d_gon hD, JD.d_yie hD, JD.d_wor hD, JD.d_mod hD, JD.d_int hD, JD.d_dro hD, JD.d_wds hD, JD.d_wdn hD, JD.d_mwh hD, JD.d_mda hD, JD.d_mpl hD, JD.d_mwd hD, JD.d_rle hD, JD.d_rda hD, JD.d_rst hD, JD.d_ppl hD, JD.d_pbo hD, JD.d_cla hD, ?_⟩
    intro j hj
    have := hD.d_ref j hj
    simp (config := {decide := true}) only [fR_sI, aI_sI, aL_sI, aR_sI, kd_sI, ln_sI, hn_sI, hm_sI, fI_sI_n, fI_sR, aI_sR, aL_sR, aR_sR, kd_sR, ln_sR, hn_sR, hm_sR, fR_sR_n, fI_tI, fR_tI, aL_tI, aR_tI, kd_tI, ln_tI, hn_tI, hm_tI, aI_tI_n, fI_tL, fR_tL, aI_tL, aR_tL, kd_tL, ln_tL, hn_tL, hm_tL, aL_tL_n, fI_tR, fR_tR, aI_tR, aL_tR, kd_tR, ln_tR, hn_tR, hm_tR, aR_tR_n, hn_nw, hm_nw, fI_sI_e, fR_sR_e, aI_tI_e, aL_tL_e, aR_tR_e, true_and]
    by_cases e : j = k - 1
    · have e2 : j + 1 = k := by omega
      rw [if_pos e, if_pos e2, ← e, ← e2, this]
    · have e2 : ¬ j + 1 = k := by omega
      rw [if_neg e, if_neg e2, this]
  · unfold JW
    simp (config := {decide := true}) only [fR_sI, aI_sI, aL_sI, aR_sI, kd_sI, ln_sI, hn_sI, hm_sI, fI_sI_n, fI_sR, aI_sR, aL_sR, aR_sR, kd_sR, ln_sR, hn_sR, hm_sR, fR_sR_n, fI_tI, fR_tI, aL_tI, aR_tI, kd_tI, ln_tI, hn_tI, hm_tI, aI_tI_n, fI_tL, fR_tL, aI_tL, aR_tL, kd_tL, ln_tL, hn_tL, hm_tL, aL_tL_n, fI_tR, fR_tR, aI_tR, aL_tR, kd_tR, ln_tR, hn_tR, hm_tR, aR_tR_n, hn_nw, hm_nw]
    exact hW
  · unfold JE
    simp (config := {decide := true}) only [fR_sI, aI_sI, aL_sI, aR_sI, kd_sI, ln_sI, hn_sI, hm_sI, fI_sI_n, fI_sR, aI_sR, aL_sR, aR_sR, kd_sR, ln_sR, hn_sR, hm_sR, fR_sR_n, fI_tI, fR_tI, aL_tI, aR_tI, kd_tI, ln_tI, hn_tI, hm_tI, aI_tI_n, fI_tL, fR_tL, aI_tL, aR_tL, kd_tL, ln_tL, hn_tL, hm_tL, aL_tL_n, fI_tR, fR_tR, aI_tR, aL_tR, kd_tR, ln_tR, hn_tR, hm_tR, aR_tR_n, hn_nw, hm_nw]
    exact hE
end FR
