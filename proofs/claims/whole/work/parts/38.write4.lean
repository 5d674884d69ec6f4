section WRI4
variable {x y b0 s0 np na nm nr ne : Nat} {g : Nat → Nat → Nat} {m : Nat → Nat} {h : Hp}
/-- a model may be borrowed from -/
def mayB (h : Hp) (m : Nat → Nat) (y p z : Nat) (c : Int32) (L : Nat → Nat) (i : Nat) : Prop := aI h 144 (m 144) i = c ∧ ¬ fI h 1408 y < aI h 146 (m 146) i + wy h m (aI h 145 (m 145) i).toNatClampNeg p ∧ z ≤ 2 * L i
noncomputable def likW (h : Hp) (m : Nat → Nat) (z : Nat) (W : Nat → Int64) (i : Nat) : Nat := cD W (fun j => aL h 313 (m 313) (60 * i + j)) z (aI h 147 (m 147) i).toNatClampNeg
theorem wy_Ebk (E : Hp) (N : Nat) (a : Int32) (b : Option Nat) (c : Int32) (m : Nat → Nat) (p q : Nat) : wy (Ebk E N a b c) m p q = wy E m p q := rfl
theorem borrow_e {E : Hp} {N A p z b1 s1 : Nat} {c : Int32} {W : Nat → Int64} (hJE : ∀ a b v, JA x y b1 s1 np na nm nr ne g m (Ebk E N a b v)) (hpp : p < np) (hz : z ≤ 20) (k1 : kd E N = 1) (k2 : kd E A = 399) (k3 : ln E A = z) (k4 : ∀ j, j < z → aL E 399 A j = W j) (f1 : fR E 1 N = some (g 1 p)) (f2 : fI E 2 N = c) (f8 : fR E 8 N = some A) (f6 : fI E 6 N = 0) (f10 : fR E 10 N = none) (f11 : fI E 11 N = 0) (Q : Hp → Prop) (hQ : ∀ h', eqS (Ebk E N (kO (bst (mayB E m y p z c (likW E m z W)) (likW E m z W) nm)) ((bst (mayB E m y p z c (likW E m z W)) (likW E m z W) nm).map (g 4)) (nI (lO (likW E m z W) (bst (mayB E m y p z c (likW E m z W)) (likW E m z W) nm)))) h' → Q h') : w_X10_borrow (some x) (some N) E Q := by
  generalize hL : likW E m z W = L at hQ
  generalize hP : mayB E m y p z c L = P at hQ
  unfold w_X10_borrow n_X10_borrow_0 l_X10_borrow_2
  have L20 : ∀ i, L i ≤ z := fun i => by rw [← hL]; exact cD_le _ _ _ _
  refine Lo.count nm (fun k s h' => eqS (Ebk E N (kO (bst P L k)) ((bst P L k).map (g 4)) (nI (lO L (bst P L k)))) h' ∧ s = nI k) ?_ 0 (Nat.zero_le _) _ _ ⟨by rw [Ebk_id (a := kO (bst P L 0)) (b := (bst P L 0).map (g 4)) (c := nI (lO L (bst P L 0))) f6 f10 f11]; exact eqS.rf E, rfl⟩
  rintro k s h' hk ⟨hS, rfl⟩ K hK
  have hJ' := (hJE (kO (bst P L k)) ((bst P L k).map (g 4)) (nI (lO L (bst P L k)))).same hS
  have hB := hJ'.2.1
  unfold JS at hB
  have hC := hJ'.2.2.1.1
  have hbd := hJ'.2.2.1.2
  have hW := hJ'.2.2.2.2.2.1
  have hD := hJ'.2.2.2.2.1
  have EE := eqS_l hS
  -- the new ask, as it stands here
  have e1 : kd h' N = 1 := by rw [EE.1]; exact k1
  have e2 : kd h' A = 399 := by rw [EE.1]; exact k2
  have e3 : ln h' A = z := by rw [EE.2.1]; exact k3
  have e4 : fR h' 1 N = some (g 1 p) := by rw [EE.2.2.1]; exact f1
  have e5 : fI h' 2 N = c := by rw [hS.2.2.2.2.2.1 2 rfl]; exact f2
  have e6 : fR h' 8 N = some A := by rw [EE.2.2.1]; exact f8
  have e7 : fI h' 11 N = nI (lO L (bst P L k)) := by rw [hS.2.2.2.2.2.1 11 rfl]; exact if_pos ⟨rfl, rfl⟩
  have o1 : aI h' 144 (m 144) = aI E 144 (m 144) := by rw [hS.2.2.2.2.2.2.1 144 rfl]; rfl
  have o2 : aI h' 145 (m 145) = aI E 145 (m 145) := by rw [hS.2.2.2.2.2.2.1 145 rfl]; rfl
  have o3 : aI h' 146 (m 146) = aI E 146 (m 146) := by rw [hS.2.2.2.2.2.2.1 146 rfl]; rfl
  have o4 : aI h' 147 (m 147) = aI E 147 (m 147) := by rw [hS.2.2.2.2.2.2.1 147 rfl]; rfl
  have o5 : aL h' 313 (m 313) = aL E 313 (m 313) := by rw [hS.2.2.2.2.2.2.2.1 313 (by decide)]; rfl
  have o6 : aL h' 399 A = aL E 399 A := by rw [hS.2.2.2.2.2.2.2.1 399 (by decide)]; rfl
  have xN : ¬ x = N := by
    intro w
    have := hB.1
    rw [w, e1] at this
    exact absurd this (by decide)
  have yN : ¬ y = N := by
    intro w
    have hA := hJ'.1
    unfold JM at hA
    have := hA.1
    rw [w, e1] at this
    exact absurd this (by decide)
  have o7 : fI h' 1408 y = fI E 1408 y := by rw [hS.2.2.2.2.2.1 1408 rfl]; rfl
  unfold b_X10_borrow_2 n_X10_borrow_100
  by_cases e : k < nm
  · have cc := cnF e (show nm ≤ 8 by omega) (by decide)
    have q := moF hJ' e
    obtain ⟨pl, hpl, epl⟩ := vp_ex (hW.w_mpl k e)
    have epl2 : (nI pl).toNatClampNeg = pl := nI_clamp (by omega)
    obtain ⟨mn, hmn, emn⟩ := rngN (N := 20) (hW.w_mn k e)
    have emn2 : (nI mn).toNatClampNeg = mn := nI_clamp (by omega)
    have skip : ∀ h2, eqS h' h2 → ¬ (P k ∧ 3 ≤ L k ∧ ∀ b, bst P L k = some b → L b < L k) → K (nI (k + 1)) h2 := by
      intro h2 e2 c2
      refine hK _ _ e ⟨?_, rfl⟩
      have : bst P L (k + 1) = bst P L k := by
        show iF (P k ∧ 3 ≤ L k ∧ ∀ b, bst P L k = some b → L b < L k) (some k) (bst P L k) = _
        exact iF_n c2 _ _
      rw [this]
      exact hS.tr e2
    have pk : P k = (aI h' 144 (m 144) k = c ∧ ¬ fI h' 1408 y < aI h' 146 (m 146) k + wy h' m pl p ∧ z ≤ 2 * L k) := by
      rw [← hP]
      unfold mayB
      rw [o1, o3, o7, wy_same hS, wy_Ebk, ← o2, epl, epl2]
    by_cases d1 : aI h' 144 (m 144) k = c
    rotate_left
    · have := skip h' (eqS.rf h') (fun w => d1 (by have w2 := w.1; rw [pk] at w2; exact w2.1))
      simp only [gI_e, gR_e, pI_e, pZ_e, pR_e, ldI_e, ldZ_e, ldL_e, ldR_e, stI_e, stZ_e, stL_e, stR_e, alN_e, nwA_e, nwO_e, dvI_e, rmI_e, oV_e, oN_e, lt_e, rZ_e, br_T, br_F, fR_sI, aI_sI, aL_sI, aR_sI, kd_sI, ln_sI, hn_sI, hm_sI, fI_sI_n, fI_sR, aI_sR, aL_sR, aR_sR, kd_sR, ln_sR, hn_sR, hm_sR, fR_sR_n, fI_tI, fR_tI, aL_tI, aR_tI, kd_tI, ln_tI, hn_tI, hm_tI, aI_tI_n, fI_tL, fR_tL, aI_tL, aR_tL, kd_tL, ln_tL, hn_tL, hm_tL, aL_tL_n, fI_tR, fR_tR, aI_tR, aL_tR, kd_tR, ln_tR, hn_tR, hm_tR, aR_tR_n, hn_nw, hm_nw, rc400, rc403, rc404, rc405, rc407, rc409, rc420, rc440, bI_0, bI_1, bI_T, bI_F, iF_T, iF_F, br_not, le_nlt, not_true_eq_false, not_false_eq_true, and_self, and_true, true_and, and_false, false_and, or_true, true_or, or_false, false_or, ne_eq, reduceCtorEq, Nat.reduceLeDiff, Nat.reduceEqDiff, Nat.reduceLT, Nat.reduceAdd, Nat.reduceSub, Nat.reduceMul, Int32.reduceLT, Int32.reduceLE, Int32.reduceToNatClampNeg, Int32.reduceAdd, Int32.reduceSub, implies_true, forall_const, isIn_e, bit_e, lits, hB, hC, cc, q, e1, e5, d1]
      exact this
    simp only [gI_e, gR_e, pI_e, pZ_e, pR_e, ldI_e, ldZ_e, ldL_e, ldR_e, stI_e, stZ_e, stL_e, stR_e, alN_e, nwA_e, nwO_e, dvI_e, rmI_e, oV_e, oN_e, lt_e, rZ_e, br_T, br_F, fR_sI, aI_sI, aL_sI, aR_sI, kd_sI, ln_sI, hn_sI, hm_sI, fI_sI_n, fI_sR, aI_sR, aL_sR, aR_sR, kd_sR, ln_sR, hn_sR, hm_sR, fR_sR_n, fI_tI, fR_tI, aL_tI, aR_tI, kd_tI, ln_tI, hn_tI, hm_tI, aI_tI_n, fI_tL, fR_tL, aI_tL, aR_tL, kd_tL, ln_tL, hn_tL, hm_tL, aL_tL_n, fI_tR, fR_tR, aI_tR, aL_tR, kd_tR, ln_tR, hn_tR, hm_tR, aR_tR_n, hn_nw, hm_nw, rc400, rc403, rc404, rc405, rc407, rc409, rc420, rc440, bI_0, bI_1, bI_T, bI_F, iF_T, iF_F, br_not, le_nlt, not_true_eq_false, not_false_eq_true, and_self, and_true, true_and, and_false, false_and, or_true, true_or, or_false, false_or, ne_eq, reduceCtorEq, Nat.reduceLeDiff, Nat.reduceEqDiff, Nat.reduceLT, Nat.reduceAdd, Nat.reduceSub, Nat.reduceMul, Int32.reduceLT, Int32.reduceLE, Int32.reduceToNatClampNeg, Int32.reduceAdd, Int32.reduceSub, implies_true, forall_const, isIn_e, bit_e, lits, hB, hC, cc, q, e1, e4, e5, d1, w_X10_dayOfReach, n_X10_dayOfReach_0, epl, epl2]
    refine wayBetween_e hJ' hpl hpp _ ?_
    by_cases d2 : fI h' 1408 y < aI h' 146 (m 146) k + wy h' m pl p
    · have := skip h' (eqS.rf h') (fun w => absurd d2 (by have w2 := w.1; rw [pk] at w2; exact w2.2.1))
      simp only [gI_e, gR_e, pI_e, pZ_e, pR_e, ldI_e, ldZ_e, ldL_e, ldR_e, stI_e, stZ_e, stL_e, stR_e, alN_e, nwA_e, nwO_e, dvI_e, rmI_e, oV_e, oN_e, lt_e, rZ_e, br_T, br_F, fR_sI, aI_sI, aL_sI, aR_sI, kd_sI, ln_sI, hn_sI, hm_sI, fI_sI_n, fI_sR, aI_sR, aL_sR, aR_sR, kd_sR, ln_sR, hn_sR, hm_sR, fR_sR_n, fI_tI, fR_tI, aL_tI, aR_tI, kd_tI, ln_tI, hn_tI, hm_tI, aI_tI_n, fI_tL, fR_tL, aI_tL, aR_tL, kd_tL, ln_tL, hn_tL, hm_tL, aL_tL_n, fI_tR, fR_tR, aI_tR, aL_tR, kd_tR, ln_tR, hn_tR, hm_tR, aR_tR_n, hn_nw, hm_nw, rc400, rc403, rc404, rc405, rc407, rc409, rc420, rc440, bI_0, bI_1, bI_T, bI_F, iF_T, iF_F, br_not, le_nlt, not_true_eq_false, not_false_eq_true, and_self, and_true, true_and, and_false, false_and, or_true, true_or, or_false, false_or, ne_eq, reduceCtorEq, Nat.reduceLeDiff, Nat.reduceEqDiff, Nat.reduceLT, Nat.reduceAdd, Nat.reduceSub, Nat.reduceMul, Int32.reduceLT, Int32.reduceLE, Int32.reduceToNatClampNeg, Int32.reduceAdd, Int32.reduceSub, implies_true, forall_const, isIn_e, bit_e, lits, hB, hC, cc, q, d2]
      exact this
    simp only [gI_e, gR_e, pI_e, pZ_e, pR_e, ldI_e, ldZ_e, ldL_e, ldR_e, stI_e, stZ_e, stL_e, stR_e, alN_e, nwA_e, nwO_e, dvI_e, rmI_e, oV_e, oN_e, lt_e, rZ_e, br_T, br_F, fR_sI, aI_sI, aL_sI, aR_sI, kd_sI, ln_sI, hn_sI, hm_sI, fI_sI_n, fI_sR, aI_sR, aL_sR, aR_sR, kd_sR, ln_sR, hn_sR, hm_sR, fR_sR_n, fI_tI, fR_tI, aL_tI, aR_tI, kd_tI, ln_tI, hn_tI, hm_tI, aI_tI_n, fI_tL, fR_tL, aI_tL, aR_tL, kd_tL, ln_tL, hn_tL, hm_tL, aL_tL_n, fI_tR, fR_tR, aI_tR, aL_tR, kd_tR, ln_tR, hn_tR, hm_tR, aR_tR_n, hn_nw, hm_nw, rc400, rc403, rc404, rc405, rc407, rc409, rc420, rc440, bI_0, bI_1, bI_T, bI_F, iF_T, iF_F, br_not, le_nlt, not_true_eq_false, not_false_eq_true, and_self, and_true, true_and, and_false, false_and, or_true, true_or, or_false, false_or, ne_eq, reduceCtorEq, Nat.reduceLeDiff, Nat.reduceEqDiff, Nat.reduceLT, Nat.reduceAdd, Nat.reduceSub, Nat.reduceMul, Int32.reduceLT, Int32.reduceLE, Int32.reduceToNatClampNeg, Int32.reduceAdd, Int32.reduceSub, implies_true, forall_const, isIn_e, bit_e, lits, hB, hC, cc, q, d2, e1, e6]
    refine likeOnes_e hJ' (n := z) (k := mn) e2 q.2.2.2.2.1 e3 (by rw [q.2.2.2.2.2.1, emn, emn2]) hz hmn _ ?_
    intro h2 s2
    have eL : cD (aL h' 399 A) (aL h' 399 (g 11 k)) z mn = L k := by
      rw [← hL]
      unfold likW
      rw [← o4, emn, emn2]
      refine cD_congr (fun i hi => by rw [o6]; exact k4 i hi) (fun j hj => ?_)
      have := hD.d_mwd k j e (by rw [emn, emn2]; exact hj)
      rw [this, o5]
    rw [eL]
    have E2 := eqS_l s2
    have z1 := L20 k
    have t1 : (nI (L k) < 3) = (L k < 3) := propext (nI_ltI (b := 3) (by omega) (by omega))
    by_cases d3 : L k < 3
    · have := skip h2 s2 (fun w => by have := w.2.1; omega)
      simp only [gI_e, gR_e, pI_e, pZ_e, pR_e, ldI_e, ldZ_e, ldL_e, ldR_e, stI_e, stZ_e, stL_e, stR_e, alN_e, nwA_e, nwO_e, dvI_e, rmI_e, oV_e, oN_e, lt_e, rZ_e, br_T, br_F, fR_sI, aI_sI, aL_sI, aR_sI, kd_sI, ln_sI, hn_sI, hm_sI, fI_sI_n, fI_sR, aI_sR, aL_sR, aR_sR, kd_sR, ln_sR, hn_sR, hm_sR, fR_sR_n, fI_tI, fR_tI, aL_tI, aR_tI, kd_tI, ln_tI, hn_tI, hm_tI, aI_tI_n, fI_tL, fR_tL, aI_tL, aR_tL, kd_tL, ln_tL, hn_tL, hm_tL, aL_tL_n, fI_tR, fR_tR, aI_tR, aL_tR, kd_tR, ln_tR, hn_tR, hm_tR, aR_tR_n, hn_nw, hm_nw, rc400, rc403, rc404, rc405, rc407, rc409, rc420, rc440, bI_0, bI_1, bI_T, bI_F, iF_T, iF_F, br_not, le_nlt, not_true_eq_false, not_false_eq_true, and_self, and_true, true_and, and_false, false_and, or_true, true_or, or_false, false_or, ne_eq, reduceCtorEq, Nat.reduceLeDiff, Nat.reduceEqDiff, Nat.reduceLT, Nat.reduceAdd, Nat.reduceSub, Nat.reduceMul, Int32.reduceLT, Int32.reduceLE, Int32.reduceToNatClampNeg, Int32.reduceAdd, Int32.reduceSub, implies_true, forall_const, isIn_e, bit_e, lits, t1, d3, cc]
      exact this
    have t2 : (2 * nI (L k) < nI z) = (2 * L k < z) := by
      rw [show (2 : Int32) = nI 2 from rfl, pk_mul]
      exact propext (nI_ltI (by omega) (by omega))
    have g1 : kd h2 N = 1 := by rw [E2.1]; exact e1
    have g6 : fR h2 8 N = some A := by rw [E2.2.2.1]; exact e6
    have g2 : kd h2 A = 399 := by rw [E2.1]; exact e2
    have g3 : ln h2 A = z := by rw [E2.2.1]; exact e3
    have an : ∀ K2 : Int32 → Prop, alN h2 (some A) K2 = K2 (nI z) := fun K2 => by rw [alN_e (by rw [g2]; decide) (fun w => by rw [g2] at w; exact absurd w (by decide)), g3]
    have g7 : fI h2 11 N = nI (lO L (bst P L k)) := by rw [s2.2.2.2.2.2.1 11 rfl]; exact e7
    by_cases d4 : 2 * L k < z
    · have := skip h2 s2 (fun w => by have w2 := w.1; rw [pk] at w2; have := w2.2.2; omega)
      simp (config := {decide := true}) only [gI_e, gR_e, pI_e, pZ_e, pR_e, ldI_e, ldZ_e, ldL_e, ldR_e, stI_e, stZ_e, stL_e, stR_e, alN_e, nwA_e, nwO_e, dvI_e, rmI_e, oV_e, oN_e, lt_e, rZ_e, br_T, br_F, fR_sI, aI_sI, aL_sI, aR_sI, kd_sI, ln_sI, hn_sI, hm_sI, fI_sI_n, fI_sR, aI_sR, aL_sR, aR_sR, kd_sR, ln_sR, hn_sR, hm_sR, fR_sR_n, fI_tI, fR_tI, aL_tI, aR_tI, kd_tI, ln_tI, hn_tI, hm_tI, aI_tI_n, fI_tL, fR_tL, aI_tL, aR_tL, kd_tL, ln_tL, hn_tL, hm_tL, aL_tL_n, fI_tR, fR_tR, aI_tR, aL_tR, kd_tR, ln_tR, hn_tR, hm_tR, aR_tR_n, hn_nw, hm_nw, rc400, rc403, rc404, rc405, rc407, rc409, rc420, rc440, bI_0, bI_1, bI_T, bI_F, iF_T, iF_F, br_not, le_nlt, not_true_eq_false, not_false_eq_true, and_self, and_true, true_and, and_false, false_and, or_true, true_or, or_false, false_or, ne_eq, reduceCtorEq, Nat.reduceLeDiff, Nat.reduceEqDiff, Nat.reduceLT, Nat.reduceAdd, Nat.reduceSub, Nat.reduceMul, Int32.reduceLT, Int32.reduceLE, Int32.reduceToNatClampNeg, Int32.reduceAdd, Int32.reduceSub, implies_true, forall_const, isIn_e, bit_e, lits, t1, d3, g1, g6, an, g2, g3, t2, d4, cc]
      exact this
    have lo : lO L (bst P L k) ≤ 20 := by
      cases bst P L k with
      | none => exact Nat.zero_le _
      | some b => exact Nat.le_trans (L20 b) hz
    have t3 : (nI (lO L (bst P L k)) < nI (L k)) = (lO L (bst P L k) < L k) := propext (nI_ltI (by omega) (by omega))
    have okP : P k := by rw [pk]; exact ⟨d1, d2, by omega⟩
    have bq : (∀ b, bst P L k = some b → L b < L k) ↔ lO L (bst P L k) < L k := by
      cases bst P L k with
      | none =>
        show _ ↔ 0 < L k
        exact ⟨fun _ => by omega, fun _ b w => by cases w⟩
      | some b =>
        show _ ↔ L b < L k
        exact ⟨fun w => w b rfl, fun w b2 e2 => by cases e2; exact w⟩
    by_cases d5 : lO L (bst P L k) < L k
    rotate_left
    · have := skip h2 s2 (fun w => d5 (bq.mp w.2.2))
      simp (config := {decide := true}) only [gI_e, gR_e, pI_e, pZ_e, pR_e, ldI_e, ldZ_e, ldL_e, ldR_e, stI_e, stZ_e, stL_e, stR_e, alN_e, nwA_e, nwO_e, dvI_e, rmI_e, oV_e, oN_e, lt_e, rZ_e, br_T, br_F, fR_sI, aI_sI, aL_sI, aR_sI, kd_sI, ln_sI, hn_sI, hm_sI, fI_sI_n, fI_sR, aI_sR, aL_sR, aR_sR, kd_sR, ln_sR, hn_sR, hm_sR, fR_sR_n, fI_tI, fR_tI, aL_tI, aR_tI, kd_tI, ln_tI, hn_tI, hm_tI, aI_tI_n, fI_tL, fR_tL, aI_tL, aR_tL, kd_tL, ln_tL, hn_tL, hm_tL, aL_tL_n, fI_tR, fR_tR, aI_tR, aL_tR, kd_tR, ln_tR, hn_tR, hm_tR, aR_tR_n, hn_nw, hm_nw, rc400, rc403, rc404, rc405, rc407, rc409, rc420, rc440, bI_0, bI_1, bI_T, bI_F, iF_T, iF_F, br_not, le_nlt, not_true_eq_false, not_false_eq_true, and_self, and_true, true_and, and_false, false_and, or_true, true_or, or_false, false_or, ne_eq, reduceCtorEq, Nat.reduceLeDiff, Nat.reduceEqDiff, Nat.reduceLT, Nat.reduceAdd, Nat.reduceSub, Nat.reduceMul, Int32.reduceLT, Int32.reduceLE, Int32.reduceToNatClampNeg, Int32.reduceAdd, Int32.reduceSub, implies_true, forall_const, isIn_e, bit_e, lits, t1, d3, g1, g6, an, g2, g3, t2, d4, g7, t3, d5, cc]
      exact this
    simp (config := {decide := true}) only [gI_e, gR_e, pI_e, pZ_e, pR_e, ldI_e, ldZ_e, ldL_e, ldR_e, stI_e, stZ_e, stL_e, stR_e, alN_e, nwA_e, nwO_e, dvI_e, rmI_e, oV_e, oN_e, lt_e, rZ_e, br_T, br_F, fR_sI, aI_sI, aL_sI, aR_sI, kd_sI, ln_sI, hn_sI, hm_sI, fI_sI_n, fI_sR, aI_sR, aL_sR, aR_sR, kd_sR, ln_sR, hn_sR, hm_sR, fR_sR_n, fI_tI, fR_tI, aL_tI, aR_tI, kd_tI, ln_tI, hn_tI, hm_tI, aI_tI_n, fI_tL, fR_tL, aI_tL, aR_tL, kd_tL, ln_tL, hn_tL, hm_tL, aL_tL_n, fI_tR, fR_tR, aI_tR, aL_tR, kd_tR, ln_tR, hn_tR, hm_tR, aR_tR_n, hn_nw, hm_nw, rc400, rc403, rc404, rc405, rc407, rc409, rc420, rc440, bI_0, bI_1, bI_T, bI_F, iF_T, iF_F, br_not, le_nlt, not_true_eq_false, not_false_eq_true, and_self, and_true, true_and, and_false, false_and, or_true, true_or, or_false, false_or, ne_eq, reduceCtorEq, Nat.reduceLeDiff, Nat.reduceEqDiff, Nat.reduceLT, Nat.reduceAdd, Nat.reduceSub, Nat.reduceMul, Int32.reduceLT, Int32.reduceLE, Int32.reduceToNatClampNeg, Int32.reduceAdd, Int32.reduceSub, implies_true, forall_const, isIn_e, bit_e, lits, t1, d3, g1, g6, an, g2, g3, t2, d4, g7, t3, d5, cc]
    refine hK _ _ e ⟨?_, rfl⟩
    have yes : bst P L (k + 1) = some k := by
      show iF (P k ∧ 3 ≤ L k ∧ ∀ b, bst P L k = some b → L b < L k) (some k) (bst P L k) = _
      exact iF_y ⟨okP, by omega, bq.mpr d5⟩ _ _
    rw [yes]
    rw [← Ebk_up E N (kO (bst P L k)) (kO (some k)) ((bst P L k).map (g 4)) ((some k).map (g 4)) (nI (lO L (bst P L k))) (nI (lO L (some k)))]
    exact eqS_sIb (eqS_sRb (eqS_sIb (hS.tr s2) 6 N _) 10 N _) 11 N _
  · obtain rfl : k = nm := by omega
    simp only [gI_e, gR_e, pI_e, pZ_e, pR_e, ldI_e, ldZ_e, ldL_e, ldR_e, stI_e, stZ_e, stL_e, stR_e, alN_e, nwA_e, nwO_e, dvI_e, rmI_e, oV_e, oN_e, lt_e, rZ_e, br_T, br_F, fR_sI, aI_sI, aL_sI, aR_sI, kd_sI, ln_sI, hn_sI, hm_sI, fI_sI_n, fI_sR, aI_sR, aL_sR, aR_sR, kd_sR, ln_sR, hn_sR, hm_sR, fR_sR_n, fI_tI, fR_tI, aL_tI, aR_tI, kd_tI, ln_tI, hn_tI, hm_tI, aI_tI_n, fI_tL, fR_tL, aI_tL, aR_tL, kd_tL, ln_tL, hn_tL, hm_tL, aL_tL_n, fI_tR, fR_tR, aI_tR, aL_tR, kd_tR, ln_tR, hn_tR, hm_tR, aR_tR_n, hn_nw, hm_nw, rc400, rc403, rc404, rc405, rc407, rc409, rc420, rc440, bI_0, bI_1, bI_T, bI_F, iF_T, iF_F, br_not, le_nlt, not_true_eq_false, not_false_eq_true, and_self, and_true, true_and, and_false, false_and, or_true, true_or, or_false, false_or, ne_eq, reduceCtorEq, Nat.reduceLeDiff, Nat.reduceEqDiff, Nat.reduceLT, Nat.reduceAdd, Nat.reduceSub, Nat.reduceMul, Int32.reduceLT, Int32.reduceLE, Int32.reduceToNatClampNeg, Int32.reduceAdd, Int32.reduceSub, implies_true, forall_const, isIn_e, bit_e, lits, hB, hC, lt_irr]
    exact hQ h' hS
end WRI4
