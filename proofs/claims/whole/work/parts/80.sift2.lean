section SIFU
variable {x y b0 s0 np na nm nr ne : Nat} {g : Nat → Nat → Nat} {m : Nat → Nat} {h h1 : Hp} {M : Nat → List Nat} {N : Nat}
theorem tf_sF : ∀ f, isSf f = false → tfF f = false := fun _ _ => rfl
theorem tf_sK : ∀ k, isSk k = false → tfK k = false := by
  intro f q
  unfold isSk at q
  unfold tfK
  simp at q ⊢
  omega
/-- how a group is to be joined: the class's letter for it -/
noncomputable def jnC (h : Hp) (m : Nat → Nat) (y np na p : Nat) (g : Nat → Nat → Nat) (ro : Option Nat) (L : List Nat) (k : Nat) : Int32 := iF (KPr h m y np na p g ro L k) (jnV (jdv h m ro)) (-1)
theorem siftOne_e (hJ : JA x y b0 s0 np na nm nr ne g m h) (hG : GQ h g na N M) (hN : N ≤ 128) {j : Nat} (hj : j < N) (hl : (M j).length ≤ 24) {p k r : Nat} (hp : p < np) (hk : k < 128) (hw : whN h m ((M j).getD 0 0) = k / 8) (hr : r < nr) (Q : Hp → Prop) (hQ : ∀ h', eqX sfF sfK h h' → aI h' 103 = aI h 103 → fI h' 1029 (g 0 8) = bI (KPr h m y np na p g (some r) (M j) k) → fI h' 1030 (g 0 8) = jnV (jdv h m (some r)) → Q h') : w_X10_tellFields (some x) (some (g 1 p)) (nI j) h (fun h => gR h (some x) 11 1288 fun v15 => gR h (some (g 5 r)) 8 899 fun v16 => gR h (some (g 5 r)) 8 899 fun v17 => alN h v17 fun v18 => oV h v15 9 <| w_X8_takeLetters v15 v16 v18 h <| fun h => gR h (some x) 11 1288 fun v20 => oV h v20 9 <| w_X8_readRule v20 h Q) := by
  have qr := ruF hJ hr
  have ok := hJ.2.2.2.2.2.2.1.e_ru r hr
  unfold ruleOK at ok
  obtain ⟨z60, o2, o3, o4, o5, o6, d, hd, o7, o8⟩ := ok
  refine tellC_e hJ hG hN hj hl hp hk hw _ ?_
  intro h1 e1 t1
  have eS1 := eqX.s tf_sF tf_sK e1
  have hJ1 := hJ.same eS1
  have hB1 := hJ1.2.1
  unfold JS at hB1
  have E1 := eqS_l eS1
  have q1 := ruF hJ1 hr
  have k12 : kd h1 (g 12 r) = 399 := q1.2.2.2.2.1
  have l12 : ln h1 (g 12 r) = ln h (g 12 r) := by simp only [E1]
  have an : ∀ K2 : Int32 → Prop, alN h1 (some (g 12 r)) K2 = K2 (nI (ln h (g 12 r))) := fun K2 => by rw [alN_e (by rw [k12]; decide) (fun w => by rw [k12] at w; exact absurd w (by decide)), l12]
  simp (config := {decide := true}) only [gI_e, gR_e, pI_e, pZ_e, pR_e, ldI_e, ldZ_e, ldL_e, ldR_e, stI_e, stZ_e, stL_e, stR_e, alN_e, nwA_e, nwO_e, dvI_e, rmI_e, oV_e, oN_e, lt_e, rZ_e, br_T, br_F, fR_sI, aI_sI, aL_sI, aR_sI, kd_sI, ln_sI, hn_sI, hm_sI, fI_sI_n, fI_sR, aI_sR, aL_sR, aR_sR, kd_sR, ln_sR, hn_sR, hm_sR, fR_sR_n, fI_tI, fR_tI, aL_tI, aR_tI, kd_tI, ln_tI, hn_tI, hm_tI, aI_tI_n, fI_tL, fR_tL, aI_tL, aR_tL, kd_tL, ln_tL, hn_tL, hm_tL, aL_tL_n, fI_tR, fR_tR, aI_tR, aL_tR, kd_tR, ln_tR, hn_tR, hm_tR, aR_tR_n, hn_nw, hm_nw, rc400, rc403, rc404, rc405, rc407, rc409, rc420, rc440, bI_0, bI_1, bI_T, bI_F, iF_T, iF_F, br_not, le_nlt, not_true_eq_false, not_false_eq_true, and_self, and_true, true_and, and_false, false_and, or_true, true_or, or_false, false_or, ne_eq, reduceCtorEq, Nat.reduceLeDiff, Nat.reduceEqDiff, Nat.reduceLT, Nat.reduceAdd, Nat.reduceSub, Nat.reduceMul, Int32.reduceLT, Int32.reduceLE, Int32.reduceToNatClampNeg, Int32.reduceAdd, Int32.reduceSub, implies_true, forall_const, isIn_e, bit_e, lits, hB1, q1, an]
  refine takeL_e hJ1.2.1 (by rw [k12]; decide) (by rw [l12]; exact Nat.le_refl _) (by rw [l12]; exact z60) _ ?_
  intro h2 e2 n2 a2
  have eS2 := eS1.tr (eqX.s tl_sF tl_sK e2)
  have hJ2 := hJ.same eS2
  have hB2 := hJ2.2.1
  unfold JS at hB2
  rw [k12] at a2
  have al1 : aL h1 399 = aL h 399 := by simp only [E1]
  rw [al1] at a2
  have bc : BC x g (fun j => (aL h 399 (g 12 r) j).toInt32) (vaF h m y np na (M j) p k) (ln h (g 12 r)) h2 := by
    refine ⟨hJ2.2.1, z60, n2, a2, fun i hi => ?_⟩
    rw [e2.2.2.2.2.2.2.1 109 rfl]
    exact t1 i hi
  simp (config := {decide := true}) only [gI_e, gR_e, pI_e, pZ_e, pR_e, ldI_e, ldZ_e, ldL_e, ldR_e, stI_e, stZ_e, stL_e, stR_e, alN_e, nwA_e, nwO_e, dvI_e, rmI_e, oV_e, oN_e, lt_e, rZ_e, br_T, br_F, fR_sI, aI_sI, aL_sI, aR_sI, kd_sI, ln_sI, hn_sI, hm_sI, fI_sI_n, fI_sR, aI_sR, aL_sR, aR_sR, kd_sR, ln_sR, hn_sR, hm_sR, fR_sR_n, fI_tI, fR_tI, aL_tI, aR_tI, kd_tI, ln_tI, hn_tI, hm_tI, aI_tI_n, fI_tL, fR_tL, aI_tL, aR_tL, kd_tL, ln_tL, hn_tL, hm_tL, aL_tL_n, fI_tR, fR_tR, aI_tR, aL_tR, kd_tR, ln_tR, hn_tR, hm_tR, aR_tR_n, hn_nw, hm_nw, rc400, rc403, rc404, rc405, rc407, rc409, rc420, rc440, bI_0, bI_1, bI_T, bI_F, iF_T, iF_F, br_not, le_nlt, not_true_eq_false, not_false_eq_true, and_self, and_true, true_and, and_false, false_and, or_true, true_or, or_false, false_or, ne_eq, reduceCtorEq, Nat.reduceLeDiff, Nat.reduceEqDiff, Nat.reduceLT, Nat.reduceAdd, Nat.reduceSub, Nat.reduceMul, Int32.reduceLT, Int32.reduceLE, Int32.reduceToNatClampNeg, Int32.reduceAdd, Int32.reduceSub, implies_true, forall_const, isIn_e, bit_e, lits, hB2]
  refine rdRule_e bc _ ?_
  intro h3 e3 f3 k3 j3
  refine hQ h3 (((eqX.up tf_fF tf_fK e1).tr (eqX.up tl_fF tl_fK e2)).tr (eqX.up rr_fF rr_fK e3)) ?_ ?_ ?_
  · rw [e3.2.2.2.2.2.2.1 103 rfl, e2.2.2.2.2.2.2.1 103 rfl, e1.2.2.2.2.2.2.1 103 rfl]
  · rw [k3]
    have e : KPr h m y np na p g (some r) (M j) k = (grA (grN (fun j => (aL h 399 (g 12 r) j).toInt32) (ln h (g 12 r)))).2.2.2 (gtE (vaF h m y np na (M j) p k)) := propext ⟨fun w => w r rfl, fun w r2 e => by cases e; exact w⟩
    rw [e]
  · rw [j3, o8]
    show jnV d = jnV ((aI h 152 (m 152) r).toNatClampNeg - 1)
    rw [o7, nI_clamp (by omega), Nat.add_sub_cancel]
theorem sift_e (hJ : JA x y b0 s0 np na nm nr ne g m h) (hG : GQ h g na N M) (hN : N ≤ 128) (hl : ∀ j, j < N → (M j).length ≤ 24) {CC : Nat → Nat} (hw : ∀ j, j < N → CC j < 128 ∧ whN h m ((M j).getD 0 0) = CC j / 8) {p : Nat} (hp : p < np) (Q : Int32 → Hp → Prop) (hQ : ∀ h', eqX sfF sfK h h' → (∀ j, j < N → aI h' 103 (g 0 16) j = jnC h m y np na p g (frc (rOK h m (aI h 120 (m 120) p) (fI h 1408 y)) (aI h 149 (m 149)) nr) (M j) (CC j)) → Q (nI (cN (fun j => KPr h m y np na p g (frc (rOK h m (aI h 120 (m 120) p) (fI h 1408 y)) (aI h 149 (m 149)) nr) (M j) (CC j)) N)) h') : w_X10_sift (some x) (some (g 1 p)) h Q := by
  have hB := hJ.2.1
  unfold JS at hB
  have hC := hJ.2.2.1.1
  have qp := plF hJ hp
  have hbd := hJ.2.2.1.2
  unfold w_X10_sift n_X10_sift_0
  simp (config := {decide := true}) only [gI_e, gR_e, pI_e, pZ_e, pR_e, ldI_e, ldZ_e, ldL_e, ldR_e, stI_e, stZ_e, stL_e, stR_e, alN_e, nwA_e, nwO_e, dvI_e, rmI_e, oV_e, oN_e, lt_e, rZ_e, br_T, br_F, fR_sI, aI_sI, aL_sI, aR_sI, kd_sI, ln_sI, hn_sI, hm_sI, fI_sI_n, fI_sR, aI_sR, aL_sR, aR_sR, kd_sR, ln_sR, hn_sR, hm_sR, fR_sR_n, fI_tI, fR_tI, aL_tI, aR_tI, kd_tI, ln_tI, hn_tI, hm_tI, aI_tI_n, fI_tL, fR_tL, aI_tL, aR_tL, kd_tL, ln_tL, hn_tL, hm_tL, aL_tL_n, fI_tR, fR_tR, aI_tR, aL_tR, kd_tR, ln_tR, hn_tR, hm_tR, aR_tR_n, hn_nw, hm_nw, rc400, rc403, rc404, rc405, rc407, rc409, rc420, rc440, bI_0, bI_1, bI_T, bI_F, iF_T, iF_F, br_not, le_nlt, not_true_eq_false, not_false_eq_true, and_self, and_true, true_and, and_false, false_and, or_true, true_or, or_false, false_or, ne_eq, reduceCtorEq, Nat.reduceLeDiff, Nat.reduceEqDiff, Nat.reduceLT, Nat.reduceAdd, Nat.reduceSub, Nat.reduceMul, Int32.reduceLT, Int32.reduceLE, Int32.reduceToNatClampNeg, Int32.reduceAdd, Int32.reduceSub, implies_true, forall_const, isIn_e, bit_e, lits, hB, hC, qp]
  refine ruleInForce_e hJ _ _ _ ?_
  have rlt : ∀ r, frc (rOK h m (aI h 120 (m 120) p) (fI h 1408 y)) (aI h 149 (m 149)) nr = some r → r < nr := fun r e => frc_lt e
  generalize frc (rOK h m (aI h 120 (m 120) p) (fI h 1408 y)) (aI h 149 (m 149)) nr = ro at *
  unfold l_X10_sift_18
  refine Lo.count N (fun j st h' => eqX sfF sfK h h' ∧ st = (nI (cN (fun j => KPr h m y np na p g ro (M j) (CC j)) j), nI j) ∧ ∀ i, i < j → aI h' 103 (g 0 16) i = jnC h m y np na p g ro (M i) (CC i)) ?_ 0 (Nat.zero_le _) _ _ ⟨eqX.rf h, rfl, fun i hi => absurd hi (Nat.not_lt_zero _)⟩
  rintro j st h' hj ⟨eX, rfl, hT⟩ K hK
  have eS := eqX.s sf_sF sf_sK eX
  have hJ' := hJ.same eS
  have hB' := hJ'.2.1
  unfold JS at hB'
  have hG' := hG.xx eX rfl rfl
  have hn := hG'.1
  unfold b_X10_sift_18
  by_cases e : j < N
  rotate_left
  · obtain rfl : j = N := by omega
    simp (config := {decide := true}) only [gI_e, gR_e, pI_e, pZ_e, pR_e, ldI_e, ldZ_e, ldL_e, ldR_e, stI_e, stZ_e, stL_e, stR_e, alN_e, nwA_e, nwO_e, dvI_e, rmI_e, oV_e, oN_e, lt_e, rZ_e, br_T, br_F, fR_sI, aI_sI, aL_sI, aR_sI, kd_sI, ln_sI, hn_sI, hm_sI, fI_sI_n, fI_sR, aI_sR, aL_sR, aR_sR, kd_sR, ln_sR, hn_sR, hm_sR, fR_sR_n, fI_tI, fR_tI, aL_tI, aR_tI, kd_tI, ln_tI, hn_tI, hm_tI, aI_tI_n, fI_tL, fR_tL, aI_tL, aR_tL, kd_tL, ln_tL, hn_tL, hm_tL, aL_tL_n, fI_tR, fR_tR, aI_tR, aL_tR, kd_tR, ln_tR, hn_tR, hm_tR, aR_tR_n, hn_nw, hm_nw, rc400, rc403, rc404, rc405, rc407, rc409, rc420, rc440, bI_0, bI_1, bI_T, bI_F, iF_T, iF_F, br_not, le_nlt, not_true_eq_false, not_false_eq_true, and_self, and_true, true_and, and_false, false_and, or_true, true_or, or_false, false_or, ne_eq, reduceCtorEq, Nat.reduceLeDiff, Nat.reduceEqDiff, Nat.reduceLT, Nat.reduceAdd, Nat.reduceSub, Nat.reduceMul, Int32.reduceLT, Int32.reduceLE, Int32.reduceToNatClampNeg, Int32.reduceAdd, Int32.reduceSub, implies_true, forall_const, isIn_e, bit_e, lits, hB', hn, lt_irr]
    exact hQ h' eX hT
  have c := cnF e (show N ≤ 160 by omega) (by decide)
  have cle := cN_le (fun j => KPr h m y np na p g ro (M j) (CC j)) j
  have eX1 : eqX sfF sfK h (tI h' 103 (g 0 16) j 120) := eX.tI rfl _ _ _
  -- the end of a turn
  have fin : ∀ h2 : Hp, eqX sfF sfK h h2 → (∀ i, i < j → aI h2 103 (g 0 16) i = jnC h m y np na p g ro (M i) (CC i)) → aI h2 103 (g 0 16) j = jnC h m y np na p g ro (M j) (CC j) → n_X10_sift_107 (some x) (some (g 1 p)) (ro.map (g 5)) (nI (cN (fun j => KPr h m y np na p g ro (M j) (CC j)) j)) (nI j) h2 Q (fun l3 l4 h => K (l3, l4) h) := by
    intro h2 eX2 T2 V2
    have hJ2 := hJ.same (eqX.s sf_sF sf_sK eX2)
    have hB2 := hJ2.2.1
    unfold JS at hB2
    have T3 : ∀ i, i < j + 1 → aI h2 103 (g 0 16) i = jnC h m y np na p g ro (M i) (CC i) := fun i hi => by
      by_cases z : i = j
      · rw [z]; exact V2
      · exact T2 i (by omega)
    unfold n_X10_sift_107 n_X10_sift_127
    unfold jnC at V2
    by_cases w : KPr h m y np na p g ro (M j) (CC j)
    · rw [iF_y w] at V2
      have nm : ¬ jnV (jdv h m ro) = -1 := by
        unfold jnV
        split
        · decide
        · split <;> decide
      have hk := hK _ _ e ⟨eX2, rfl, T3⟩
      rw [cN_y (P := fun j => KPr h m y np na p g ro (M j) (CC j)) w] at hk
      simp (config := {decide := true}) only [gI_e, gR_e, pI_e, pZ_e, pR_e, ldI_e, ldZ_e, ldL_e, ldR_e, stI_e, stZ_e, stL_e, stR_e, alN_e, nwA_e, nwO_e, dvI_e, rmI_e, oV_e, oN_e, lt_e, rZ_e, br_T, br_F, fR_sI, aI_sI, aL_sI, aR_sI, kd_sI, ln_sI, hn_sI, hm_sI, fI_sI_n, fI_sR, aI_sR, aL_sR, aR_sR, kd_sR, ln_sR, hn_sR, hm_sR, fR_sR_n, fI_tI, fR_tI, aL_tI, aR_tI, kd_tI, ln_tI, hn_tI, hm_tI, aI_tI_n, fI_tL, fR_tL, aI_tL, aR_tL, kd_tL, ln_tL, hn_tL, hm_tL, aL_tL_n, fI_tR, fR_tR, aI_tR, aL_tR, kd_tR, ln_tR, hn_tR, hm_tR, aR_tR_n, hn_nw, hm_nw, rc400, rc403, rc404, rc405, rc407, rc409, rc420, rc440, bI_0, bI_1, bI_T, bI_F, iF_T, iF_F, br_not, le_nlt, not_true_eq_false, not_false_eq_true, and_self, and_true, true_and, and_false, false_and, or_true, true_or, or_false, false_or, ne_eq, reduceCtorEq, Nat.reduceLeDiff, Nat.reduceEqDiff, Nat.reduceLT, Nat.reduceAdd, Nat.reduceSub, Nat.reduceMul, Int32.reduceLT, Int32.reduceLE, Int32.reduceToNatClampNeg, Int32.reduceAdd, Int32.reduceSub, implies_true, forall_const, isIn_e, bit_e, lits, hB2, c, V2, nm, n1]
      exact hk
    · rw [iF_n w] at V2
      have hk := hK _ _ e ⟨eX2, rfl, T3⟩
      rw [cN_n (P := fun j => KPr h m y np na p g ro (M j) (CC j)) w] at hk
      simp (config := {decide := true}) only [gI_e, gR_e, pI_e, pZ_e, pR_e, ldI_e, ldZ_e, ldL_e, ldR_e, stI_e, stZ_e, stL_e, stR_e, alN_e, nwA_e, nwO_e, dvI_e, rmI_e, oV_e, oN_e, lt_e, rZ_e, br_T, br_F, fR_sI, aI_sI, aL_sI, aR_sI, kd_sI, ln_sI, hn_sI, hm_sI, fI_sI_n, fI_sR, aI_sR, aL_sR, aR_sR, kd_sR, ln_sR, hn_sR, hm_sR, fR_sR_n, fI_tI, fR_tI, aL_tI, aR_tI, kd_tI, ln_tI, hn_tI, hm_tI, aI_tI_n, fI_tL, fR_tL, aI_tL, aR_tL, kd_tL, ln_tL, hn_tL, hm_tL, aL_tL_n, fI_tR, fR_tR, aI_tR, aL_tR, kd_tR, ln_tR, hn_tR, hm_tR, aR_tR_n, hn_nw, hm_nw, rc400, rc403, rc404, rc405, rc407, rc409, rc420, rc440, bI_0, bI_1, bI_T, bI_F, iF_T, iF_F, br_not, le_nlt, not_true_eq_false, not_false_eq_true, and_self, and_true, true_and, and_false, false_and, or_true, true_or, or_false, false_or, ne_eq, reduceCtorEq, Nat.reduceLeDiff, Nat.reduceEqDiff, Nat.reduceLT, Nat.reduceAdd, Nat.reduceSub, Nat.reduceMul, Int32.reduceLT, Int32.reduceLE, Int32.reduceToNatClampNeg, Int32.reduceAdd, Int32.reduceSub, implies_true, forall_const, isIn_e, bit_e, lits, hB2, c, V2, Int32.add_zero]
      exact hk
  have T1 : ∀ i, i < j → aI (tI h' 103 (g 0 16) j 120) 103 (g 0 16) i = jnC h m y np na p g ro (M i) (CC i) := fun i hi => by
    rw [aI_tI_e, if_neg (by omega)]
    exact hT i hi
  cases ro with
  | none =>
    have yes : KPr h m y np na p g none (M j) (CC j) := fun r z => by cases z
    have f := fin _ eX1 T1 (by
      unfold jnC
      rw [iF_y yes, aI_tI_e, if_pos ⟨rfl, rfl⟩]
      rfl)
    have f2 : n_X10_sift_107 (some x) (some (g 1 p)) none (nI (cN (fun j => KPr h m y np na p g none (M j) (CC j)) j)) (nI j) (tI h' 103 (g 0 16) j 120) Q (fun l3 l4 h => K (l3, l4) h) := f
    have e0 : (none : Option Nat).map (g 5) = none := rfl
    simp (config := {decide := true}) only [gI_e, gR_e, pI_e, pZ_e, pR_e, ldI_e, ldZ_e, ldL_e, ldR_e, stI_e, stZ_e, stL_e, stR_e, alN_e, nwA_e, nwO_e, dvI_e, rmI_e, oV_e, oN_e, lt_e, rZ_e, br_T, br_F, fR_sI, aI_sI, aL_sI, aR_sI, kd_sI, ln_sI, hn_sI, hm_sI, fI_sI_n, fI_sR, aI_sR, aL_sR, aR_sR, kd_sR, ln_sR, hn_sR, hm_sR, fR_sR_n, fI_tI, fR_tI, aL_tI, aR_tI, kd_tI, ln_tI, hn_tI, hm_tI, aI_tI_n, fI_tL, fR_tL, aI_tL, aR_tL, kd_tL, ln_tL, hn_tL, hm_tL, aL_tL_n, fI_tR, fR_tR, aI_tR, aL_tR, kd_tR, ln_tR, hn_tR, hm_tR, aR_tR_n, hn_nw, hm_nw, rc400, rc403, rc404, rc405, rc407, rc409, rc420, rc440, bI_0, bI_1, bI_T, bI_F, iF_T, iF_F, br_not, le_nlt, not_true_eq_false, not_false_eq_true, and_self, and_true, true_and, and_false, false_and, or_true, true_or, or_false, false_or, ne_eq, reduceCtorEq, Nat.reduceLeDiff, Nat.reduceEqDiff, Nat.reduceLT, Nat.reduceAdd, Nat.reduceSub, Nat.reduceMul, Int32.reduceLT, Int32.reduceLE, Int32.reduceToNatClampNeg, Int32.reduceAdd, Int32.reduceSub, implies_true, forall_const, isIn_e, bit_e, lits, hB', hn, c, e0]
    exact f2
  | some r =>
    have hr := rlt r rfl
    have hJ1 := hJ.same (eqX.s sf_sF sf_sK eX1)
    have hB1 := hJ1.2.1
    unfold JS at hB1
    have hG1 := hG.xx eX1 rfl rfl
    obtain ⟨w1, w2⟩ := hw j e
    have e0 : (some r).map (g 5) = some (g 5 r) := rfl
    rw [e0] at fin
    have q1 := ruF hJ1 hr
    simp (config := {decide := true}) only [gI_e, gR_e, pI_e, pZ_e, pR_e, ldI_e, ldZ_e, ldL_e, ldR_e, stI_e, stZ_e, stL_e, stR_e, alN_e, nwA_e, nwO_e, dvI_e, rmI_e, oV_e, oN_e, lt_e, rZ_e, br_T, br_F, fR_sI, aI_sI, aL_sI, aR_sI, kd_sI, ln_sI, hn_sI, hm_sI, fI_sI_n, fI_sR, aI_sR, aL_sR, aR_sR, kd_sR, ln_sR, hn_sR, hm_sR, fR_sR_n, fI_tI, fR_tI, aL_tI, aR_tI, kd_tI, ln_tI, hn_tI, hm_tI, aI_tI_n, fI_tL, fR_tL, aI_tL, aR_tL, kd_tL, ln_tL, hn_tL, hm_tL, aL_tL_n, fI_tR, fR_tR, aI_tR, aL_tR, kd_tR, ln_tR, hn_tR, hm_tR, aR_tR_n, hn_nw, hm_nw, rc400, rc403, rc404, rc405, rc407, rc409, rc420, rc440, bI_0, bI_1, bI_T, bI_F, iF_T, iF_F, br_not, le_nlt, not_true_eq_false, not_false_eq_true, and_self, and_true, true_and, and_false, false_and, or_true, true_or, or_false, false_or, ne_eq, reduceCtorEq, Nat.reduceLeDiff, Nat.reduceEqDiff, Nat.reduceLT, Nat.reduceAdd, Nat.reduceSub, Nat.reduceMul, Int32.reduceLT, Int32.reduceLE, Int32.reduceToNatClampNeg, Int32.reduceAdd, Int32.reduceSub, implies_true, forall_const, isIn_e, bit_e, lits, hB', hn, c, e0]
    refine siftOne_e hJ1 hG1 hN e (hl j e) hp w1 (by rw [whN_same (eqX.s sf_sF sf_sK eX1)]; exact w2) hr _ ?_
    intro h2 e2 a2 k2 j2
    have eX2 := eX1.tr e2
    have hJ2 := hJ.same (eqX.s sf_sF sf_sK eX2)
    have hB2 := hJ2.2.1
    unfold JS at hB2
    have kp : KPr (tI h' 103 (g 0 16) j 120) m y np na p g (some r) (M j) (CC j) = KPr h m y np na p g (some r) (M j) (CC j) := by
      have E1 := eqS_l (eqX.s sf_sF sf_sK eX1)
      unfold KPr
      rw [vaF_S (eqX.s sf_sF sf_sK eX1)]
      simp only [E1]
    have jd : jdv (tI h' 103 (g 0 16) j 120) m (some r) = jdv h m (some r) := by
      have E1 := eqS_l (eqX.s sf_sF sf_sK eX1)
      unfold jdv
      simp only [E1]
    rw [kp] at k2
    rw [jd] at j2
    unfold n_X10_sift_106
    have go : ∀ v, jnC h m y np na p g (some r) (M j) (CC j) = v → n_X10_sift_107 (some x) (some (g 1 p)) (some (g 5 r)) (nI (cN (fun j => KPr h m y np na p g (some r) (M j) (CC j)) j)) (nI j) (tI h2 103 (g 0 16) j v) Q (fun l3 l4 h => K (l3, l4) h) := fun v ev => fin _ (eX2.tI rfl _ _ _) (fun i hi => by
      rw [aI_tI_e, if_neg (by omega), a2]
      exact T1 i hi) (by rw [aI_tI_e, if_pos ⟨rfl, rfl⟩, ev])
    by_cases w : KPr h m y np na p g (some r) (M j) (CC j)
    · rw [bI_y w] at k2
      have := go (jnV (jdv h m (some r))) (iF_y w _ _)
      simp (config := {decide := true}) only [gI_e, gR_e, pI_e, pZ_e, pR_e, ldI_e, ldZ_e, ldL_e, ldR_e, stI_e, stZ_e, stL_e, stR_e, alN_e, nwA_e, nwO_e, dvI_e, rmI_e, oV_e, oN_e, lt_e, rZ_e, br_T, br_F, fR_sI, aI_sI, aL_sI, aR_sI, kd_sI, ln_sI, hn_sI, hm_sI, fI_sI_n, fI_sR, aI_sR, aL_sR, aR_sR, kd_sR, ln_sR, hn_sR, hm_sR, fR_sR_n, fI_tI, fR_tI, aL_tI, aR_tI, kd_tI, ln_tI, hn_tI, hm_tI, aI_tI_n, fI_tL, fR_tL, aI_tL, aR_tL, kd_tL, ln_tL, hn_tL, hm_tL, aL_tL_n, fI_tR, fR_tR, aI_tR, aL_tR, kd_tR, ln_tR, hn_tR, hm_tR, aR_tR_n, hn_nw, hm_nw, rc400, rc403, rc404, rc405, rc407, rc409, rc420, rc440, bI_0, bI_1, bI_T, bI_F, iF_T, iF_F, br_not, le_nlt, not_true_eq_false, not_false_eq_true, and_self, and_true, true_and, and_false, false_and, or_true, true_or, or_false, false_or, ne_eq, reduceCtorEq, Nat.reduceLeDiff, Nat.reduceEqDiff, Nat.reduceLT, Nat.reduceAdd, Nat.reduceSub, Nat.reduceMul, Int32.reduceLT, Int32.reduceLE, Int32.reduceToNatClampNeg, Int32.reduceAdd, Int32.reduceSub, implies_true, forall_const, isIn_e, bit_e, lits, hB2, c, k2, j2]
      exact this
    · rw [bI_n w] at k2
      have := go (-1) (iF_n w _ _)
      simp (config := {decide := true}) only [gI_e, gR_e, pI_e, pZ_e, pR_e, ldI_e, ldZ_e, ldL_e, ldR_e, stI_e, stZ_e, stL_e, stR_e, alN_e, nwA_e, nwO_e, dvI_e, rmI_e, oV_e, oN_e, lt_e, rZ_e, br_T, br_F, fR_sI, aI_sI, aL_sI, aR_sI, kd_sI, ln_sI, hn_sI, hm_sI, fI_sI_n, fI_sR, aI_sR, aL_sR, aR_sR, kd_sR, ln_sR, hn_sR, hm_sR, fR_sR_n, fI_tI, fR_tI, aL_tI, aR_tI, kd_tI, ln_tI, hn_tI, hm_tI, aI_tI_n, fI_tL, fR_tL, aI_tL, aR_tL, kd_tL, ln_tL, hn_tL, hm_tL, aL_tL_n, fI_tR, fR_tR, aI_tR, aL_tR, kd_tR, ln_tR, hn_tR, hm_tR, aR_tR_n, hn_nw, hm_nw, rc400, rc403, rc404, rc405, rc407, rc409, rc420, rc440, bI_0, bI_1, bI_T, bI_F, iF_T, iF_F, br_not, le_nlt, not_true_eq_false, not_false_eq_true, and_self, and_true, true_and, and_false, false_and, or_true, true_or, or_false, false_or, ne_eq, reduceCtorEq, Nat.reduceLeDiff, Nat.reduceEqDiff, Nat.reduceLT, Nat.reduceAdd, Nat.reduceSub, Nat.reduceMul, Int32.reduceLT, Int32.reduceLE, Int32.reduceToNatClampNeg, Int32.reduceAdd, Int32.reduceSub, implies_true, forall_const, isIn_e, bit_e, lits, hB2, c, k2]
      exact this
end SIFU
