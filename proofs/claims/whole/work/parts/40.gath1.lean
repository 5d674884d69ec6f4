theorem fL_0 {P : Nat → Prop} : ∀ {n : Nat}, (∀ i, i < n → ¬ P i) → fL P n = [] := by
  intro n
  induction n with
  | zero => intro _; rfl
  | succ n ih =>
    intro h
    rw [fL_n (h n (by omega))]
    exact ih (fun i hi => h i (by omega))
theorem fL_1 {P : Nat → Prop} : ∀ {n : Nat}, (∀ i j, i < n → j < n → P i → P j → i = j) → (fL P n).length ≤ 1 := by
  intro n
  induction n with
  | zero => intro _; exact Nat.zero_le _
  | succ n ih =>
    intro h
    by_cases c : P n
    · rw [fL_y c, fL_0 (fun i hi w => by have := h i n (by omega) (by omega) w c; omega)]
      exact Nat.le_refl 1
    · rw [fL_n c]
      exact ih (fun i j hi hj => h i j (by omega) (by omega))
section GATH
variable {x y b0 s0 np na nm nr ne : Nat} {g : Nat → Nat → Nat} {m : Nat → Nat} {h : Hp}
/-- a standing book of a place, for one WHAT and WHOM -/
def gaP (h : Hp) (m : Nat → Nat) (k q b : Nat) : Prop := aI h 132 (m 132) b = nI q ∧ 8 * aI h 133 (m 133) b + aI h 134 (m 134) b = nI k ∧ stN h m b
/-- what a place gathers of one WHAT and WHOM, by the places below it -/
noncomputable def gaL (h : Hp) (m : Nat → Nat) (na u k : Nat) : Nat → List Nat
  | 0 => []
  | q + 1 => gaL h m na u k q ++ (iF (aI h 121 (m 121) q = nI u) (fL (gaP h m k q) na) [])
theorem codeW_e (hW : JW y np na nm nr ne m h) {b : Nat} (hb : b < na) : ∃ w v, w < 16 ∧ v < 8 ∧ aI h 133 (m 133) b = nI w ∧ aI h 134 (m 134) b = nI v ∧ 8 * aI h 133 (m 133) b + aI h 134 (m 134) b = nI (8 * w + v) := by
  obtain ⟨w, w1, w2⟩ := vp_ex (hW.w_wha b hb)
  obtain ⟨v, v1, v2⟩ := vp_ex (hW.w_who b hb)
  refine ⟨w, v, w1, v1, w2, v2, ?_⟩
  rw [w2, v2, show (8 : Int32) = nI 8 from rfl, pk_mul, nI_add]
theorem gaP_one (hW : JW y np na nm nr ne m h) (k q : Nat) : ∀ i j, i < na → j < na → gaP h m k q i → gaP h m k q j → i = j := by
  intro i j hi hj a b
  obtain ⟨w, v, w1, v1, e1, e2, e3⟩ := codeW_e hW hi
  obtain ⟨w', v', w1', v1', e1', e2', e3'⟩ := codeW_e hW hj
  have e : nI (8 * w + v) = nI (8 * w' + v') := by rw [← e3, ← e3', a.2.1, b.2.1]
  have := (nI_eq (by omega) (by omega)).mp e
  have ew : w = w' := by omega
  have ev : v = v' := by omega
  exact hW.w_one i j hi hj (a.1.trans b.1.symm) (by rw [e1, e1', ew]) (by rw [e2, e2', ev]) a.2.2.1 b.2.2.1
theorem gaL_len (hW : JW y np na nm nr ne m h) (u k : Nat) : ∀ q, (gaL h m na u k q).length ≤ q := by
  intro q
  induction q with
  | zero => exact Nat.le_refl 0
  | succ q ih =>
    show (gaL h m na u k q ++ _).length ≤ _
    rw [List.length_append]
    by_cases c : aI h 121 (m 121) q = nI u
    · rw [iF_y c]
      have := fL_1 (gaP_one hW k q)
      omega
    · rw [iF_n c]
      show _ + 0 ≤ _
      omega
/-- the reference has gathered these -/
def GG (h : Hp) (m : Nat → Nat) (y : Nat) (L : List Nat) : Prop := fI h 1479 y = nI L.length ∧ ∀ i, i < L.length → aI h 164 (m 164) i = nI (L.getD i 0)
theorem gathersR_e (hR : RJ y np na nm nr ne m h) {u k : Nat} (hx : ¬ aI h 121 (m 121) (m 0) = nI u ∨ np ≤ m 0) (Q : Int32 → Hp → Prop) (hQ : ∀ h', eqS h h' → GG h' m y (gaL h m na u k np) → Q (nI (gaL h m na u k np).length) h') : w_X11_gathers (some y) (nI u) (nI k) h Q := by
  have hA0 := hR.1
  unfold JM at hA0
  have hW := hR.2.2.2
  have hbd := hR.2.2.1
  unfold w_X11_gathers n_X11_gathers_0
  simp only [gI_e, gR_e, pI_e, pZ_e, pR_e, ldI_e, ldZ_e, ldL_e, ldR_e, stI_e, stZ_e, stL_e, stR_e, alN_e, nwA_e, nwO_e, dvI_e, rmI_e, oV_e, oN_e, lt_e, rZ_e, br_T, br_F, fR_sI, aI_sI, aL_sI, aR_sI, kd_sI, ln_sI, hn_sI, hm_sI, fI_sI_n, fI_sR, aI_sR, aL_sR, aR_sR, kd_sR, ln_sR, hn_sR, hm_sR, fR_sR_n, fI_tI, fR_tI, aL_tI, aR_tI, kd_tI, ln_tI, hn_tI, hm_tI, aI_tI_n, fI_tL, fR_tL, aI_tL, aR_tL, kd_tL, ln_tL, hn_tL, hm_tL, aL_tL_n, fI_tR, fR_tR, aI_tR, aL_tR, kd_tR, ln_tR, hn_tR, hm_tR, aR_tR_n, hn_nw, hm_nw, rc400, rc403, rc404, rc405, rc407, rc409, rc420, rc440, bI_0, bI_1, bI_T, bI_F, iF_T, iF_F, br_not, le_nlt, not_true_eq_false, not_false_eq_true, and_self, and_true, true_and, and_false, false_and, or_true, true_or, or_false, false_or, ne_eq, reduceCtorEq, Nat.reduceLeDiff, Nat.reduceEqDiff, Nat.reduceLT, Nat.reduceAdd, Nat.reduceSub, Nat.reduceMul, Int32.reduceLT, Int32.reduceLE, Int32.reduceToNatClampNeg, Int32.reduceAdd, Int32.reduceSub, implies_true, forall_const, isIn_e, bit_e, lits, hA0]
  unfold l_X11_gathers_7
  refine Lo.count np (fun q s h' => eqS h h' ∧ s = nI q ∧ GG h' m y (gaL h m na u k q)) ?_ 0 (Nat.zero_le _) _ _ ⟨(eqS.rf h).sI rfl _ _, rfl, by rw [fI_sI_e, if_pos rfl]; rfl, fun j hj => absurd hj (Nat.not_lt_zero _)⟩
  rintro q s h' hq ⟨hS, rfl, hn, hT⟩ K hK
  have hR' := RJ.ofS hR hS
  have hA := hR'.1
  unfold JM at hA
  have hC := hR'.2.1
  have E := eqS_l hS
  have hle := gaL_len hW u k q
  unfold b_X11_gathers_7 n_X11_gathers_124 n_X11_gathers_46
  by_cases e : q < np
  · have c := cnF e (show np ≤ 24 by omega) (by decide)
    have gs : gaL h m na u k (q + 1) = gaL h m na u k q ++ (iF (aI h 121 (m 121) q = nI u) (fL (gaP h m k q) na) []) := rfl
    by_cases d : aI h 121 (m 121) q = nI u
    rotate_left
    · rw [iF_n d, List.append_nil] at gs
      simp only [gI_e, gR_e, pI_e, pZ_e, pR_e, ldI_e, ldZ_e, ldL_e, ldR_e, stI_e, stZ_e, stL_e, stR_e, alN_e, nwA_e, nwO_e, dvI_e, rmI_e, oV_e, oN_e, lt_e, rZ_e, br_T, br_F, fR_sI, aI_sI, aL_sI, aR_sI, kd_sI, ln_sI, hn_sI, hm_sI, fI_sI_n, fI_sR, aI_sR, aL_sR, aR_sR, kd_sR, ln_sR, hn_sR, hm_sR, fR_sR_n, fI_tI, fR_tI, aL_tI, aR_tI, kd_tI, ln_tI, hn_tI, hm_tI, aI_tI_n, fI_tL, fR_tL, aI_tL, aR_tL, kd_tL, ln_tL, hn_tL, hm_tL, aL_tL_n, fI_tR, fR_tR, aI_tR, aL_tR, kd_tR, ln_tR, hn_tR, hm_tR, aR_tR_n, hn_nw, hm_nw, rc400, rc403, rc404, rc405, rc407, rc409, rc420, rc440, bI_0, bI_1, bI_T, bI_F, iF_T, iF_F, br_not, le_nlt, not_true_eq_false, not_false_eq_true, and_self, and_true, true_and, and_false, false_and, or_true, true_or, or_false, false_or, ne_eq, reduceCtorEq, Nat.reduceLeDiff, Nat.reduceEqDiff, Nat.reduceLT, Nat.reduceAdd, Nat.reduceSub, Nat.reduceMul, Int32.reduceLT, Int32.reduceLE, Int32.reduceToNatClampNeg, Int32.reduceAdd, Int32.reduceSub, implies_true, forall_const, isIn_e, bit_e, lits, hA, hC, c, E, d]
      exact hK _ _ e ⟨hS, rfl, by rw [gs]; exact ⟨hn, hT⟩⟩
    rw [iF_y d] at gs
    -- its books
    have inner : l_X11_gathers_49 (some y) (nI u) (nI k) (nI q) 0 h' Q (fun l3 h => K l3 h) := by
      unfold l_X11_gathers_49
      have f1 := fL_1 (gaP_one hW k q)
      refine Lo.count na (fun i s2 h2 => eqS h h2 ∧ s2 = nI i ∧ GG h2 m y (gaL h m na u k q ++ fL (gaP h m k q) i)) ?_ 0 (Nat.zero_le _) _ _ ⟨hS, rfl, by rw [show fL (gaP h m k q) 0 = [] from rfl, List.append_nil]; exact ⟨hn, hT⟩⟩
      rintro i s2 h2 hi ⟨hS2, rfl, hn2, hT2⟩ K2 hK2
      have hR2 := RJ.ofS hR hS2
      have hA2 := hR2.1
      unfold JM at hA2
      have hC2 := hR2.2.1
      have E2 := eqS_l hS2
      unfold b_X11_gathers_49 n_X11_gathers_118 n_X11_gathers_124
      by_cases e2 : i < na
      · have c2 := cnF e2 (show na ≤ 160 by omega) (by decide)
        have st : stN h2 m i = stN h m i := by unfold stN; simp only [E2]
        have fi : (fL (gaP h m k q) i).length ≤ 1 := fL_1 (fun a b ha hb => gaP_one hW k q a b (by omega) (by omega))
        generalize hB : gaL h m na u k q ++ fL (gaP h m k q) i = B at hn2 hT2
        have lB : B.length ≤ 25 := by rw [← hB, List.length_append]; omega
        have skip : ¬ gaP h m k q i → K2 (nI (i + 1)) h2 := fun w => hK2 _ _ e2 ⟨hS2, rfl, by rw [fL_n w, hB]; exact ⟨hn2, hT2⟩⟩
        by_cases d1 : aI h 132 (m 132) i = nI q
        rotate_left
        · have := skip (fun w => d1 w.1)
          simp only [gI_e, gR_e, pI_e, pZ_e, pR_e, ldI_e, ldZ_e, ldL_e, ldR_e, stI_e, stZ_e, stL_e, stR_e, alN_e, nwA_e, nwO_e, dvI_e, rmI_e, oV_e, oN_e, lt_e, rZ_e, br_T, br_F, fR_sI, aI_sI, aL_sI, aR_sI, kd_sI, ln_sI, hn_sI, hm_sI, fI_sI_n, fI_sR, aI_sR, aL_sR, aR_sR, kd_sR, ln_sR, hn_sR, hm_sR, fR_sR_n, fI_tI, fR_tI, aL_tI, aR_tI, kd_tI, ln_tI, hn_tI, hm_tI, aI_tI_n, fI_tL, fR_tL, aI_tL, aR_tL, kd_tL, ln_tL, hn_tL, hm_tL, aL_tL_n, fI_tR, fR_tR, aI_tR, aL_tR, kd_tR, ln_tR, hn_tR, hm_tR, aR_tR_n, hn_nw, hm_nw, rc400, rc403, rc404, rc405, rc407, rc409, rc420, rc440, bI_0, bI_1, bI_T, bI_F, iF_T, iF_F, br_not, le_nlt, not_true_eq_false, not_false_eq_true, and_self, and_true, true_and, and_false, false_and, or_true, true_or, or_false, false_or, ne_eq, reduceCtorEq, Nat.reduceLeDiff, Nat.reduceEqDiff, Nat.reduceLT, Nat.reduceAdd, Nat.reduceSub, Nat.reduceMul, Int32.reduceLT, Int32.reduceLE, Int32.reduceToNatClampNeg, Int32.reduceAdd, Int32.reduceSub, implies_true, forall_const, isIn_e, bit_e, lits, hA2, hC2, c2, E2, d1]
          exact this
        by_cases d2 : 8 * aI h 133 (m 133) i + aI h 134 (m 134) i = nI k
        rotate_left
        · have := skip (fun w => d2 w.2.1)
          simp only [gI_e, gR_e, pI_e, pZ_e, pR_e, ldI_e, ldZ_e, ldL_e, ldR_e, stI_e, stZ_e, stL_e, stR_e, alN_e, nwA_e, nwO_e, dvI_e, rmI_e, oV_e, oN_e, lt_e, rZ_e, br_T, br_F, fR_sI, aI_sI, aL_sI, aR_sI, kd_sI, ln_sI, hn_sI, hm_sI, fI_sI_n, fI_sR, aI_sR, aL_sR, aR_sR, kd_sR, ln_sR, hn_sR, hm_sR, fR_sR_n, fI_tI, fR_tI, aL_tI, aR_tI, kd_tI, ln_tI, hn_tI, hm_tI, aI_tI_n, fI_tL, fR_tL, aI_tL, aR_tL, kd_tL, ln_tL, hn_tL, hm_tL, aL_tL_n, fI_tR, fR_tR, aI_tR, aL_tR, kd_tR, ln_tR, hn_tR, hm_tR, aR_tR_n, hn_nw, hm_nw, rc400, rc403, rc404, rc405, rc407, rc409, rc420, rc440, bI_0, bI_1, bI_T, bI_F, iF_T, iF_F, br_not, le_nlt, not_true_eq_false, not_false_eq_true, and_self, and_true, true_and, and_false, false_and, or_true, true_or, or_false, false_or, ne_eq, reduceCtorEq, Nat.reduceLeDiff, Nat.reduceEqDiff, Nat.reduceLT, Nat.reduceAdd, Nat.reduceSub, Nat.reduceMul, Int32.reduceLT, Int32.reduceLE, Int32.reduceToNatClampNeg, Int32.reduceAdd, Int32.reduceSub, implies_true, forall_const, isIn_e, bit_e, lits, hA2, hC2, c2, E2, d1, d2]
          exact this
        by_cases d3 : stN h m i
        rotate_left
        · have := skip (fun w => d3 w.2.2)
          simp only [gI_e, gR_e, pI_e, pZ_e, pR_e, ldI_e, ldZ_e, ldL_e, ldR_e, stI_e, stZ_e, stL_e, stR_e, alN_e, nwA_e, nwO_e, dvI_e, rmI_e, oV_e, oN_e, lt_e, rZ_e, br_T, br_F, fR_sI, aI_sI, aL_sI, aR_sI, kd_sI, ln_sI, hn_sI, hm_sI, fI_sI_n, fI_sR, aI_sR, aL_sR, aR_sR, kd_sR, ln_sR, hn_sR, hm_sR, fR_sR_n, fI_tI, fR_tI, aL_tI, aR_tI, kd_tI, ln_tI, hn_tI, hm_tI, aI_tI_n, fI_tL, fR_tL, aI_tL, aR_tL, kd_tL, ln_tL, hn_tL, hm_tL, aL_tL_n, fI_tR, fR_tR, aI_tR, aL_tR, kd_tR, ln_tR, hn_tR, hm_tR, aR_tR_n, hn_nw, hm_nw, rc400, rc403, rc404, rc405, rc407, rc409, rc420, rc440, bI_0, bI_1, bI_T, bI_F, iF_T, iF_F, br_not, le_nlt, not_true_eq_false, not_false_eq_true, and_self, and_true, true_and, and_false, false_and, or_true, true_or, or_false, false_or, ne_eq, reduceCtorEq, Nat.reduceLeDiff, Nat.reduceEqDiff, Nat.reduceLT, Nat.reduceAdd, Nat.reduceSub, Nat.reduceMul, Int32.reduceLT, Int32.reduceLE, Int32.reduceToNatClampNeg, Int32.reduceAdd, Int32.reduceSub, implies_true, forall_const, isIn_e, bit_e, lits, bI_T, bI_F, bI_0, bI_1, Int32.add_zero, Int32.zero_add, if_true, if_false, Option.some.injEq, lt_irr, iF_T, iF_F, hA2, hC2, c2, E2, d1, d2, standsR_e hR2 e2, st, d3]
          exact this
        have yes : gaP h m k q i := ⟨d1, d2, d3⟩
        have cl := cnF (show B.length < 160 by omega) (Nat.le_refl 160) (by decide)
        simp (config := {decide := true}) only [gI_e, gR_e, pI_e, pZ_e, pR_e, ldI_e, ldZ_e, ldL_e, ldR_e, stI_e, stZ_e, stL_e, stR_e, alN_e, nwA_e, nwO_e, dvI_e, rmI_e, oV_e, oN_e, lt_e, rZ_e, br_T, br_F, fR_sI, aI_sI, aL_sI, aR_sI, kd_sI, ln_sI, hn_sI, hm_sI, fI_sI_n, fI_sR, aI_sR, aL_sR, aR_sR, kd_sR, ln_sR, hn_sR, hm_sR, fR_sR_n, fI_tI, fR_tI, aL_tI, aR_tI, kd_tI, ln_tI, hn_tI, hm_tI, aI_tI_n, fI_tL, fR_tL, aI_tL, aR_tL, kd_tL, ln_tL, hn_tL, hm_tL, aL_tL_n, fI_tR, fR_tR, aI_tR, aL_tR, kd_tR, ln_tR, hn_tR, hm_tR, aR_tR_n, hn_nw, hm_nw, rc400, rc403, rc404, rc405, rc407, rc409, rc420, rc440, bI_0, bI_1, bI_T, bI_F, iF_T, iF_F, br_not, le_nlt, not_true_eq_false, not_false_eq_true, and_self, and_true, true_and, and_false, false_and, or_true, true_or, or_false, false_or, ne_eq, reduceCtorEq, Nat.reduceLeDiff, Nat.reduceEqDiff, Nat.reduceLT, Nat.reduceAdd, Nat.reduceSub, Nat.reduceMul, Int32.reduceLT, Int32.reduceLE, Int32.reduceToNatClampNeg, Int32.reduceAdd, Int32.reduceSub, implies_true, forall_const, isIn_e, bit_e, lits, bI_T, bI_F, bI_0, bI_1, Int32.add_zero, Int32.zero_add, if_true, if_false, Option.some.injEq, lt_irr, iF_T, iF_F, hA2, hC2, c2, cl, E2, d1, d2, standsR_e hR2 e2, st, d3, hn2]
        refine hK2 _ _ e2 ⟨(hS2.sI rfl _ _).tI rfl _ _ _, rfl, ?_⟩
        rw [fL_y yes, ← List.append_assoc, hB]
        refine ⟨?_, ?_⟩
        · rw [List.length_append]
          simp (config := {decide := true}) only [fR_sI, aI_sI, aL_sI, aR_sI, kd_sI, ln_sI, hn_sI, hm_sI, fI_sI_n, fI_sR, aI_sR, aL_sR, aR_sR, kd_sR, ln_sR, hn_sR, hm_sR, fR_sR_n, fI_tI, fR_tI, aL_tI, aR_tI, kd_tI, ln_tI, hn_tI, hm_tI, aI_tI_n, fI_tL, fR_tL, aI_tL, aR_tL, kd_tL, ln_tL, hn_tL, hm_tL, aL_tL_n, fI_tR, fR_tR, aI_tR, aL_tR, kd_tR, ln_tR, hn_tR, hm_tR, aR_tR_n, hn_nw, hm_nw, fI_sI_e, fR_sR_e, aI_tI_e, aL_tL_e, aR_tR_e, if_true]
          rfl
        · intro j hj
          rw [List.length_append] at hj
          have hj2 : j < B.length + 1 := hj
          rw [aI_tI_e]
          by_cases z : j = B.length
          · rw [if_pos ⟨rfl, z⟩, z, gD_r]
          · rw [if_neg (fun w => z w.2), gD_l (by omega)]
            exact hT2 j (by omega)
      · obtain rfl : i = na := by omega
        simp only [gI_e, gR_e, pI_e, pZ_e, pR_e, ldI_e, ldZ_e, ldL_e, ldR_e, stI_e, stZ_e, stL_e, stR_e, alN_e, nwA_e, nwO_e, dvI_e, rmI_e, oV_e, oN_e, lt_e, rZ_e, br_T, br_F, fR_sI, aI_sI, aL_sI, aR_sI, kd_sI, ln_sI, hn_sI, hm_sI, fI_sI_n, fI_sR, aI_sR, aL_sR, aR_sR, kd_sR, ln_sR, hn_sR, hm_sR, fR_sR_n, fI_tI, fR_tI, aL_tI, aR_tI, kd_tI, ln_tI, hn_tI, hm_tI, aI_tI_n, fI_tL, fR_tL, aI_tL, aR_tL, kd_tL, ln_tL, hn_tL, hm_tL, aL_tL_n, fI_tR, fR_tR, aI_tR, aL_tR, kd_tR, ln_tR, hn_tR, hm_tR, aR_tR_n, hn_nw, hm_nw, rc400, rc403, rc404, rc405, rc407, rc409, rc420, rc440, bI_0, bI_1, bI_T, bI_F, iF_T, iF_F, br_not, le_nlt, not_true_eq_false, not_false_eq_true, and_self, and_true, true_and, and_false, false_and, or_true, true_or, or_false, false_or, ne_eq, reduceCtorEq, Nat.reduceLeDiff, Nat.reduceEqDiff, Nat.reduceLT, Nat.reduceAdd, Nat.reduceSub, Nat.reduceMul, Int32.reduceLT, Int32.reduceLE, Int32.reduceToNatClampNeg, Int32.reduceAdd, Int32.reduceSub, implies_true, forall_const, isIn_e, bit_e, lits, hA2, hC2, lt_irr, c]
        exact hK _ _ e ⟨hS2, rfl, by rw [gs]; exact ⟨hn2, hT2⟩⟩
    obtain ⟨z, hz3, ez⟩ := rngN (N := 3) (hW.w_lev q e)
    have lz : ((0 : Int32) < nI z) = (0 < z) := propext (nI_ltI (a := 0) (by omega) (by omega))
    by_cases l0 : z = 0
    · have l1 : ¬ 0 < z := by omega
      simp only [gI_e, gR_e, pI_e, pZ_e, pR_e, ldI_e, ldZ_e, ldL_e, ldR_e, stI_e, stZ_e, stL_e, stR_e, alN_e, nwA_e, nwO_e, dvI_e, rmI_e, oV_e, oN_e, lt_e, rZ_e, br_T, br_F, fR_sI, aI_sI, aL_sI, aR_sI, kd_sI, ln_sI, hn_sI, hm_sI, fI_sI_n, fI_sR, aI_sR, aL_sR, aR_sR, kd_sR, ln_sR, hn_sR, hm_sR, fR_sR_n, fI_tI, fR_tI, aL_tI, aR_tI, kd_tI, ln_tI, hn_tI, hm_tI, aI_tI_n, fI_tL, fR_tL, aI_tL, aR_tL, kd_tL, ln_tL, hn_tL, hm_tL, aL_tL_n, fI_tR, fR_tR, aI_tR, aL_tR, kd_tR, ln_tR, hn_tR, hm_tR, aR_tR_n, hn_nw, hm_nw, rc400, rc403, rc404, rc405, rc407, rc409, rc420, rc440, bI_0, bI_1, bI_T, bI_F, iF_T, iF_F, br_not, le_nlt, not_true_eq_false, not_false_eq_true, and_self, and_true, true_and, and_false, false_and, or_true, true_or, or_false, false_or, ne_eq, reduceCtorEq, Nat.reduceLeDiff, Nat.reduceEqDiff, Nat.reduceLT, Nat.reduceAdd, Nat.reduceSub, Nat.reduceMul, Int32.reduceLT, Int32.reduceLE, Int32.reduceToNatClampNeg, Int32.reduceAdd, Int32.reduceSub, implies_true, forall_const, isIn_e, bit_e, lits, hA, hC, c, E, d, ez, lz, l1]
      exact inner
    · have l1 : 0 < z := by omega
      by_cases m0 : aI h 200 (m 200) q = 0
      · have em : fL (gaP h m k q) na = [] := by
          refine fL_0 (fun i hi w => ?_)
          have am := hW.w_amd i hi
          rw [w.1, c.2.2.1] at am
          have := am (by rw [ez]; exact fun w2 => l0 ((nI_eq (b := 0) (by omega) (by omega)).mp w2))
          rcases this with t | t
          · rw [m0] at t
            exact absurd t (by decide)
          · exact hx.elim (fun z => z (by rw [← t]; exact d)) (fun z => by omega)
        rw [em, List.append_nil] at gs
        simp only [gI_e, gR_e, pI_e, pZ_e, pR_e, ldI_e, ldZ_e, ldL_e, ldR_e, stI_e, stZ_e, stL_e, stR_e, alN_e, nwA_e, nwO_e, dvI_e, rmI_e, oV_e, oN_e, lt_e, rZ_e, br_T, br_F, fR_sI, aI_sI, aL_sI, aR_sI, kd_sI, ln_sI, hn_sI, hm_sI, fI_sI_n, fI_sR, aI_sR, aL_sR, aR_sR, kd_sR, ln_sR, hn_sR, hm_sR, fR_sR_n, fI_tI, fR_tI, aL_tI, aR_tI, kd_tI, ln_tI, hn_tI, hm_tI, aI_tI_n, fI_tL, fR_tL, aI_tL, aR_tL, kd_tL, ln_tL, hn_tL, hm_tL, aL_tL_n, fI_tR, fR_tR, aI_tR, aL_tR, kd_tR, ln_tR, hn_tR, hm_tR, aR_tR_n, hn_nw, hm_nw, rc400, rc403, rc404, rc405, rc407, rc409, rc420, rc440, bI_0, bI_1, bI_T, bI_F, iF_T, iF_F, br_not, le_nlt, not_true_eq_false, not_false_eq_true, and_self, and_true, true_and, and_false, false_and, or_true, true_or, or_false, false_or, ne_eq, reduceCtorEq, Nat.reduceLeDiff, Nat.reduceEqDiff, Nat.reduceLT, Nat.reduceAdd, Nat.reduceSub, Nat.reduceMul, Int32.reduceLT, Int32.reduceLE, Int32.reduceToNatClampNeg, Int32.reduceAdd, Int32.reduceSub, implies_true, forall_const, isIn_e, bit_e, lits, hA, hC, c, E, d, ez, lz, l1, m0]
        exact hK _ _ e ⟨hS, rfl, by rw [gs]; exact ⟨hn, hT⟩⟩
      · simp only [gI_e, gR_e, pI_e, pZ_e, pR_e, ldI_e, ldZ_e, ldL_e, ldR_e, stI_e, stZ_e, stL_e, stR_e, alN_e, nwA_e, nwO_e, dvI_e, rmI_e, oV_e, oN_e, lt_e, rZ_e, br_T, br_F, fR_sI, aI_sI, aL_sI, aR_sI, kd_sI, ln_sI, hn_sI, hm_sI, fI_sI_n, fI_sR, aI_sR, aL_sR, aR_sR, kd_sR, ln_sR, hn_sR, hm_sR, fR_sR_n, fI_tI, fR_tI, aL_tI, aR_tI, kd_tI, ln_tI, hn_tI, hm_tI, aI_tI_n, fI_tL, fR_tL, aI_tL, aR_tL, kd_tL, ln_tL, hn_tL, hm_tL, aL_tL_n, fI_tR, fR_tR, aI_tR, aL_tR, kd_tR, ln_tR, hn_tR, hm_tR, aR_tR_n, hn_nw, hm_nw, rc400, rc403, rc404, rc405, rc407, rc409, rc420, rc440, bI_0, bI_1, bI_T, bI_F, iF_T, iF_F, br_not, le_nlt, not_true_eq_false, not_false_eq_true, and_self, and_true, true_and, and_false, false_and, or_true, true_or, or_false, false_or, ne_eq, reduceCtorEq, Nat.reduceLeDiff, Nat.reduceEqDiff, Nat.reduceLT, Nat.reduceAdd, Nat.reduceSub, Nat.reduceMul, Int32.reduceLT, Int32.reduceLE, Int32.reduceToNatClampNeg, Int32.reduceAdd, Int32.reduceSub, implies_true, forall_const, isIn_e, bit_e, lits, hA, hC, c, E, d, ez, lz, l1, m0]
        exact inner
  · obtain rfl : q = np := by omega
    simp only [gI_e, gR_e, pI_e, pZ_e, pR_e, ldI_e, ldZ_e, ldL_e, ldR_e, stI_e, stZ_e, stL_e, stR_e, alN_e, nwA_e, nwO_e, dvI_e, rmI_e, oV_e, oN_e, lt_e, rZ_e, br_T, br_F, fR_sI, aI_sI, aL_sI, aR_sI, kd_sI, ln_sI, hn_sI, hm_sI, fI_sI_n, fI_sR, aI_sR, aL_sR, aR_sR, kd_sR, ln_sR, hn_sR, hm_sR, fR_sR_n, fI_tI, fR_tI, aL_tI, aR_tI, kd_tI, ln_tI, hn_tI, hm_tI, aI_tI_n, fI_tL, fR_tL, aI_tL, aR_tL, kd_tL, ln_tL, hn_tL, hm_tL, aL_tL_n, fI_tR, fR_tR, aI_tR, aL_tR, kd_tR, ln_tR, hn_tR, hm_tR, aR_tR_n, hn_nw, hm_nw, rc400, rc403, rc404, rc405, rc407, rc409, rc420, rc440, bI_0, bI_1, bI_T, bI_F, iF_T, iF_F, br_not, le_nlt, not_true_eq_false, not_false_eq_true, and_self, and_true, true_and, and_false, false_and, or_true, true_or, or_false, false_or, ne_eq, reduceCtorEq, Nat.reduceLeDiff, Nat.reduceEqDiff, Nat.reduceLT, Nat.reduceAdd, Nat.reduceSub, Nat.reduceMul, Int32.reduceLT, Int32.reduceLE, Int32.reduceToNatClampNeg, Int32.reduceAdd, Int32.reduceSub, implies_true, forall_const, isIn_e, bit_e, lits, hA, hC, lt_irr, hn]
    exact hQ h' hS ⟨hn, hT⟩
end GATH
