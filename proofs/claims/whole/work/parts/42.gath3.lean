theorem gD_ap (A B : List Nat) (j : Nat) : (A ++ B).getD j 0 = if j < A.length then A.getD j 0 else B.getD (j - A.length) 0 := by
  rw [List.getD_eq_getElem?_getD, List.getD_eq_getElem?_getD, List.getD_eq_getElem?_getD]
  by_cases c : j < A.length
  · rw [if_pos c, List.getElem?_append_left c]
  · rw [if_neg c, List.getElem?_append_right (by omega)]
theorem gD_mem {L : List Nat} {j : Nat} (h : j < L.length) : L.getD j 0 ∈ L := by
  have e : L.getD j 0 = L[j] := by
    rw [List.getD_eq_getElem?_getD, List.getElem?_eq_getElem h]
    rfl
  rw [e]
  exact List.getElem_mem h
section GATD
variable {x y b0 s0 np na nm nr ne : Nat} {g : Nat → Nat → Nat} {m : Nat → Nat} {h : Hp}
/-- the class has gathered these, in this order -/
def GC (h : Hp) (g : Nat → Nat → Nat) (T : List Nat) : Prop := fI h 259 (g 0 9) = nI T.length ∧ ∀ j, j < T.length → aR h 400 (g 0 14) j = some (g 3 (T.getD j 0))
theorem insC_e (hJ : JA x y b0 s0 np na nm nr ne g m h) {A B : List Nat} {i : Nat} (hG : GC h g (A ++ B)) (hi : i < na) (hA : ∀ b, b ∈ A → b < na ∧ ¬ kyN h m i < kyN h m b) (hB : ∀ b, b ∈ B → b < na ∧ kyN h m i < kyN h m b) (hl : (A ++ B).length < 160) (Q : Hp → Prop) (hQ : ∀ h', eqS h h' → GC h' g (A ++ i :: B) → Q h') : w_X2_add (some (g 0 9)) (some (g 3 i)) h Q := by
  have hB0 := hJ.2.1
  unfold JS at hB0
  obtain ⟨hn, hT⟩ := hG
  generalize hTT : A ++ B = T at hn hT hl
  have tl : T.length = A.length + B.length := by rw [← hTT, List.length_append]
  have c160 : nI T.length < 160 := (cnF hl (Nat.le_refl 160) (by decide)).1
  unfold w_X2_add n_X2_add_0
  simp only [gI_e, gR_e, pI_e, pZ_e, pR_e, ldI_e, ldZ_e, ldL_e, ldR_e, stI_e, stZ_e, stL_e, stR_e, alN_e, nwA_e, nwO_e, dvI_e, rmI_e, oV_e, oN_e, lt_e, rZ_e, br_T, br_F, fR_sI, aI_sI, aL_sI, aR_sI, kd_sI, ln_sI, hn_sI, hm_sI, fI_sI_n, fI_sR, aI_sR, aL_sR, aR_sR, kd_sR, ln_sR, hn_sR, hm_sR, fR_sR_n, fI_tI, fR_tI, aL_tI, aR_tI, kd_tI, ln_tI, hn_tI, hm_tI, aI_tI_n, fI_tL, fR_tL, aI_tL, aR_tL, kd_tL, ln_tL, hn_tL, hm_tL, aL_tL_n, fI_tR, fR_tR, aI_tR, aL_tR, kd_tR, ln_tR, hn_tR, hm_tR, aR_tR_n, hn_nw, hm_nw, rc400, rc403, rc404, rc405, rc407, rc409, rc420, rc440, bI_0, bI_1, bI_T, bI_F, iF_T, iF_F, br_not, le_nlt, not_true_eq_false, not_false_eq_true, and_self, and_true, true_and, and_false, false_and, or_true, true_or, or_false, false_or, ne_eq, reduceCtorEq, Nat.reduceLeDiff, Nat.reduceEqDiff, Nat.reduceLT, Nat.reduceAdd, Nat.reduceSub, Nat.reduceMul, Int32.reduceLT, Int32.reduceLE, Int32.reduceToNatClampNeg, Int32.reduceAdd, Int32.reduceSub, implies_true, forall_const, isIn_e, bit_e, lits, hB0, hn, c160]
  unfold l_X2_add_16
  refine Lo.count B.length (fun k s h' => eqS h h' ∧ s = nI (T.length - k) ∧ fI h' 259 (g 0 9) = nI T.length ∧ (∀ j, j < T.length - k → aR h' 400 (g 0 14) j = some (g 3 (T.getD j 0))) ∧ (∀ j, T.length - k < j → j ≤ T.length → aR h' 400 (g 0 14) j = some (g 3 (T.getD (j - 1) 0)))) ?_ 0 (Nat.zero_le _) _ _ ⟨eqS.rf h, rfl, hn, hT, fun j h1 h2 => by omega⟩
  rintro k s h' hk ⟨hS, rfl, hn', h1, h2⟩ K hK
  have hJ' := hJ.same hS
  have hB1 := hJ'.2.1
  unfold JS at hB1
  have qi := asF hJ' hi
  have ky : ∀ a, kyN h' m a = kyN h m a := fun a => by unfold kyN whN wmN atN; simp only [eqS_l hS]
  unfold b_X2_add_16
  have c := cnF (show T.length - k < 160 by omega) (Nat.le_refl 160) (by decide)
  -- the end: the book is put in
  have fin : k = B.length → n_X2_add_55 (some (g 0 9)) (some (g 3 i)) (nI (T.length - k)) h' Q := by
    intro ek
    unfold n_X2_add_55
    simp only [gI_e, gR_e, pI_e, pZ_e, pR_e, ldI_e, ldZ_e, ldL_e, ldR_e, stI_e, stZ_e, stL_e, stR_e, alN_e, nwA_e, nwO_e, dvI_e, rmI_e, oV_e, oN_e, lt_e, rZ_e, br_T, br_F, fR_sI, aI_sI, aL_sI, aR_sI, kd_sI, ln_sI, hn_sI, hm_sI, fI_sI_n, fI_sR, aI_sR, aL_sR, aR_sR, kd_sR, ln_sR, hn_sR, hm_sR, fR_sR_n, fI_tI, fR_tI, aL_tI, aR_tI, kd_tI, ln_tI, hn_tI, hm_tI, aI_tI_n, fI_tL, fR_tL, aI_tL, aR_tL, kd_tL, ln_tL, hn_tL, hm_tL, aL_tL_n, fI_tR, fR_tR, aI_tR, aL_tR, kd_tR, ln_tR, hn_tR, hm_tR, aR_tR_n, hn_nw, hm_nw, rc400, rc403, rc404, rc405, rc407, rc409, rc420, rc440, bI_0, bI_1, bI_T, bI_F, iF_T, iF_F, br_not, le_nlt, not_true_eq_false, not_false_eq_true, and_self, and_true, true_and, and_false, false_and, or_true, true_or, or_false, false_or, ne_eq, reduceCtorEq, Nat.reduceLeDiff, Nat.reduceEqDiff, Nat.reduceLT, Nat.reduceAdd, Nat.reduceSub, Nat.reduceMul, Int32.reduceLT, Int32.reduceLE, Int32.reduceToNatClampNeg, Int32.reduceAdd, Int32.reduceSub, implies_true, forall_const, isIn_e, bit_e, lits, hB1]
    refine stR_i (k := 400) (by simp only [hB1]) (by decide) rc400 (fun b hb => by cases hb; rw [qi.2.1]; rfl) (by simp only [hB1]; exact c.2.1) ?_
    simp (config := {decide := true}) only [gI_e, gR_e, pI_e, pZ_e, pR_e, ldI_e, ldZ_e, ldL_e, ldR_e, stI_e, stZ_e, stL_e, stR_e, alN_e, nwA_e, nwO_e, dvI_e, rmI_e, oV_e, oN_e, lt_e, rZ_e, br_T, br_F, fR_sI, aI_sI, aL_sI, aR_sI, kd_sI, ln_sI, hn_sI, hm_sI, fI_sI_n, fI_sR, aI_sR, aL_sR, aR_sR, kd_sR, ln_sR, hn_sR, hm_sR, fR_sR_n, fI_tI, fR_tI, aL_tI, aR_tI, kd_tI, ln_tI, hn_tI, hm_tI, aI_tI_n, fI_tL, fR_tL, aI_tL, aR_tL, kd_tL, ln_tL, hn_tL, hm_tL, aL_tL_n, fI_tR, fR_tR, aI_tR, aL_tR, kd_tR, ln_tR, hn_tR, hm_tR, aR_tR_n, hn_nw, hm_nw, rc400, rc403, rc404, rc405, rc407, rc409, rc420, rc440, bI_0, bI_1, bI_T, bI_F, iF_T, iF_F, br_not, le_nlt, not_true_eq_false, not_false_eq_true, and_self, and_true, true_and, and_false, false_and, or_true, true_or, or_false, false_or, ne_eq, reduceCtorEq, Nat.reduceLeDiff, Nat.reduceEqDiff, Nat.reduceLT, Nat.reduceAdd, Nat.reduceSub, Nat.reduceMul, Int32.reduceLT, Int32.reduceLE, Int32.reduceToNatClampNeg, Int32.reduceAdd, Int32.reduceSub, implies_true, forall_const, isIn_e, bit_e, lits, hB1, hn', c]
    refine hQ _ ((hS.tR _ _ _).sI rfl _ _) ⟨?_, ?_⟩
    · have ll : (A ++ i :: B).length = T.length + 1 := by
        rw [List.length_append, List.length_cons]
        omega
      rw [ll]
      simp (config := {decide := true}) only [fR_sI, aI_sI, aL_sI, aR_sI, kd_sI, ln_sI, hn_sI, hm_sI, fI_sI_n, fI_sR, aI_sR, aL_sR, aR_sR, kd_sR, ln_sR, hn_sR, hm_sR, fR_sR_n, fI_tI, fR_tI, aL_tI, aR_tI, kd_tI, ln_tI, hn_tI, hm_tI, aI_tI_n, fI_tL, fR_tL, aI_tL, aR_tL, kd_tL, ln_tL, hn_tL, hm_tL, aL_tL_n, fI_tR, fR_tR, aI_tR, aL_tR, kd_tR, ln_tR, hn_tR, hm_tR, aR_tR_n, hn_nw, hm_nw, fI_sI_e, fR_sR_e, aI_tI_e, aL_tL_e, aR_tR_e, if_true]
      first | exact n1 _ | rfl
    · intro j hj
      rw [List.length_append, List.length_cons] at hj
      simp (config := {decide := true}) only [fR_sI, aI_sI, aL_sI, aR_sI, kd_sI, ln_sI, hn_sI, hm_sI, fI_sI_n, fI_sR, aI_sR, aL_sR, aR_sR, kd_sR, ln_sR, hn_sR, hm_sR, fR_sR_n, fI_tI, fR_tI, aL_tI, aR_tI, kd_tI, ln_tI, hn_tI, hm_tI, aI_tI_n, fI_tL, fR_tL, aI_tL, aR_tL, kd_tL, ln_tL, hn_tL, hm_tL, aL_tL_n, fI_tR, fR_tR, aI_tR, aL_tR, kd_tR, ln_tR, hn_tR, hm_tR, aR_tR_n, hn_nw, hm_nw, fI_sI_e, fR_sR_e, aI_tI_e, aL_tL_e, aR_tR_e, true_and]
      rw [gD_ap]
      by_cases z : j = T.length - k
      · rw [if_pos z, if_neg (by omega), show j - A.length = 0 by omega]
        rfl
      · rw [if_neg z]
        by_cases z2 : j < A.length
        · rw [if_pos z2, h1 j (by omega), ← hTT, gD_ap, if_pos z2]
        · rw [if_neg z2, h2 j (by omega) (by omega), ← hTT, gD_ap, if_neg (by omega)]
          obtain ⟨d, hd⟩ : ∃ d, j - A.length = d + 1 := ⟨j - A.length - 1, by omega⟩
          rw [hd, show j - 1 - A.length = d by omega]
          rfl
  by_cases e0 : T.length - k = 0
  · have : nI (T.length - k) = 0 := by rw [e0]; rfl
    have f := fin (by omega)
    rw [this] at f ⊢
    simp only [bI_0, bI_1, bI_T, bI_F, iF_T, iF_F, br_not, le_nlt, not_true_eq_false, not_false_eq_true, and_self, and_true, true_and, and_false, false_and, or_true, true_or, or_false, false_or, ne_eq, reduceCtorEq, Nat.reduceLeDiff, Nat.reduceEqDiff, Nat.reduceLT, Nat.reduceAdd, Nat.reduceSub, Nat.reduceMul, Int32.reduceLT, Int32.reduceLE, Int32.reduceToNatClampNeg, Int32.reduceAdd, Int32.reduceSub, implies_true, forall_const, lt_irr, br_T, br_F]
    exact f
  · obtain ⟨r, hr⟩ : ∃ r, T.length - k = r + 1 := ⟨T.length - k - 1, by omega⟩
    have pos : (0 : Int32) < nI (T.length - k) := nI_lt (a := 0) (by omega) (by omega)
    have pr : nI (T.length - k) - 1 = nI r := by rw [hr, nI_pred]
    have pr2 : nI (T.length - k) + -1 = nI r := by rw [← pr]; exact (Int32.sub_eq_add_neg ..).symm
    have cr := cnF (show r < 160 by omega) (Nat.le_refl 160) (by decide)
    have ar := h1 r (by omega)
    have inT : T.getD r 0 < na := by
      rw [← hTT, gD_ap]
      by_cases z : r < A.length
      · rw [if_pos z]; exact (hA _ (gD_mem z)).1
      · rw [if_neg z]; exact (hB _ (gD_mem (by omega))).1
    have qr := asF hJ' inT
    simp only [gI_e, gR_e, pI_e, pZ_e, pR_e, ldI_e, ldZ_e, ldL_e, ldR_e, stI_e, stZ_e, stL_e, stR_e, alN_e, nwA_e, nwO_e, dvI_e, rmI_e, oV_e, oN_e, lt_e, rZ_e, br_T, br_F, fR_sI, aI_sI, aL_sI, aR_sI, kd_sI, ln_sI, hn_sI, hm_sI, fI_sI_n, fI_sR, aI_sR, aL_sR, aR_sR, kd_sR, ln_sR, hn_sR, hm_sR, fR_sR_n, fI_tI, fR_tI, aL_tI, aR_tI, kd_tI, ln_tI, hn_tI, hm_tI, aI_tI_n, fI_tL, fR_tL, aI_tL, aR_tL, kd_tL, ln_tL, hn_tL, hm_tL, aL_tL_n, fI_tR, fR_tR, aI_tR, aL_tR, kd_tR, ln_tR, hn_tR, hm_tR, aR_tR_n, hn_nw, hm_nw, rc400, rc403, rc404, rc405, rc407, rc409, rc420, rc440, bI_0, bI_1, bI_T, bI_F, iF_T, iF_F, br_not, le_nlt, not_true_eq_false, not_false_eq_true, and_self, and_true, true_and, and_false, false_and, or_true, true_or, or_false, false_or, ne_eq, reduceCtorEq, Nat.reduceLeDiff, Nat.reduceEqDiff, Nat.reduceLT, Nat.reduceAdd, Nat.reduceSub, Nat.reduceMul, Int32.reduceLT, Int32.reduceLE, Int32.reduceToNatClampNeg, Int32.reduceAdd, Int32.reduceSub, implies_true, forall_const, isIn_e, bit_e, lits, hB1, pos, pr, cr, ar, qr]
    refine after_e hJ' inT hi _ ?_
    rw [ky, ky]
    by_cases z : r < A.length
    · have no : ¬ kyN h m i < kyN h m (T.getD r 0) := by
        rw [← hTT, gD_ap, if_pos z]; exact (hA _ (gD_mem z)).2
      rw [bI_n no]
      simp only [bI_T, bI_F, bI_0, bI_1, Int32.add_zero, Int32.zero_add, if_true, if_false, Option.some.injEq, lt_irr, iF_T, iF_F, br_T, br_F]
      exact fin (by omega)
    · have yes : kyN h m i < kyN h m (T.getD r 0) := by
        rw [← hTT, gD_ap, if_neg z]; exact (hB _ (gD_mem (by omega))).2
      rw [bI_y yes]
      have one : ¬ (1 : Int32) = 0 := by decide
      simp only [gI_e, gR_e, pI_e, pZ_e, pR_e, ldI_e, ldZ_e, ldL_e, ldR_e, stI_e, stZ_e, stL_e, stR_e, alN_e, nwA_e, nwO_e, dvI_e, rmI_e, oV_e, oN_e, lt_e, rZ_e, br_T, br_F, fR_sI, aI_sI, aL_sI, aR_sI, kd_sI, ln_sI, hn_sI, hm_sI, fI_sI_n, fI_sR, aI_sR, aL_sR, aR_sR, kd_sR, ln_sR, hn_sR, hm_sR, fR_sR_n, fI_tI, fR_tI, aL_tI, aR_tI, kd_tI, ln_tI, hn_tI, hm_tI, aI_tI_n, fI_tL, fR_tL, aI_tL, aR_tL, kd_tL, ln_tL, hn_tL, hm_tL, aL_tL_n, fI_tR, fR_tR, aI_tR, aL_tR, kd_tR, ln_tR, hn_tR, hm_tR, aR_tR_n, hn_nw, hm_nw, rc400, rc403, rc404, rc405, rc407, rc409, rc420, rc440, bI_0, bI_1, bI_T, bI_F, iF_T, iF_F, br_not, le_nlt, not_true_eq_false, not_false_eq_true, and_self, and_true, true_and, and_false, false_and, or_true, true_or, or_false, false_or, ne_eq, reduceCtorEq, Nat.reduceLeDiff, Nat.reduceEqDiff, Nat.reduceLT, Nat.reduceAdd, Nat.reduceSub, Nat.reduceMul, Int32.reduceLT, Int32.reduceLE, Int32.reduceToNatClampNeg, Int32.reduceAdd, Int32.reduceSub, implies_true, forall_const, isIn_e, bit_e, lits, hB1, pr, cr, ar, one]
      refine stR_i (k := 400) (by simp only [hB1]) (by decide) rc400 (fun b hb => by cases hb; rw [qr.2.1]; rfl) (by simp only [hB1]; exact c.2.1) ?_
      simp only [lt_e, pr2]
      refine hK _ _ (by omega) ⟨hS.tR _ _ _, by rw [show T.length - (k + 1) = r by omega], hn', ?_, ?_⟩
      · intro j hj
        simp (config := {decide := true}) only [fI_sI_e, fR_sR_e, aI_tI_e, aL_tL_e, aR_tR_e, true_and, c]
        rw [if_neg (by omega)]
        exact h1 j (by omega)
      · intro j hj hj2
        simp (config := {decide := true}) only [fI_sI_e, fR_sR_e, aI_tI_e, aL_tL_e, aR_tR_e, true_and, c]
        by_cases w : j = T.length - k
        · rw [if_pos w, show j - 1 = r by omega]
        · rw [if_neg w]
          exact h2 j (by omega) hj2
end GATD
