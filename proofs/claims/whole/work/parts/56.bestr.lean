theorem fL_pre (P : Nat → Prop) (a : Nat) : ∀ d, (fL P a).length ≤ (fL P (a + d)).length := by
  intro d
  induction d with
  | zero => exact Nat.le_refl _
  | succ d ih =>
    by_cases c : P (a + d)
    · rw [show a + (d + 1) = a + d + 1 by omega, fL_y c, List.length_append]
      omega
    · rw [show a + (d + 1) = a + d + 1 by omega, fL_n c]
      exact ih
section BESTR
variable {x y b0 s0 np na nm nr ne : Nat} {g : Nat → Nat → Nat} {m : Nat → Nat} {h h1 : Hp} {F K : Nat → Bool}
theorem gaL_same (e : eqB h h1) (m : Nat → Nat) : gaL h1 m = gaL h m := by
  have E := eqB_l e
  funext na u k q
  induction q with
  | zero => rfl
  | succ q ih =>
    show gaL h1 m na u k q ++ (iF (aI h1 121 (m 121) q = nI u) (fL (gaP h1 m k q) na) []) = gaL h m na u k q ++ (iF (aI h 121 (m 121) q = nI u) (fL (gaP h m k q) na) [])
    have : gaP h1 m k q = gaP h m k q := by
      funext b
      unfold gaP stN
      simp only [E]
    rw [ih, this]
    simp only [E]
theorem passA_e (hR : RJ y np na nm nr ne m h) (hx : np ≤ m 0) {u : Nat} (l2 : Int32) (Q : Int32 → Hp → Prop) (hY : (cdL h m na u np).length ≤ 10 → ∀ h', eqS h h' → l_X11_best_90 (some y) (nI u) l2 0 0 h' Q) (hN : ¬ (cdL h m na u np).length ≤ 10 → ∀ h', eqS h h' → Q (-7) (tI h' 161 (m 161) 7 (aI h' 161 (m 161) 7 + 1))) : l_X11_best_45 (some y) (nI u) l2 0 0 h Q := by
  unfold l_X11_best_45
  refine Lo.count 128 (fun k s h' => eqS h h' ∧ s = (nI (fL (gnP h m na u np) k).length, nI k)) ?_ 0 (Nat.zero_le _) _ _ ⟨eqS.rf h, rfl⟩
  rintro k s h' hk ⟨hS, rfl⟩ K1 hK
  have hR' := RJ.ofS hR hS
  have hA := hR'.1
  unfold JM at hA
  unfold b_X11_best_45 n_X11_best_66
  by_cases e : k < 128
  · have c := cnF e (Nat.le_refl 128) (by decide)
    have c128 : nI k < 128 := c.1
    simp (config := {decide := true}) only [gI_e, gR_e, pI_e, pZ_e, pR_e, ldI_e, ldZ_e, ldL_e, ldR_e, stI_e, stZ_e, stL_e, stR_e, alN_e, nwA_e, nwO_e, dvI_e, rmI_e, oV_e, oN_e, lt_e, rZ_e, br_T, br_F, fR_sI, aI_sI, aL_sI, aR_sI, kd_sI, ln_sI, hn_sI, hm_sI, fI_sI_n, fI_sR, aI_sR, aL_sR, aR_sR, kd_sR, ln_sR, hn_sR, hm_sR, fR_sR_n, fI_tI, fR_tI, aL_tI, aR_tI, kd_tI, ln_tI, hn_tI, hm_tI, aI_tI_n, fI_tL, fR_tL, aI_tL, aR_tL, kd_tL, ln_tL, hn_tL, hm_tL, aL_tL_n, fI_tR, fR_tR, aI_tR, aL_tR, kd_tR, ln_tR, hn_tR, hm_tR, aR_tR_n, hn_nw, hm_nw, rc400, rc403, rc404, rc405, rc407, rc409, rc420, rc440, bI_0, bI_1, bI_T, bI_F, iF_T, iF_F, br_not, le_nlt, not_true_eq_false, not_false_eq_true, and_self, and_true, true_and, and_false, false_and, or_true, true_or, or_false, false_or, ne_eq, reduceCtorEq, Nat.reduceLeDiff, Nat.reduceEqDiff, Nat.reduceLT, Nat.reduceAdd, Nat.reduceSub, Nat.reduceMul, Int32.reduceLT, Int32.reduceLE, Int32.reduceToNatClampNeg, Int32.reduceAdd, Int32.reduceSub, implies_true, forall_const, isIn_e, bit_e, lits, hA, c128]
    refine gathersR_e hR' (Or.inr hx) _ ?_
    intro h2 e2 g2
    rw [gaL_same hS.b]
    have ln := gaL_len hR.2.2.2 u k np
    have bd := hR.2.2.1
    have lz : ((0 : Int32) < nI (gaL h m na u k np).length) = (0 < (gaL h m na u k np).length) := propext (nI_ltI (a := 0) (by omega) (by omega))
    by_cases z : gaL h m na u k np = []
    · have l0 : ¬ 0 < (gaL h m na u k np).length := by rw [z]; exact Nat.lt_irrefl 0
      simp (config := {decide := true}) only [gI_e, gR_e, pI_e, pZ_e, pR_e, ldI_e, ldZ_e, ldL_e, ldR_e, stI_e, stZ_e, stL_e, stR_e, alN_e, nwA_e, nwO_e, dvI_e, rmI_e, oV_e, oN_e, lt_e, rZ_e, br_T, br_F, fR_sI, aI_sI, aL_sI, aR_sI, kd_sI, ln_sI, hn_sI, hm_sI, fI_sI_n, fI_sR, aI_sR, aL_sR, aR_sR, kd_sR, ln_sR, hn_sR, hm_sR, fR_sR_n, fI_tI, fR_tI, aL_tI, aR_tI, kd_tI, ln_tI, hn_tI, hm_tI, aI_tI_n, fI_tL, fR_tL, aI_tL, aR_tL, kd_tL, ln_tL, hn_tL, hm_tL, aL_tL_n, fI_tR, fR_tR, aI_tR, aL_tR, kd_tR, ln_tR, hn_tR, hm_tR, aR_tR_n, hn_nw, hm_nw, rc400, rc403, rc404, rc405, rc407, rc409, rc420, rc440, bI_0, bI_1, bI_T, bI_F, iF_T, iF_F, br_not, le_nlt, not_true_eq_false, not_false_eq_true, and_self, and_true, true_and, and_false, false_and, or_true, true_or, or_false, false_or, ne_eq, reduceCtorEq, Nat.reduceLeDiff, Nat.reduceEqDiff, Nat.reduceLT, Nat.reduceAdd, Nat.reduceSub, Nat.reduceMul, Int32.reduceLT, Int32.reduceLE, Int32.reduceToNatClampNeg, Int32.reduceAdd, Int32.reduceSub, implies_true, forall_const, isIn_e, bit_e, lits, lz, l0, c]
      exact hK _ _ e ⟨hS.tr e2, by rw [fL_n (show ¬ gnP h m na u np k from fun w => w z)]⟩
    · have l0 : 0 < (gaL h m na u k np).length := List.length_pos_iff.mpr z
      have n1' := n1 (fL (gnP h m na u np) k).length
      simp (config := {decide := true}) only [gI_e, gR_e, pI_e, pZ_e, pR_e, ldI_e, ldZ_e, ldL_e, ldR_e, stI_e, stZ_e, stL_e, stR_e, alN_e, nwA_e, nwO_e, dvI_e, rmI_e, oV_e, oN_e, lt_e, rZ_e, br_T, br_F, fR_sI, aI_sI, aL_sI, aR_sI, kd_sI, ln_sI, hn_sI, hm_sI, fI_sI_n, fI_sR, aI_sR, aL_sR, aR_sR, kd_sR, ln_sR, hn_sR, hm_sR, fR_sR_n, fI_tI, fR_tI, aL_tI, aR_tI, kd_tI, ln_tI, hn_tI, hm_tI, aI_tI_n, fI_tL, fR_tL, aI_tL, aR_tL, kd_tL, ln_tL, hn_tL, hm_tL, aL_tL_n, fI_tR, fR_tR, aI_tR, aL_tR, kd_tR, ln_tR, hn_tR, hm_tR, aR_tR_n, hn_nw, hm_nw, rc400, rc403, rc404, rc405, rc407, rc409, rc420, rc440, bI_0, bI_1, bI_T, bI_F, iF_T, iF_F, br_not, le_nlt, not_true_eq_false, not_false_eq_true, and_self, and_true, true_and, and_false, false_and, or_true, true_or, or_false, false_or, ne_eq, reduceCtorEq, Nat.reduceLeDiff, Nat.reduceEqDiff, Nat.reduceLT, Nat.reduceAdd, Nat.reduceSub, Nat.reduceMul, Int32.reduceLT, Int32.reduceLE, Int32.reduceToNatClampNeg, Int32.reduceAdd, Int32.reduceSub, implies_true, forall_const, isIn_e, bit_e, lits, lz, l0, c, n1']
      exact hK _ _ e ⟨hS.tr e2, by rw [fL_y (show gnP h m na u np k from z), List.length_append]; rfl⟩
  · obtain rfl : k = 128 := by omega
    have c128 : ¬ nI 128 < 128 := by decide
    have le := fL_le (gnP h m na u np) 128
    have l10 : ((10 : Int32) < nI (fL (gnP h m na u np) 128).length) = (10 < (fL (gnP h m na u np) 128).length) := propext (nI_ltI (a := 10) (by omega) (by omega))
    by_cases z : 10 < (fL (gnP h m na u np) 128).length
    · have hn2 := no_l hR'
      simp (config := {decide := true}) only [gI_e, gR_e, pI_e, pZ_e, pR_e, ldI_e, ldZ_e, ldL_e, ldR_e, stI_e, stZ_e, stL_e, stR_e, alN_e, nwA_e, nwO_e, dvI_e, rmI_e, oV_e, oN_e, lt_e, rZ_e, br_T, br_F, fR_sI, aI_sI, aL_sI, aR_sI, kd_sI, ln_sI, hn_sI, hm_sI, fI_sI_n, fI_sR, aI_sR, aL_sR, aR_sR, kd_sR, ln_sR, hn_sR, hm_sR, fR_sR_n, fI_tI, fR_tI, aL_tI, aR_tI, kd_tI, ln_tI, hn_tI, hm_tI, aI_tI_n, fI_tL, fR_tL, aI_tL, aR_tL, kd_tL, ln_tL, hn_tL, hm_tL, aL_tL_n, fI_tR, fR_tR, aI_tR, aL_tR, kd_tR, ln_tR, hn_tR, hm_tR, aR_tR_n, hn_nw, hm_nw, rc400, rc403, rc404, rc405, rc407, rc409, rc420, rc440, bI_0, bI_1, bI_T, bI_F, iF_T, iF_F, br_not, le_nlt, not_true_eq_false, not_false_eq_true, and_self, and_true, true_and, and_false, false_and, or_true, true_or, or_false, false_or, ne_eq, reduceCtorEq, Nat.reduceLeDiff, Nat.reduceEqDiff, Nat.reduceLT, Nat.reduceAdd, Nat.reduceSub, Nat.reduceMul, Int32.reduceLT, Int32.reduceLE, Int32.reduceToNatClampNeg, Int32.reduceAdd, Int32.reduceSub, implies_true, forall_const, isIn_e, bit_e, lits, hA, c128, l10, z, hn2]
      exact hN (fun w => absurd z (Nat.not_lt.mpr w)) h' hS
    · simp (config := {decide := true}) only [gI_e, gR_e, pI_e, pZ_e, pR_e, ldI_e, ldZ_e, ldL_e, ldR_e, stI_e, stZ_e, stL_e, stR_e, alN_e, nwA_e, nwO_e, dvI_e, rmI_e, oV_e, oN_e, lt_e, rZ_e, br_T, br_F, fR_sI, aI_sI, aL_sI, aR_sI, kd_sI, ln_sI, hn_sI, hm_sI, fI_sI_n, fI_sR, aI_sR, aL_sR, aR_sR, kd_sR, ln_sR, hn_sR, hm_sR, fR_sR_n, fI_tI, fR_tI, aL_tI, aR_tI, kd_tI, ln_tI, hn_tI, hm_tI, aI_tI_n, fI_tL, fR_tL, aI_tL, aR_tL, kd_tL, ln_tL, hn_tL, hm_tL, aL_tL_n, fI_tR, fR_tR, aI_tR, aL_tR, kd_tR, ln_tR, hn_tR, hm_tR, aR_tR_n, hn_nw, hm_nw, rc400, rc403, rc404, rc405, rc407, rc409, rc420, rc440, bI_0, bI_1, bI_T, bI_F, iF_T, iF_F, br_not, le_nlt, not_true_eq_false, not_false_eq_true, and_self, and_true, true_and, and_false, false_and, or_true, true_or, or_false, false_or, ne_eq, reduceCtorEq, Nat.reduceLeDiff, Nat.reduceEqDiff, Nat.reduceLT, Nat.reduceAdd, Nat.reduceSub, Nat.reduceMul, Int32.reduceLT, Int32.reduceLE, Int32.reduceToNatClampNeg, Int32.reduceAdd, Int32.reduceSub, implies_true, forall_const, isIn_e, bit_e, lits, hA, c128, l10, z]
      exact hY (Nat.not_lt.mp z) h' hS
theorem jsaid_e (hR : RJ y np na nm nr ne m h) {L : List Nat} (hG : GG h m y L) (l0 : 0 < L.length) (l24 : L.length ≤ 24) (hL : ∀ i, i < L.length → L.getD i 0 < na) {d : Nat} (hd : d < 3) (Q : Int32 → Hp → Prop) (hQ : ∀ h', eqX jrF jrK h h' → GG h' m y L → Q (sgV h m na L d) h') : w_X11_joined (some y) (nI (d + 1)) h (fun v h => oV h (some y) 12 <| w_X11_saidAt (some y) v h Q) := by
  refine joinR_e hR hG l0 l24 hL hd _ ?_
  intro h2 e2 g2
  have eS := eqX.s jr_sF jr_sK e2
  have hR2 := RJ.ofS hR eS
  have hA := hR2.1
  unfold JM at hA
  simp (config := {decide := true}) only [gI_e, gR_e, pI_e, pZ_e, pR_e, ldI_e, ldZ_e, ldL_e, ldR_e, stI_e, stZ_e, stL_e, stR_e, alN_e, nwA_e, nwO_e, dvI_e, rmI_e, oV_e, oN_e, lt_e, rZ_e, br_T, br_F, fR_sI, aI_sI, aL_sI, aR_sI, kd_sI, ln_sI, hn_sI, hm_sI, fI_sI_n, fI_sR, aI_sR, aL_sR, aR_sR, kd_sR, ln_sR, hn_sR, hm_sR, fR_sR_n, fI_tI, fR_tI, aL_tI, aR_tI, kd_tI, ln_tI, hn_tI, hm_tI, aI_tI_n, fI_tL, fR_tL, aI_tL, aR_tL, kd_tL, ln_tL, hn_tL, hm_tL, aL_tL_n, fI_tR, fR_tR, aI_tR, aL_tR, kd_tR, ln_tR, hn_tR, hm_tR, aR_tR_n, hn_nw, hm_nw, rc400, rc403, rc404, rc405, rc407, rc409, rc420, rc440, bI_0, bI_1, bI_T, bI_F, iF_T, iF_F, br_not, le_nlt, not_true_eq_false, not_false_eq_true, and_self, and_true, true_and, and_false, false_and, or_true, true_or, or_false, false_or, ne_eq, reduceCtorEq, Nat.reduceLeDiff, Nat.reduceEqDiff, Nat.reduceLT, Nat.reduceAdd, Nat.reduceSub, Nat.reduceMul, Int32.reduceLT, Int32.reduceLE, Int32.reduceToNatClampNeg, Int32.reduceAdd, Int32.reduceSub, implies_true, forall_const, isIn_e, bit_e, lits, hA]
  refine saidAt_e hR2 (by omega) hL g2.1 g2.2 _ _ ?_
  rw [saV_same eS]
  exact hQ h2 e2 g2
/-- the reference has written down what its groups say -/
def BR (h0 : Hp) (m : Nat → Nat) (na u np : Nat) (C : List Nat) (h : Hp) : Prop := ∀ i, i < C.length → aI h 171 (m 171) i = nI (C.getD i 0) ∧ aI h 170 (m 170) i = (bsV h0 m na (gaL h0 m na u (C.getD i 0) np) 3).2 ∧ aI h 169 (m 169) i = (bsV h0 m na (gaL h0 m na u (C.getD i 0) np) 3).1
theorem BR.xx {h0 : Hp} {u : Nat} {C : List Nat} (b : BR h0 m na u np C h) (e : eqX F K h h1) (k1 : K 169 = false) (k2 : K 170 = false) (k3 : K 171 = false) : BR h0 m na u np C h1 := by
  unfold BR at b ⊢
  rw [e.2.2.2.2.2.2.1 169 k1, e.2.2.2.2.2.2.1 170 k2, e.2.2.2.2.2.2.1 171 k3]
  exact b
theorem BR.t {h0 : Hp} {u : Nat} {C : List Nat} (b : BR h0 m na u np C h) (k : Nat) (v : Int32) : BR h0 m na u np C (tI h k (m k) C.length v) := by
  intro i hi
  obtain ⟨b1, b2, b3⟩ := b i hi
  refine ⟨?_, ?_, ?_⟩
  · rw [← b1]
    by_cases z : 171 = k
    · rw [← z, aI_tI_e, if_neg (by omega)]
    · rw [aI_tI_n _ _ _ _ _ _ z]
  · rw [← b2]
    by_cases z : 170 = k
    · rw [← z, aI_tI_e, if_neg (by omega)]
    · rw [aI_tI_n _ _ _ _ _ _ z]
  · rw [← b3]
    by_cases z : 169 = k
    · rw [← z, aI_tI_e, if_neg (by omega)]
    · rw [aI_tI_n _ _ _ _ _ _ z]
theorem GG.t {L : List Nat} (b : GG h m y L) {k : Nat} (hk : ¬ k = 164) (a j : Nat) (v : Int32) : GG (tI h k a j v) m y L := by
  unfold GG at b ⊢
  rw [fI_tI, aI_tI_n _ _ _ _ _ _ (fun z => hk z.symm)]
  exact b
theorem passB_e (hR : RJ y np na nm nr ne m h) (hx : np ≤ m 0) {u : Nat} (h10 : (cdL h m na u np).length ≤ 10) (l2 : Int32) (Q : Int32 → Hp → Prop) (hQ : ∀ h', eqS h h' → BR h m na u np (cdL h m na u np) h' → l_X11_best_213 (some y) l2 (nI (cdL h m na u np).length) 0 0 1 h' Q) : l_X11_best_90 (some y) (nI u) l2 0 0 h Q := by
  have hW := hR.2.2.2
  have bd := hR.2.2.1
  unfold l_X11_best_90
  refine Lo.count 128 (fun k s h' => eqS h h' ∧ s = (nI (fL (gnP h m na u np) k).length, nI k) ∧ BR h m na u np (fL (gnP h m na u np) k) h') ?_ 0 (Nat.zero_le _) _ _ ⟨eqS.rf h, rfl, fun i hi => absurd hi (Nat.not_lt_zero _)⟩
  rintro k s h' hk ⟨hS, rfl, hT⟩ K1 hK
  have hR' := RJ.ofS hR hS
  have hA := hR'.1
  unfold JM at hA
  unfold b_X11_best_90 n_X11_best_198
  by_cases e : k < 128
  · have c := cnF e (Nat.le_refl 128) (by decide)
    have c128 : nI k < 128 := c.1
    simp (config := {decide := true}) only [gI_e, gR_e, pI_e, pZ_e, pR_e, ldI_e, ldZ_e, ldL_e, ldR_e, stI_e, stZ_e, stL_e, stR_e, alN_e, nwA_e, nwO_e, dvI_e, rmI_e, oV_e, oN_e, lt_e, rZ_e, br_T, br_F, fR_sI, aI_sI, aL_sI, aR_sI, kd_sI, ln_sI, hn_sI, hm_sI, fI_sI_n, fI_sR, aI_sR, aL_sR, aR_sR, kd_sR, ln_sR, hn_sR, hm_sR, fR_sR_n, fI_tI, fR_tI, aL_tI, aR_tI, kd_tI, ln_tI, hn_tI, hm_tI, aI_tI_n, fI_tL, fR_tL, aI_tL, aR_tL, kd_tL, ln_tL, hn_tL, hm_tL, aL_tL_n, fI_tR, fR_tR, aI_tR, aL_tR, kd_tR, ln_tR, hn_tR, hm_tR, aR_tR_n, hn_nw, hm_nw, rc400, rc403, rc404, rc405, rc407, rc409, rc420, rc440, bI_0, bI_1, bI_T, bI_F, iF_T, iF_F, br_not, le_nlt, not_true_eq_false, not_false_eq_true, and_self, and_true, true_and, and_false, false_and, or_true, true_or, or_false, false_or, ne_eq, reduceCtorEq, Nat.reduceLeDiff, Nat.reduceEqDiff, Nat.reduceLT, Nat.reduceAdd, Nat.reduceSub, Nat.reduceMul, Int32.reduceLT, Int32.reduceLE, Int32.reduceToNatClampNeg, Int32.reduceAdd, Int32.reduceSub, implies_true, forall_const, isIn_e, bit_e, lits, hA, c128]
    refine gathersX_e hR' (Or.inr hx) _ ?_
    intro h2 e2 g2
    rw [gaL_same hS.b] at g2 ⊢
    have eS2 := hS.tr (eqX.s gx_sF gx_sK e2)
    have hR2 := RJ.ofS hR eS2
    have hA2 := hR2.1
    unfold JM at hA2
    have hT2 := hT.xx e2 rfl rfl rfl
    have ln := gaL_len hW u k np
    have lz : (nI (gaL h m na u k np).length = 0) = ((gaL h m na u k np).length = 0) := propext (nI_eq (b := 0) (by omega) (by omega))
    by_cases z : gaL h m na u k np = []
    · have l0 : (gaL h m na u k np).length = 0 := by rw [z]; rfl
      simp (config := {decide := true}) only [gI_e, gR_e, pI_e, pZ_e, pR_e, ldI_e, ldZ_e, ldL_e, ldR_e, stI_e, stZ_e, stL_e, stR_e, alN_e, nwA_e, nwO_e, dvI_e, rmI_e, oV_e, oN_e, lt_e, rZ_e, br_T, br_F, fR_sI, aI_sI, aL_sI, aR_sI, kd_sI, ln_sI, hn_sI, hm_sI, fI_sI_n, fI_sR, aI_sR, aL_sR, aR_sR, kd_sR, ln_sR, hn_sR, hm_sR, fR_sR_n, fI_tI, fR_tI, aL_tI, aR_tI, kd_tI, ln_tI, hn_tI, hm_tI, aI_tI_n, fI_tL, fR_tL, aI_tL, aR_tL, kd_tL, ln_tL, hn_tL, hm_tL, aL_tL_n, fI_tR, fR_tR, aI_tR, aL_tR, kd_tR, ln_tR, hn_tR, hm_tR, aR_tR_n, hn_nw, hm_nw, rc400, rc403, rc404, rc405, rc407, rc409, rc420, rc440, bI_0, bI_1, bI_T, bI_F, iF_T, iF_F, br_not, le_nlt, not_true_eq_false, not_false_eq_true, and_self, and_true, true_and, and_false, false_and, or_true, true_or, or_false, false_or, ne_eq, reduceCtorEq, Nat.reduceLeDiff, Nat.reduceEqDiff, Nat.reduceLT, Nat.reduceAdd, Nat.reduceSub, Nat.reduceMul, Int32.reduceLT, Int32.reduceLE, Int32.reduceToNatClampNeg, Int32.reduceAdd, Int32.reduceSub, implies_true, forall_const, isIn_e, bit_e, lits, lz, l0, c]
      rw [← fL_n (show ¬ gnP h m na u np k from fun w => w z)] at hT2 ⊢
      exact hK _ _ e ⟨eS2, rfl, hT2⟩
    have lp : 0 < (gaL h m na u k np).length := List.length_pos_iff.mpr z
    have l0 : ¬ (gaL h m na u k np).length = 0 := by omega
    have fy := fL_y (show gnP h m na u np k from z)
    have n10 : (fL (gnP h m na u np) k).length < 10 := by
      have := fL_pre (gnP h m na u np) (k + 1) (128 - (k + 1))
      rw [show k + 1 + (128 - (k + 1)) = 128 by omega, fy, List.length_append, List.length_singleton] at this
      have h10' : (fL (gnP h m na u np) 128).length ≤ 10 := h10
      omega
    generalize hC : fL (gnP h m na u np) k = C at *
    generalize hLL : gaL h m na u k np = L at *
    have cn := cnF n10 (Nat.le_refl 10) (by decide)
    have hL : ∀ i, i < L.length → L.getD i 0 < na := fun i hi => (ga_m hW e (by have := gD_mem hi; rw [← hLL] at this ⊢; exact this)).1
    simp (config := {decide := true}) only [gI_e, gR_e, pI_e, pZ_e, pR_e, ldI_e, ldZ_e, ldL_e, ldR_e, stI_e, stZ_e, stL_e, stR_e, alN_e, nwA_e, nwO_e, dvI_e, rmI_e, oV_e, oN_e, lt_e, rZ_e, br_T, br_F, fR_sI, aI_sI, aL_sI, aR_sI, kd_sI, ln_sI, hn_sI, hm_sI, fI_sI_n, fI_sR, aI_sR, aL_sR, aR_sR, kd_sR, ln_sR, hn_sR, hm_sR, fR_sR_n, fI_tI, fR_tI, aL_tI, aR_tI, kd_tI, ln_tI, hn_tI, hm_tI, aI_tI_n, fI_tL, fR_tL, aI_tL, aR_tL, kd_tL, ln_tL, hn_tL, hm_tL, aL_tL_n, fI_tR, fR_tR, aI_tR, aL_tR, kd_tR, ln_tR, hn_tR, hm_tR, aR_tR_n, hn_nw, hm_nw, rc400, rc403, rc404, rc405, rc407, rc409, rc420, rc440, bI_0, bI_1, bI_T, bI_F, iF_T, iF_F, br_not, le_nlt, not_true_eq_false, not_false_eq_true, and_self, and_true, true_and, and_false, false_and, or_true, true_or, or_false, false_or, ne_eq, reduceCtorEq, Nat.reduceLeDiff, Nat.reduceEqDiff, Nat.reduceLT, Nat.reduceAdd, Nat.reduceSub, Nat.reduceMul, Int32.reduceLT, Int32.reduceLE, Int32.reduceToNatClampNeg, Int32.reduceAdd, Int32.reduceSub, implies_true, forall_const, isIn_e, bit_e, lits, hA2, lz, l0, cn]
    have e3 : eqS h (tI (tI h2 171 (m 171) C.length (nI k)) 170 (m 170) C.length 1) := (eS2.tI rfl _ _ _).tI rfl _ _ _
    refine jsaid_e (d := 0) (RJ.ofS hR e3) ((g2.t (by decide) _ _ _).t (by decide) _ _ _) lp (by omega) hL (by decide) _ ?_
    intro h4 e4 g4
    have eS4 := e3.tr (eqX.s jr_sF jr_sK e4)
    have hR4 := RJ.ofS hR eS4
    have hA4 := hR4.1
    unfold JM at hA4
    rw [sgV_same e3.b]
    have hT4 := ((hT2.t 171 (nI k)).t 170 1).xx e4 rfl rfl rfl
    simp (config := {decide := true}) only [gI_e, gR_e, pI_e, pZ_e, pR_e, ldI_e, ldZ_e, ldL_e, ldR_e, stI_e, stZ_e, stL_e, stR_e, alN_e, nwA_e, nwO_e, dvI_e, rmI_e, oV_e, oN_e, lt_e, rZ_e, br_T, br_F, fR_sI, aI_sI, aL_sI, aR_sI, kd_sI, ln_sI, hn_sI, hm_sI, fI_sI_n, fI_sR, aI_sR, aL_sR, aR_sR, kd_sR, ln_sR, hn_sR, hm_sR, fR_sR_n, fI_tI, fR_tI, aL_tI, aR_tI, kd_tI, ln_tI, hn_tI, hm_tI, aI_tI_n, fI_tL, fR_tL, aI_tL, aR_tL, kd_tL, ln_tL, hn_tL, hm_tL, aL_tL_n, fI_tR, fR_tR, aI_tR, aL_tR, kd_tR, ln_tR, hn_tR, hm_tR, aR_tR_n, hn_nw, hm_nw, rc400, rc403, rc404, rc405, rc407, rc409, rc420, rc440, bI_0, bI_1, bI_T, bI_F, iF_T, iF_F, br_not, le_nlt, not_true_eq_false, not_false_eq_true, and_self, and_true, true_and, and_false, false_and, or_true, true_or, or_false, false_or, ne_eq, reduceCtorEq, Nat.reduceLeDiff, Nat.reduceEqDiff, Nat.reduceLT, Nat.reduceAdd, Nat.reduceSub, Nat.reduceMul, Int32.reduceLT, Int32.reduceLE, Int32.reduceToNatClampNeg, Int32.reduceAdd, Int32.reduceSub, implies_true, forall_const, isIn_e, bit_e, lits, hA4, cn]
    unfold l_X11_best_144
    have pos := sgV_pos hW (by omega) (by omega) lp (by omega) hL 0
    have a4 : aI h4 171 (m 171) C.length = nI k := by
      rw [e4.2.2.2.2.2.2.1 171 rfl]
      simp (config := {decide := true}) only [fR_sI, aI_sI, aL_sI, aR_sI, kd_sI, ln_sI, hn_sI, hm_sI, fI_sI_n, fI_sR, aI_sR, aL_sR, aR_sR, kd_sR, ln_sR, hn_sR, hm_sR, fR_sR_n, fI_tI, fR_tI, aL_tI, aR_tI, kd_tI, ln_tI, hn_tI, hm_tI, aI_tI_n, fI_tL, fR_tL, aI_tL, aR_tL, kd_tL, ln_tL, hn_tL, hm_tL, aL_tL_n, fI_tR, fR_tR, aI_tR, aL_tR, kd_tR, ln_tR, hn_tR, hm_tR, aR_tR_n, hn_nw, hm_nw, fI_sI_e, fR_sR_e, aI_tI_e, aL_tL_e, aR_tR_e, true_and, if_true]
    have a5 : aI h4 170 (m 170) C.length = 1 := by
      rw [e4.2.2.2.2.2.2.1 170 rfl]
      simp (config := {decide := true}) only [fR_sI, aI_sI, aL_sI, aR_sI, kd_sI, ln_sI, hn_sI, hm_sI, fI_sI_n, fI_sR, aI_sR, aL_sR, aR_sR, kd_sR, ln_sR, hn_sR, hm_sR, fR_sR_n, fI_tI, fR_tI, aL_tI, aR_tI, kd_tI, ln_tI, hn_tI, hm_tI, aI_tI_n, fI_tL, fR_tL, aI_tL, aR_tL, kd_tL, ln_tL, hn_tL, hm_tL, aL_tL_n, fI_tR, fR_tR, aI_tR, aL_tR, kd_tR, ln_tR, hn_tR, hm_tR, aR_tR_n, hn_nw, hm_nw, fI_sI_e, fR_sR_e, aI_tI_e, aL_tL_e, aR_tR_e, true_and, if_true]
    have b1 : bsV h m na L 1 = (sgV h m na L 0, 1) := by
      show iF ((0 : Int32) < sgV h m na L 0) (sgV h m na L 0, nI (0 + 1)) (0, 0) = _
      rw [iF_y pos]
      rfl
    refine Lo.count 3 (fun t s3 h3 => eqS h h3 ∧ s3 = nI (t + 1) ∧ GG h3 m y L ∧ BR h m na u np C h3 ∧ aI h3 171 (m 171) C.length = nI k ∧ aI h3 170 (m 170) C.length = (bsV h m na L t).2 ∧ aI h3 169 (m 169) C.length = (bsV h m na L t).1) ?_ 1 (by decide) _ _ ⟨eS4.tI rfl _ _ _, rfl, g4.t (by decide) _ _ _, hT4.t 169 _, ?_, ?_, ?_⟩
    rotate_left
    · simp (config := {decide := true}) only [fR_sI, aI_sI, aL_sI, aR_sI, kd_sI, ln_sI, hn_sI, hm_sI, fI_sI_n, fI_sR, aI_sR, aL_sR, aR_sR, kd_sR, ln_sR, hn_sR, hm_sR, fR_sR_n, fI_tI, fR_tI, aL_tI, aR_tI, kd_tI, ln_tI, hn_tI, hm_tI, aI_tI_n, fI_tL, fR_tL, aI_tL, aR_tL, kd_tL, ln_tL, hn_tL, hm_tL, aL_tL_n, fI_tR, fR_tR, aI_tR, aL_tR, kd_tR, ln_tR, hn_tR, hm_tR, aR_tR_n, hn_nw, hm_nw]
      exact a4
    · simp (config := {decide := true}) only [fR_sI, aI_sI, aL_sI, aR_sI, kd_sI, ln_sI, hn_sI, hm_sI, fI_sI_n, fI_sR, aI_sR, aL_sR, aR_sR, kd_sR, ln_sR, hn_sR, hm_sR, fR_sR_n, fI_tI, fR_tI, aL_tI, aR_tI, kd_tI, ln_tI, hn_tI, hm_tI, aI_tI_n, fI_tL, fR_tL, aI_tL, aR_tL, kd_tL, ln_tL, hn_tL, hm_tL, aL_tL_n, fI_tR, fR_tR, aI_tR, aL_tR, kd_tR, ln_tR, hn_tR, hm_tR, aR_tR_n, hn_nw, hm_nw]
      rw [a5, b1]
    · simp (config := {decide := true}) only [fR_sI, aI_sI, aL_sI, aR_sI, kd_sI, ln_sI, hn_sI, hm_sI, fI_sI_n, fI_sR, aI_sR, aL_sR, aR_sR, kd_sR, ln_sR, hn_sR, hm_sR, fR_sR_n, fI_tI, fR_tI, aL_tI, aR_tI, kd_tI, ln_tI, hn_tI, hm_tI, aI_tI_n, fI_tL, fR_tL, aI_tL, aR_tL, kd_tL, ln_tL, hn_tL, hm_tL, aL_tL_n, fI_tR, fR_tR, aI_tR, aL_tR, kd_tR, ln_tR, hn_tR, hm_tR, aR_tR_n, hn_nw, hm_nw, fI_sI_e, fR_sR_e, aI_tI_e, aL_tL_e, aR_tR_e, true_and, if_true]
      rw [b1]
    rintro t s3 h3 ht ⟨eS3, rfl, g3, hT3, p1, p2, p3⟩ K2 hK2
    have hR3 := RJ.ofS hR eS3
    have hA3 := hR3.1
    unfold JM at hA3
    unfold b_X11_best_144 n_X11_best_189 n_X11_best_198
    by_cases e5 : t < 3
    · have c4 : nI (t + 1) < 4 := (cnF (show t + 1 < 4 by omega) (Nat.le_refl 4) (by decide)).1
      have ct := n1 (t + 1)
      simp (config := {decide := true}) only [gI_e, gR_e, pI_e, pZ_e, pR_e, ldI_e, ldZ_e, ldL_e, ldR_e, stI_e, stZ_e, stL_e, stR_e, alN_e, nwA_e, nwO_e, dvI_e, rmI_e, oV_e, oN_e, lt_e, rZ_e, br_T, br_F, fR_sI, aI_sI, aL_sI, aR_sI, kd_sI, ln_sI, hn_sI, hm_sI, fI_sI_n, fI_sR, aI_sR, aL_sR, aR_sR, kd_sR, ln_sR, hn_sR, hm_sR, fR_sR_n, fI_tI, fR_tI, aL_tI, aR_tI, kd_tI, ln_tI, hn_tI, hm_tI, aI_tI_n, fI_tL, fR_tL, aI_tL, aR_tL, kd_tL, ln_tL, hn_tL, hm_tL, aL_tL_n, fI_tR, fR_tR, aI_tR, aL_tR, kd_tR, ln_tR, hn_tR, hm_tR, aR_tR_n, hn_nw, hm_nw, rc400, rc403, rc404, rc405, rc407, rc409, rc420, rc440, bI_0, bI_1, bI_T, bI_F, iF_T, iF_F, br_not, le_nlt, not_true_eq_false, not_false_eq_true, and_self, and_true, true_and, and_false, false_and, or_true, true_or, or_false, false_or, ne_eq, reduceCtorEq, Nat.reduceLeDiff, Nat.reduceEqDiff, Nat.reduceLT, Nat.reduceAdd, Nat.reduceSub, Nat.reduceMul, Int32.reduceLT, Int32.reduceLE, Int32.reduceToNatClampNeg, Int32.reduceAdd, Int32.reduceSub, implies_true, forall_const, isIn_e, bit_e, lits, hA3, c4]
      refine jsaid_e (d := t) hR3 g3 lp (by omega) hL e5 _ ?_
      intro h6 e6 g6
      have eS6 := eS3.tr (eqX.s jr_sF jr_sK e6)
      have hR6 := RJ.ofS hR eS6
      have hA6 := hR6.1
      unfold JM at hA6
      rw [sgV_same eS3.b]
      have bs : bsV h m na L (t + 1) = iF ((bsV h m na L t).1 < sgV h m na L t) (sgV h m na L t, nI (t + 1)) (bsV h m na L t) := rfl
      have q1 : aI h6 171 (m 171) C.length = nI k := by rw [e6.2.2.2.2.2.2.1 171 rfl]; exact p1
      have q2 : aI h6 170 (m 170) C.length = (bsV h m na L t).2 := by rw [e6.2.2.2.2.2.2.1 170 rfl]; exact p2
      have q3 : aI h6 169 (m 169) C.length = (bsV h m na L t).1 := by rw [e6.2.2.2.2.2.2.1 169 rfl]; exact p3
      by_cases w : (bsV h m na L t).1 < sgV h m na L t
      · rw [iF_y w] at bs
        simp (config := {decide := true}) only [gI_e, gR_e, pI_e, pZ_e, pR_e, ldI_e, ldZ_e, ldL_e, ldR_e, stI_e, stZ_e, stL_e, stR_e, alN_e, nwA_e, nwO_e, dvI_e, rmI_e, oV_e, oN_e, lt_e, rZ_e, br_T, br_F, fR_sI, aI_sI, aL_sI, aR_sI, kd_sI, ln_sI, hn_sI, hm_sI, fI_sI_n, fI_sR, aI_sR, aL_sR, aR_sR, kd_sR, ln_sR, hn_sR, hm_sR, fR_sR_n, fI_tI, fR_tI, aL_tI, aR_tI, kd_tI, ln_tI, hn_tI, hm_tI, aI_tI_n, fI_tL, fR_tL, aI_tL, aR_tL, kd_tL, ln_tL, hn_tL, hm_tL, aL_tL_n, fI_tR, fR_tR, aI_tR, aL_tR, kd_tR, ln_tR, hn_tR, hm_tR, aR_tR_n, hn_nw, hm_nw, rc400, rc403, rc404, rc405, rc407, rc409, rc420, rc440, bI_0, bI_1, bI_T, bI_F, iF_T, iF_F, br_not, le_nlt, not_true_eq_false, not_false_eq_true, and_self, and_true, true_and, and_false, false_and, or_true, true_or, or_false, false_or, ne_eq, reduceCtorEq, Nat.reduceLeDiff, Nat.reduceEqDiff, Nat.reduceLT, Nat.reduceAdd, Nat.reduceSub, Nat.reduceMul, Int32.reduceLT, Int32.reduceLE, Int32.reduceToNatClampNeg, Int32.reduceAdd, Int32.reduceSub, implies_true, forall_const, isIn_e, bit_e, lits, hA6, cn, q3, w, ct]
        refine hK2 _ _ e5 ⟨(eS6.tI rfl _ _ _).tI rfl _ _ _, rfl, (g6.t (by decide) _ _ _).t (by decide) _ _ _, ((hT3.xx e6 rfl rfl rfl).t 169 _).t 170 _, ?_, ?_, ?_⟩
        · simp (config := {decide := true}) only [fR_sI, aI_sI, aL_sI, aR_sI, kd_sI, ln_sI, hn_sI, hm_sI, fI_sI_n, fI_sR, aI_sR, aL_sR, aR_sR, kd_sR, ln_sR, hn_sR, hm_sR, fR_sR_n, fI_tI, fR_tI, aL_tI, aR_tI, kd_tI, ln_tI, hn_tI, hm_tI, aI_tI_n, fI_tL, fR_tL, aI_tL, aR_tL, kd_tL, ln_tL, hn_tL, hm_tL, aL_tL_n, fI_tR, fR_tR, aI_tR, aL_tR, kd_tR, ln_tR, hn_tR, hm_tR, aR_tR_n, hn_nw, hm_nw]
          exact q1
        · rw [bs]
          simp (config := {decide := true}) only [fR_sI, aI_sI, aL_sI, aR_sI, kd_sI, ln_sI, hn_sI, hm_sI, fI_sI_n, fI_sR, aI_sR, aL_sR, aR_sR, kd_sR, ln_sR, hn_sR, hm_sR, fR_sR_n, fI_tI, fR_tI, aL_tI, aR_tI, kd_tI, ln_tI, hn_tI, hm_tI, aI_tI_n, fI_tL, fR_tL, aI_tL, aR_tL, kd_tL, ln_tL, hn_tL, hm_tL, aL_tL_n, fI_tR, fR_tR, aI_tR, aL_tR, kd_tR, ln_tR, hn_tR, hm_tR, aR_tR_n, hn_nw, hm_nw, fI_sI_e, fR_sR_e, aI_tI_e, aL_tL_e, aR_tR_e, true_and, if_true]
        · rw [bs]
          simp (config := {decide := true}) only [fR_sI, aI_sI, aL_sI, aR_sI, kd_sI, ln_sI, hn_sI, hm_sI, fI_sI_n, fI_sR, aI_sR, aL_sR, aR_sR, kd_sR, ln_sR, hn_sR, hm_sR, fR_sR_n, fI_tI, fR_tI, aL_tI, aR_tI, kd_tI, ln_tI, hn_tI, hm_tI, aI_tI_n, fI_tL, fR_tL, aI_tL, aR_tL, kd_tL, ln_tL, hn_tL, hm_tL, aL_tL_n, fI_tR, fR_tR, aI_tR, aL_tR, kd_tR, ln_tR, hn_tR, hm_tR, aR_tR_n, hn_nw, hm_nw, fI_sI_e, fR_sR_e, aI_tI_e, aL_tL_e, aR_tR_e, true_and, if_true]
      · rw [iF_n w] at bs
        simp (config := {decide := true}) only [gI_e, gR_e, pI_e, pZ_e, pR_e, ldI_e, ldZ_e, ldL_e, ldR_e, stI_e, stZ_e, stL_e, stR_e, alN_e, nwA_e, nwO_e, dvI_e, rmI_e, oV_e, oN_e, lt_e, rZ_e, br_T, br_F, fR_sI, aI_sI, aL_sI, aR_sI, kd_sI, ln_sI, hn_sI, hm_sI, fI_sI_n, fI_sR, aI_sR, aL_sR, aR_sR, kd_sR, ln_sR, hn_sR, hm_sR, fR_sR_n, fI_tI, fR_tI, aL_tI, aR_tI, kd_tI, ln_tI, hn_tI, hm_tI, aI_tI_n, fI_tL, fR_tL, aI_tL, aR_tL, kd_tL, ln_tL, hn_tL, hm_tL, aL_tL_n, fI_tR, fR_tR, aI_tR, aL_tR, kd_tR, ln_tR, hn_tR, hm_tR, aR_tR_n, hn_nw, hm_nw, rc400, rc403, rc404, rc405, rc407, rc409, rc420, rc440, bI_0, bI_1, bI_T, bI_F, iF_T, iF_F, br_not, le_nlt, not_true_eq_false, not_false_eq_true, and_self, and_true, true_and, and_false, false_and, or_true, true_or, or_false, false_or, ne_eq, reduceCtorEq, Nat.reduceLeDiff, Nat.reduceEqDiff, Nat.reduceLT, Nat.reduceAdd, Nat.reduceSub, Nat.reduceMul, Int32.reduceLT, Int32.reduceLE, Int32.reduceToNatClampNeg, Int32.reduceAdd, Int32.reduceSub, implies_true, forall_const, isIn_e, bit_e, lits, hA6, cn, q3, w, ct]
        exact hK2 _ _ e5 ⟨eS6, rfl, g6, hT3.xx e6 rfl rfl rfl, q1, by rw [bs]; exact q2, by rw [bs]; exact q3⟩
    · obtain rfl : t = 3 := by omega
      have c4 : ¬ nI (3 + 1) < 4 := by decide
      have n1' := n1 C.length
      simp (config := {decide := true}) only [gI_e, gR_e, pI_e, pZ_e, pR_e, ldI_e, ldZ_e, ldL_e, ldR_e, stI_e, stZ_e, stL_e, stR_e, alN_e, nwA_e, nwO_e, dvI_e, rmI_e, oV_e, oN_e, lt_e, rZ_e, br_T, br_F, fR_sI, aI_sI, aL_sI, aR_sI, kd_sI, ln_sI, hn_sI, hm_sI, fI_sI_n, fI_sR, aI_sR, aL_sR, aR_sR, kd_sR, ln_sR, hn_sR, hm_sR, fR_sR_n, fI_tI, fR_tI, aL_tI, aR_tI, kd_tI, ln_tI, hn_tI, hm_tI, aI_tI_n, fI_tL, fR_tL, aI_tL, aR_tL, kd_tL, ln_tL, hn_tL, hm_tL, aL_tL_n, fI_tR, fR_tR, aI_tR, aL_tR, kd_tR, ln_tR, hn_tR, hm_tR, aR_tR_n, hn_nw, hm_nw, rc400, rc403, rc404, rc405, rc407, rc409, rc420, rc440, bI_0, bI_1, bI_T, bI_F, iF_T, iF_F, br_not, le_nlt, not_true_eq_false, not_false_eq_true, and_self, and_true, true_and, and_false, false_and, or_true, true_or, or_false, false_or, ne_eq, reduceCtorEq, Nat.reduceLeDiff, Nat.reduceEqDiff, Nat.reduceLT, Nat.reduceAdd, Nat.reduceSub, Nat.reduceMul, Int32.reduceLT, Int32.reduceLE, Int32.reduceToNatClampNeg, Int32.reduceAdd, Int32.reduceSub, implies_true, forall_const, isIn_e, bit_e, lits, c4, n1', c]
      refine hK _ _ e ⟨eS3, by rw [fy, List.length_append]; rfl, ?_⟩
      rw [fy]
      intro i hi
      rw [List.length_append, List.length_singleton] at hi
      by_cases v : i = C.length
      · rw [v, gD_r, hLL]
        exact ⟨p1, p2, p3⟩
      · rw [gD_l (by omega)]
        exact hT3 i (by omega)
  · obtain rfl : k = 128 := by omega
    have c128 : ¬ nI 128 < 128 := by decide
    simp (config := {decide := true}) only [gI_e, gR_e, pI_e, pZ_e, pR_e, ldI_e, ldZ_e, ldL_e, ldR_e, stI_e, stZ_e, stL_e, stR_e, alN_e, nwA_e, nwO_e, dvI_e, rmI_e, oV_e, oN_e, lt_e, rZ_e, br_T, br_F, fR_sI, aI_sI, aL_sI, aR_sI, kd_sI, ln_sI, hn_sI, hm_sI, fI_sI_n, fI_sR, aI_sR, aL_sR, aR_sR, kd_sR, ln_sR, hn_sR, hm_sR, fR_sR_n, fI_tI, fR_tI, aL_tI, aR_tI, kd_tI, ln_tI, hn_tI, hm_tI, aI_tI_n, fI_tL, fR_tL, aI_tL, aR_tL, kd_tL, ln_tL, hn_tL, hm_tL, aL_tL_n, fI_tR, fR_tR, aI_tR, aL_tR, kd_tR, ln_tR, hn_tR, hm_tR, aR_tR_n, hn_nw, hm_nw, rc400, rc403, rc404, rc405, rc407, rc409, rc420, rc440, bI_0, bI_1, bI_T, bI_F, iF_T, iF_F, br_not, le_nlt, not_true_eq_false, not_false_eq_true, and_self, and_true, true_and, and_false, false_and, or_true, true_or, or_false, false_or, ne_eq, reduceCtorEq, Nat.reduceLeDiff, Nat.reduceEqDiff, Nat.reduceLT, Nat.reduceAdd, Nat.reduceSub, Nat.reduceMul, Int32.reduceLT, Int32.reduceLE, Int32.reduceToNatClampNeg, Int32.reduceAdd, Int32.reduceSub, implies_true, forall_const, isIn_e, bit_e, lits, hA, c128]
    exact hQ h' hS hT
end BESTR
