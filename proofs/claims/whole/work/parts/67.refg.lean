section REFG
variable {x y b0 s0 np na nm nr ne r sb n a d : Nat} {g : Nat → Nat → Nat} {m : Nat → Nat} {h0 h h1 : Hp} {L V : Nat → Int32} {S C A P : List Int32} {T : List RT}
theorem st_sign (hB : RB y r sb n L m h0) {c z : Int32} (hcz : c = 38 ∧ z = 1 ∨ c = 124 ∧ z = 0) (hA : A = [] ∨ ∃ A' c, A = A' ++ [c] ∧ ¬ c = 38 ∧ (c = 124 → ¬ z = 0)) (hP : ∀ c, c ∈ P → c = 38 ∨ c = 124 ∧ z = 0) (R : KQ y m r n h0 h a (A ++ P) d C T) (bd : 2 * T.length + C.length + (A ++ P).length ≤ a) (w : grN L n (a, -1) = c) (l3 : Int32) (Q : Int32 → Hp → Prop) (K : Int32 → Int32 → Hp → Prop) (hK : ∀ h', KQ y m r n h0 h' (a + 1) (A ++ [c]) d (C ++ pcode P) T → K l3 1 h') : b_X11_compiles_96 (some y) (nI r) l3 0 h Q K := by
  have hM := hB.1
  unfold JM at hM
  have n60 := hB.2.2.2.1
  have an := R.1.2.1
  have lt := (grN_c w (by rcases hcz with ⟨q, -⟩ | ⟨q, -⟩ <;> rw [q] <;> decide)).2
  have lt' : a < n := lt
  obtain ⟨E1, E2, E3, E4, f9, f10⟩ := R.1.f hB
  have p3 := R.1.2.2
  have ne : (nI a = nI n) = False := eq_false (fun q => by have := (nI_eq (by omega) (by omega)).mp q; omega)
  have lAP : (A ++ P).length = A.length + P.length := List.length_append
  have body : n_X11_compiles_270 (some y) (nI r) l3 c z (nI r) (some y) h Q K := by
    unfold n_X11_compiles_270 n_X11_compiles_384
    simp (config := {decide := true}) only [gI_e, gR_e, pI_e, pZ_e, pR_e, ldI_e, ldZ_e, ldL_e, ldR_e, stI_e, stZ_e, stL_e, stR_e, alN_e, nwA_e, nwO_e, dvI_e, rmI_e, oV_e, oN_e, lt_e, rZ_e, br_T, br_F, fR_sI, aI_sI, aL_sI, aR_sI, kd_sI, ln_sI, hn_sI, hm_sI, fI_sI_n, fI_sR, aI_sR, aL_sR, aR_sR, kd_sR, ln_sR, hn_sR, hm_sR, fR_sR_n, fI_tI, fR_tI, aL_tI, aR_tI, kd_tI, ln_tI, hn_tI, hm_tI, aI_tI_n, fI_tL, fR_tL, aI_tL, aR_tL, kd_tL, ln_tL, hn_tL, hm_tL, aL_tL_n, fI_tR, fR_tR, aI_tR, aL_tR, kd_tR, ln_tR, hn_tR, hm_tR, aR_tR_n, hn_nw, hm_nw, rc400, rc403, rc404, rc405, rc407, rc409, rc420, rc440, bI_0, bI_1, bI_T, bI_F, iF_T, iF_F, br_not, le_nlt, not_true_eq_false, not_false_eq_true, and_self, and_true, true_and, and_false, false_and, or_true, true_or, or_false, false_or, ne_eq, reduceCtorEq, Nat.reduceLeDiff, Nat.reduceEqDiff, Nat.reduceLT, Nat.reduceAdd, Nat.reduceSub, Nat.reduceMul, Int32.reduceLT, Int32.reduceLE, Int32.reduceToNatClampNeg, Int32.reduceAdd, Int32.reduceSub, implies_true, forall_const, isIn_e, bit_e, lits, E1, hM]
    refine pops_e hB hA hP R (by omega) (by omega) _ ?_
    intro h2 R2
    obtain ⟨F1, F2, F3, F4, -, -⟩ := R2.1.f hB
    have q1 := R2.2.1
    have R3 := (R2.push c).at (show a + 1 ≤ n from lt)
    have cl := cnF (show A.length < 120 by omega) (Nat.le_refl 120) (by decide)
    have q3 := R2.1.2.2
    simp (config := {decide := true}) only [gI_e, gR_e, pI_e, pZ_e, pR_e, ldI_e, ldZ_e, ldL_e, ldR_e, stI_e, stZ_e, stL_e, stR_e, alN_e, nwA_e, nwO_e, dvI_e, rmI_e, oV_e, oN_e, lt_e, rZ_e, br_T, br_F, fR_sI, aI_sI, aL_sI, aR_sI, kd_sI, ln_sI, hn_sI, hm_sI, fI_sI_n, fI_sR, aI_sR, aL_sR, aR_sR, kd_sR, ln_sR, hn_sR, hm_sR, fR_sR_n, fI_tI, fR_tI, aL_tI, aR_tI, kd_tI, ln_tI, hn_tI, hm_tI, aI_tI_n, fI_tL, fR_tL, aI_tL, aR_tL, kd_tL, ln_tL, hn_tL, hm_tL, aL_tL_n, fI_tR, fR_tR, aI_tR, aL_tR, kd_tR, ln_tR, hn_tR, hm_tR, aR_tR_n, hn_nw, hm_nw, rc400, rc403, rc404, rc405, rc407, rc409, rc420, rc440, bI_0, bI_1, bI_T, bI_F, iF_T, iF_F, br_not, le_nlt, not_true_eq_false, not_false_eq_true, and_self, and_true, true_and, and_false, false_and, or_true, true_or, or_false, false_or, ne_eq, reduceCtorEq, Nat.reduceLeDiff, Nat.reduceEqDiff, Nat.reduceLT, Nat.reduceAdd, Nat.reduceSub, Nat.reduceMul, Int32.reduceLT, Int32.reduceLE, Int32.reduceToNatClampNeg, Int32.reduceAdd, Int32.reduceSub, implies_true, forall_const, isIn_e, bit_e, lits, F1, F2, F3, hM, q1, q3, cl, n1]
    exact hK _ R3
  unfold b_X11_compiles_96 n_X11_compiles_202 n_X11_compiles_256
  rcases hcz with ⟨q, q2⟩ | ⟨q, q2⟩
  · subst q; subst q2
    simp (config := {decide := true}) only [gI_e, gR_e, pI_e, pZ_e, pR_e, ldI_e, ldZ_e, ldL_e, ldR_e, stI_e, stZ_e, stL_e, stR_e, alN_e, nwA_e, nwO_e, dvI_e, rmI_e, oV_e, oN_e, lt_e, rZ_e, br_T, br_F, fR_sI, aI_sI, aL_sI, aR_sI, kd_sI, ln_sI, hn_sI, hm_sI, fI_sI_n, fI_sR, aI_sR, aL_sR, aR_sR, kd_sR, ln_sR, hn_sR, hm_sR, fR_sR_n, fI_tI, fR_tI, aL_tI, aR_tI, kd_tI, ln_tI, hn_tI, hm_tI, aI_tI_n, fI_tL, fR_tL, aI_tL, aR_tL, kd_tL, ln_tL, hn_tL, hm_tL, aL_tL_n, fI_tR, fR_tR, aI_tR, aL_tR, kd_tR, ln_tR, hn_tR, hm_tR, aR_tR_n, hn_nw, hm_nw, rc400, rc403, rc404, rc405, rc407, rc409, rc420, rc440, bI_0, bI_1, bI_T, bI_F, iF_T, iF_F, br_not, le_nlt, not_true_eq_false, not_false_eq_true, and_self, and_true, true_and, and_false, false_and, or_true, true_or, or_false, false_or, ne_eq, reduceCtorEq, Nat.reduceLeDiff, Nat.reduceEqDiff, Nat.reduceLT, Nat.reduceAdd, Nat.reduceSub, Nat.reduceMul, Int32.reduceLT, Int32.reduceLE, Int32.reduceToNatClampNeg, Int32.reduceAdd, Int32.reduceSub, implies_true, forall_const, isIn_e, bit_e, lits, E1, hM, p3, f9, ne, letR_q hB R.1, w]
    exact body
  · subst q; subst q2
    simp (config := {decide := true}) only [gI_e, gR_e, pI_e, pZ_e, pR_e, ldI_e, ldZ_e, ldL_e, ldR_e, stI_e, stZ_e, stL_e, stR_e, alN_e, nwA_e, nwO_e, dvI_e, rmI_e, oV_e, oN_e, lt_e, rZ_e, br_T, br_F, fR_sI, aI_sI, aL_sI, aR_sI, kd_sI, ln_sI, hn_sI, hm_sI, fI_sI_n, fI_sR, aI_sR, aL_sR, aR_sR, kd_sR, ln_sR, hn_sR, hm_sR, fR_sR_n, fI_tI, fR_tI, aL_tI, aR_tI, kd_tI, ln_tI, hn_tI, hm_tI, aI_tI_n, fI_tL, fR_tL, aI_tL, aR_tL, kd_tL, ln_tL, hn_tL, hm_tL, aL_tL_n, fI_tR, fR_tR, aI_tR, aL_tR, kd_tR, ln_tR, hn_tR, hm_tR, aR_tR_n, hn_nw, hm_nw, rc400, rc403, rc404, rc405, rc407, rc409, rc420, rc440, bI_0, bI_1, bI_T, bI_F, iF_T, iF_F, br_not, le_nlt, not_true_eq_false, not_false_eq_true, and_self, and_true, true_and, and_false, false_and, or_true, true_or, or_false, false_or, ne_eq, reduceCtorEq, Nat.reduceLeDiff, Nat.reduceEqDiff, Nat.reduceLT, Nat.reduceAdd, Nat.reduceSub, Nat.reduceMul, Int32.reduceLT, Int32.reduceLE, Int32.reduceToNatClampNeg, Int32.reduceAdd, Int32.reduceSub, implies_true, forall_const, isIn_e, bit_e, lits, E1, hM, p3, f9, ne, letR_q hB R.1, w]
    exact body
theorem st_open (hB : RB y r sb n L m h0) {c : Int32} (hc : c = 33 ∨ c = 40) (hd : d < 20) (R : KQ y m r n h0 h a S d C T) (bd : 2 * T.length + C.length + S.length ≤ a) (w : grN L n (a, -1) = c) (p : Nat) (Q : Int32 → Hp → Prop) (K : Int32 → Int32 → Hp → Prop) (hK : ∀ h', KQ y m r n h0 h' (a + 1) (S ++ [c]) (d + 1) C T → K (nI (if c = 40 then p + 1 else p)) 1 h') : b_X11_compiles_96 (some y) (nI r) (nI p) 1 h Q K := by
  have hM := hB.1
  unfold JM at hM
  have n60 := hB.2.2.2.1
  have an := R.1.2.1
  have lt : a < n := (grN_c w (by rcases hc with q | q <;> rw [q] <;> decide)).2
  obtain ⟨E1, E2, E3, E4, f9, f10⟩ := R.1.f hB
  have p3 := R.1.2.2
  have ne : (nI a = nI n) = False := eq_false (fun q => by have := (nI_eq (by omega) (by omega)).mp q; omega)
  have r1 := R.2.1
  have r2 := R.2.2.1
  have d20 : (nI d = 20) = False := eq_false (fun q => by have := (nI_eq (b := 20) (by omega) (by decide)).mp q; omega)
  have cl := cnF (show S.length < 120 by omega) (Nat.le_refl 120) (by decide)
  have R3 := ((R.nest (d + 1)).push c).at (show a + 1 ≤ n from lt)
  unfold b_X11_compiles_96 n_X11_compiles_137 n_X11_compiles_189 n_X11_compiles_384
  rcases hc with q | q
  · subst q
    have fin := hK _ R3
    rw [if_neg (by decide)] at fin
    simp (config := {decide := true}) only [gI_e, gR_e, pI_e, pZ_e, pR_e, ldI_e, ldZ_e, ldL_e, ldR_e, stI_e, stZ_e, stL_e, stR_e, alN_e, nwA_e, nwO_e, dvI_e, rmI_e, oV_e, oN_e, lt_e, rZ_e, br_T, br_F, fR_sI, aI_sI, aL_sI, aR_sI, kd_sI, ln_sI, hn_sI, hm_sI, fI_sI_n, fI_sR, aI_sR, aL_sR, aR_sR, kd_sR, ln_sR, hn_sR, hm_sR, fR_sR_n, fI_tI, fR_tI, aL_tI, aR_tI, kd_tI, ln_tI, hn_tI, hm_tI, aI_tI_n, fI_tL, fR_tL, aI_tL, aR_tL, kd_tL, ln_tL, hn_tL, hm_tL, aL_tL_n, fI_tR, fR_tR, aI_tR, aL_tR, kd_tR, ln_tR, hn_tR, hm_tR, aR_tR_n, hn_nw, hm_nw, rc400, rc403, rc404, rc405, rc407, rc409, rc420, rc440, bI_0, bI_1, bI_T, bI_F, iF_T, iF_F, br_not, le_nlt, not_true_eq_false, not_false_eq_true, and_self, and_true, true_and, and_false, false_and, or_true, true_or, or_false, false_or, ne_eq, reduceCtorEq, Nat.reduceLeDiff, Nat.reduceEqDiff, Nat.reduceLT, Nat.reduceAdd, Nat.reduceSub, Nat.reduceMul, Int32.reduceLT, Int32.reduceLE, Int32.reduceToNatClampNeg, Int32.reduceAdd, Int32.reduceSub, implies_true, forall_const, isIn_e, bit_e, lits, E1, E2, E3, hM, p3, f9, ne, letR_q hB R.1, w, r1, r2, d20, cl, n1]
    exact fin
  · subst q
    have fin := hK _ R3
    rw [if_pos rfl] at fin
    simp (config := {decide := true}) only [gI_e, gR_e, pI_e, pZ_e, pR_e, ldI_e, ldZ_e, ldL_e, ldR_e, stI_e, stZ_e, stL_e, stR_e, alN_e, nwA_e, nwO_e, dvI_e, rmI_e, oV_e, oN_e, lt_e, rZ_e, br_T, br_F, fR_sI, aI_sI, aL_sI, aR_sI, kd_sI, ln_sI, hn_sI, hm_sI, fI_sI_n, fI_sR, aI_sR, aL_sR, aR_sR, kd_sR, ln_sR, hn_sR, hm_sR, fR_sR_n, fI_tI, fR_tI, aL_tI, aR_tI, kd_tI, ln_tI, hn_tI, hm_tI, aI_tI_n, fI_tL, fR_tL, aI_tL, aR_tL, kd_tL, ln_tL, hn_tL, hm_tL, aL_tL_n, fI_tR, fR_tR, aI_tR, aL_tR, kd_tR, ln_tR, hn_tR, hm_tR, aR_tR_n, hn_nw, hm_nw, rc400, rc403, rc404, rc405, rc407, rc409, rc420, rc440, bI_0, bI_1, bI_T, bI_F, iF_T, iF_F, br_not, le_nlt, not_true_eq_false, not_false_eq_true, and_self, and_true, true_and, and_false, false_and, or_true, true_or, or_false, false_or, ne_eq, reduceCtorEq, Nat.reduceLeDiff, Nat.reduceEqDiff, Nat.reduceLT, Nat.reduceAdd, Nat.reduceSub, Nat.reduceMul, Int32.reduceLT, Int32.reduceLE, Int32.reduceToNatClampNeg, Int32.reduceAdd, Int32.reduceSub, implies_true, forall_const, isIn_e, bit_e, lits, E1, E2, E3, hM, p3, f9, ne, letR_q hB R.1, w, r1, r2, d20, cl, n1]
    exact fin
theorem st_deep (hB : RB y r sb n L m h0) {c : Int32} (hc : c = 33 ∨ c = 40) (hd : d = 20) (R : KQ y m r n h0 h a S d C T) (w : grN L n (a, -1) = c) (l3 : Int32) (Q : Int32 → Hp → Prop) (K : Int32 → Int32 → Hp → Prop) (hQ : Q (nI a) h) : b_X11_compiles_96 (some y) (nI r) l3 1 h Q K := by
  have hM := hB.1
  unfold JM at hM
  have n60 := hB.2.2.2.1
  have lt : a < n := (grN_c w (by rcases hc with q | q <;> rw [q] <;> decide)).2
  obtain ⟨E1, E2, E3, E4, f9, f10⟩ := R.1.f hB
  have p3 := R.1.2.2
  have ne : (nI a = nI n) = False := eq_false (fun q => by have := (nI_eq (by omega) (by omega)).mp q; omega)
  have r2 := R.2.2.1
  rw [hd] at r2
  have r2' : fI h 1474 y = 20 := r2
  unfold b_X11_compiles_96 n_X11_compiles_137
  rcases hc with q | q
  · subst q
    simp (config := {decide := true}) only [gI_e, gR_e, pI_e, pZ_e, pR_e, ldI_e, ldZ_e, ldL_e, ldR_e, stI_e, stZ_e, stL_e, stR_e, alN_e, nwA_e, nwO_e, dvI_e, rmI_e, oV_e, oN_e, lt_e, rZ_e, br_T, br_F, fR_sI, aI_sI, aL_sI, aR_sI, kd_sI, ln_sI, hn_sI, hm_sI, fI_sI_n, fI_sR, aI_sR, aL_sR, aR_sR, kd_sR, ln_sR, hn_sR, hm_sR, fR_sR_n, fI_tI, fR_tI, aL_tI, aR_tI, kd_tI, ln_tI, hn_tI, hm_tI, aI_tI_n, fI_tL, fR_tL, aI_tL, aR_tL, kd_tL, ln_tL, hn_tL, hm_tL, aL_tL_n, fI_tR, fR_tR, aI_tR, aL_tR, kd_tR, ln_tR, hn_tR, hm_tR, aR_tR_n, hn_nw, hm_nw, rc400, rc403, rc404, rc405, rc407, rc409, rc420, rc440, bI_0, bI_1, bI_T, bI_F, iF_T, iF_F, br_not, le_nlt, not_true_eq_false, not_false_eq_true, and_self, and_true, true_and, and_false, false_and, or_true, true_or, or_false, false_or, ne_eq, reduceCtorEq, Nat.reduceLeDiff, Nat.reduceEqDiff, Nat.reduceLT, Nat.reduceAdd, Nat.reduceSub, Nat.reduceMul, Int32.reduceLT, Int32.reduceLE, Int32.reduceToNatClampNeg, Int32.reduceAdd, Int32.reduceSub, implies_true, forall_const, isIn_e, bit_e, lits, E1, hM, p3, f9, ne, letR_q hB R.1, w, r2']
    exact hQ
  · subst q
    simp (config := {decide := true}) only [gI_e, gR_e, pI_e, pZ_e, pR_e, ldI_e, ldZ_e, ldL_e, ldR_e, stI_e, stZ_e, stL_e, stR_e, alN_e, nwA_e, nwO_e, dvI_e, rmI_e, oV_e, oN_e, lt_e, rZ_e, br_T, br_F, fR_sI, aI_sI, aL_sI, aR_sI, kd_sI, ln_sI, hn_sI, hm_sI, fI_sI_n, fI_sR, aI_sR, aL_sR, aR_sR, kd_sR, ln_sR, hn_sR, hm_sR, fR_sR_n, fI_tI, fR_tI, aL_tI, aR_tI, kd_tI, ln_tI, hn_tI, hm_tI, aI_tI_n, fI_tL, fR_tL, aI_tL, aR_tL, kd_tL, ln_tL, hn_tL, hm_tL, aL_tL_n, fI_tR, fR_tR, aI_tR, aL_tR, kd_tR, ln_tR, hn_tR, hm_tR, aR_tR_n, hn_nw, hm_nw, rc400, rc403, rc404, rc405, rc407, rc409, rc420, rc440, bI_0, bI_1, bI_T, bI_F, iF_T, iF_F, br_not, le_nlt, not_true_eq_false, not_false_eq_true, and_self, and_true, true_and, and_false, false_and, or_true, true_or, or_false, false_or, ne_eq, reduceCtorEq, Nat.reduceLeDiff, Nat.reduceEqDiff, Nat.reduceLT, Nat.reduceAdd, Nat.reduceSub, Nat.reduceMul, Int32.reduceLT, Int32.reduceLE, Int32.reduceToNatClampNeg, Int32.reduceAdd, Int32.reduceSub, implies_true, forall_const, isIn_e, bit_e, lits, E1, hM, p3, f9, ne, letR_q hB R.1, w, r2']
    exact hQ
theorem st_leaf (hB : RB y r sb n L m h0) (hA : A = [] ∨ ∃ A' c, A = A' ++ [c] ∧ ¬ c = 33) {j : Nat} (hj : j ≤ d) (R : KQ y m r n h0 h a (A ++ List.replicate j 33) d C T) (bd : 2 * T.length + C.length + (A.length + j) ≤ a) (w1 : ¬ grN L n (a, -1) = 33) (w2 : ¬ grN L n (a, -1) = 40) (l3 : Int32) (Q : Int32 → Hp → Prop) (K : Int32 → Int32 → Hp → Prop) (hY : (grTst (grN L n) (a, -1)).1.2 = -1 → ∀ h', KQ y m r n h0 h' (grTst (grN L n) (a, -1)).1.1 A (d - j) (C ++ [nI T.length] ++ List.replicate j (-1)) (T ++ [(grTst (grN L n) (a, -1)).2]) → a + 3 ≤ (grTst (grN L n) (a, -1)).1.1 → K l3 0 h') (hN : ¬ (grTst (grN L n) (a, -1)).1.2 = -1 → ∀ h', KR m r h0 h' → Q (grTst (grN L n) (a, -1)).1.2 h') : b_X11_compiles_96 (some y) (nI r) l3 1 h Q K := by
  have hM := hB.1
  unfold JM at hM
  have n60 := hB.2.2.2.1
  have an := R.1.2.1
  obtain ⟨E1, E2, E3, E4, f9, f10⟩ := R.1.f hB
  have p3 := R.1.2.2
  unfold b_X11_compiles_96 n_X11_compiles_202 n_X11_compiles_384
  by_cases e : a = n
  · have c1 : grN L n (a, -1) = -1 := by
      unfold grN
      rw [if_neg (fun w => by have := w.2; omega)]
    have side : (grSide (grN L n) (a, -1)).2 = (a, nI a) := by
      unfold grSide grFld
      rw [c1, iF_n dg_m1, iF_n (by rw [fIx_m1]; decide)]
      show grF (a, -1) = (a, nI a)
      exact if_pos rfl
    have nz : ¬ ((a, nI a) : RS).2 = -1 := nI_m1 (by omega)
    have ts : (grTst (grN L n) (a, -1)).1 = (a, nI a) := by
      unfold grTst grTst2
      show (grSide (grN L n) (grP (grSg (grN L n (grSide (grN L n) (a, -1)).2)) (grSide (grN L n) (a, -1)).2)).2 = _
      rw [side, grN_z nz]
      unfold grP
      rw [iF_n (by unfold grSg; decide), grF_z nz, grSide_z nz]
    rw [ts] at hN
    have := hN nz h R.1.1
    rw [e] at p3
    have this2 : Q (nI n) h := by rw [← e]; exact this
    simp (config := {decide := true}) only [gI_e, gR_e, pI_e, pZ_e, pR_e, ldI_e, ldZ_e, ldL_e, ldR_e, stI_e, stZ_e, stL_e, stR_e, alN_e, nwA_e, nwO_e, dvI_e, rmI_e, oV_e, oN_e, lt_e, rZ_e, br_T, br_F, fR_sI, aI_sI, aL_sI, aR_sI, kd_sI, ln_sI, hn_sI, hm_sI, fI_sI_n, fI_sR, aI_sR, aL_sR, aR_sR, kd_sR, ln_sR, hn_sR, hm_sR, fR_sR_n, fI_tI, fR_tI, aL_tI, aR_tI, kd_tI, ln_tI, hn_tI, hm_tI, aI_tI_n, fI_tL, fR_tL, aI_tL, aR_tL, kd_tL, ln_tL, hn_tL, hm_tL, aL_tL_n, fI_tR, fR_tR, aI_tR, aL_tR, kd_tR, ln_tR, hn_tR, hm_tR, aR_tR_n, hn_nw, hm_nw, rc400, rc403, rc404, rc405, rc407, rc409, rc420, rc440, bI_0, bI_1, bI_T, bI_F, iF_T, iF_F, br_not, le_nlt, not_true_eq_false, not_false_eq_true, and_self, and_true, true_and, and_false, false_and, or_true, true_or, or_false, false_or, ne_eq, reduceCtorEq, Nat.reduceLeDiff, Nat.reduceEqDiff, Nat.reduceLT, Nat.reduceAdd, Nat.reduceSub, Nat.reduceMul, Int32.reduceLT, Int32.reduceLE, Int32.reduceToNatClampNeg, Int32.reduceAdd, Int32.reduceSub, implies_true, forall_const, isIn_e, bit_e, lits, E1, hM, p3, f9]
    exact this2
  have ne : (nI a = nI n) = False := eq_false (fun q => by have := (nI_eq (by omega) (by omega)).mp q; omega)
  simp (config := {decide := true}) only [gI_e, gR_e, pI_e, pZ_e, pR_e, ldI_e, ldZ_e, ldL_e, ldR_e, stI_e, stZ_e, stL_e, stR_e, alN_e, nwA_e, nwO_e, dvI_e, rmI_e, oV_e, oN_e, lt_e, rZ_e, br_T, br_F, fR_sI, aI_sI, aL_sI, aR_sI, kd_sI, ln_sI, hn_sI, hm_sI, fI_sI_n, fI_sR, aI_sR, aL_sR, aR_sR, kd_sR, ln_sR, hn_sR, hm_sR, fR_sR_n, fI_tI, fR_tI, aL_tI, aR_tI, kd_tI, ln_tI, hn_tI, hm_tI, aI_tI_n, fI_tL, fR_tL, aI_tL, aR_tL, kd_tL, ln_tL, hn_tL, hm_tL, aL_tL_n, fI_tR, fR_tR, aI_tR, aL_tR, kd_tR, ln_tR, hn_tR, hm_tR, aR_tR_n, hn_nw, hm_nw, rc400, rc403, rc404, rc405, rc407, rc409, rc420, rc440, bI_0, bI_1, bI_T, bI_F, iF_T, iF_F, br_not, le_nlt, not_true_eq_false, not_false_eq_true, and_self, and_true, true_and, and_false, false_and, or_true, true_or, or_false, false_or, ne_eq, reduceCtorEq, Nat.reduceLeDiff, Nat.reduceEqDiff, Nat.reduceLT, Nat.reduceAdd, Nat.reduceSub, Nat.reduceMul, Int32.reduceLT, Int32.reduceLE, Int32.reduceToNatClampNeg, Int32.reduceAdd, Int32.reduceSub, implies_true, forall_const, isIn_e, bit_e, lits, E1, hM, p3, f9, ne, letR_q hB R.1, w1, w2]
  refine reads_e hB R (by omega) _ (fun k1 h2 R2 lt3 => ?_) (fun k1 h2 kr k4 => ?_)
  · obtain ⟨F1, F2, F3, F4, -, -⟩ := R2.1.f hB
    have q4 := R2.2.2.2.2.1
    rw [len1] at q4
    simp (config := {decide := true}) only [gI_e, gR_e, pI_e, pZ_e, pR_e, ldI_e, ldZ_e, ldL_e, ldR_e, stI_e, stZ_e, stL_e, stR_e, alN_e, nwA_e, nwO_e, dvI_e, rmI_e, oV_e, oN_e, lt_e, rZ_e, br_T, br_F, fR_sI, aI_sI, aL_sI, aR_sI, kd_sI, ln_sI, hn_sI, hm_sI, fI_sI_n, fI_sR, aI_sR, aL_sR, aR_sR, kd_sR, ln_sR, hn_sR, hm_sR, fR_sR_n, fI_tI, fR_tI, aL_tI, aR_tI, kd_tI, ln_tI, hn_tI, hm_tI, aI_tI_n, fI_tL, fR_tL, aI_tL, aR_tL, kd_tL, ln_tL, hn_tL, hm_tL, aL_tL_n, fI_tR, fR_tR, aI_tR, aL_tR, kd_tR, ln_tR, hn_tR, hm_tR, aR_tR_n, hn_nw, hm_nw, rc400, rc403, rc404, rc405, rc407, rc409, rc420, rc440, bI_0, bI_1, bI_T, bI_F, iF_T, iF_F, br_not, le_nlt, not_true_eq_false, not_false_eq_true, and_self, and_true, true_and, and_false, false_and, or_true, true_or, or_false, false_or, ne_eq, reduceCtorEq, Nat.reduceLeDiff, Nat.reduceEqDiff, Nat.reduceLT, Nat.reduceAdd, Nat.reduceSub, Nat.reduceMul, Int32.reduceLT, Int32.reduceLE, Int32.reduceToNatClampNeg, Int32.reduceAdd, Int32.reduceSub, implies_true, forall_const, isIn_e, bit_e, lits, F1, hM, q4, nI_pred]
    refine emits_e hB R2 _ (by omega) _ ?_
    intro h3 R3
    obtain ⟨G1, G2, G3, G4, -, -⟩ := R3.1.f hB
    simp (config := {decide := true}) only [gI_e, gR_e, pI_e, pZ_e, pR_e, ldI_e, ldZ_e, ldL_e, ldR_e, stI_e, stZ_e, stL_e, stR_e, alN_e, nwA_e, nwO_e, dvI_e, rmI_e, oV_e, oN_e, lt_e, rZ_e, br_T, br_F, fR_sI, aI_sI, aL_sI, aR_sI, kd_sI, ln_sI, hn_sI, hm_sI, fI_sI_n, fI_sR, aI_sR, aL_sR, aR_sR, kd_sR, ln_sR, hn_sR, hm_sR, fR_sR_n, fI_tI, fR_tI, aL_tI, aR_tI, kd_tI, ln_tI, hn_tI, hm_tI, aI_tI_n, fI_tL, fR_tL, aI_tL, aR_tL, kd_tL, ln_tL, hn_tL, hm_tL, aL_tL_n, fI_tR, fR_tR, aI_tR, aL_tR, kd_tR, ln_tR, hn_tR, hm_tR, aR_tR_n, hn_nw, hm_nw, rc400, rc403, rc404, rc405, rc407, rc409, rc420, rc440, bI_0, bI_1, bI_T, bI_F, iF_T, iF_F, br_not, le_nlt, not_true_eq_false, not_false_eq_true, and_self, and_true, true_and, and_false, false_and, or_true, true_or, or_false, false_or, ne_eq, reduceCtorEq, Nat.reduceLeDiff, Nat.reduceEqDiff, Nat.reduceLT, Nat.reduceAdd, Nat.reduceSub, Nat.reduceMul, Int32.reduceLT, Int32.reduceLE, Int32.reduceToNatClampNeg, Int32.reduceAdd, Int32.reduceSub, implies_true, forall_const, isIn_e, bit_e, lits, G1, hM]
    refine closes_e hB hA hj R3 (by rw [len1]; omega) (by omega) _ ?_
    intro h4 R4
    exact hY k1 h4 R4 lt3
  · have k5 := hN k1 h2 kr
    rw [← k4] at k5
    have F1 : kd h2 = kd h0 := kr.1.2.2.1
    simp (config := {decide := true}) only [gI_e, gR_e, pI_e, pZ_e, pR_e, ldI_e, ldZ_e, ldL_e, ldR_e, stI_e, stZ_e, stL_e, stR_e, alN_e, nwA_e, nwO_e, dvI_e, rmI_e, oV_e, oN_e, lt_e, rZ_e, br_T, br_F, fR_sI, aI_sI, aL_sI, aR_sI, kd_sI, ln_sI, hn_sI, hm_sI, fI_sI_n, fI_sR, aI_sR, aL_sR, aR_sR, kd_sR, ln_sR, hn_sR, hm_sR, fR_sR_n, fI_tI, fR_tI, aL_tI, aR_tI, kd_tI, ln_tI, hn_tI, hm_tI, aI_tI_n, fI_tL, fR_tL, aI_tL, aR_tL, kd_tL, ln_tL, hn_tL, hm_tL, aL_tL_n, fI_tR, fR_tR, aI_tR, aL_tR, kd_tR, ln_tR, hn_tR, hm_tR, aR_tR_n, hn_nw, hm_nw, rc400, rc403, rc404, rc405, rc407, rc409, rc420, rc440, bI_0, bI_1, bI_T, bI_F, iF_T, iF_F, br_not, le_nlt, not_true_eq_false, not_false_eq_true, and_self, and_true, true_and, and_false, false_and, or_true, true_or, or_false, false_or, ne_eq, reduceCtorEq, Nat.reduceLeDiff, Nat.reduceEqDiff, Nat.reduceLT, Nat.reduceAdd, Nat.reduceSub, Nat.reduceMul, Int32.reduceLT, Int32.reduceLE, Int32.reduceToNatClampNeg, Int32.reduceAdd, Int32.reduceSub, implies_true, forall_const, isIn_e, bit_e, lits, F1, hM]
    exact k5
theorem st_close (hB : RB y r sb n L m h0) (hA : A = [] ∨ ∃ A' c, A = A' ++ [c] ∧ ¬ c = 33) {j : Nat} (hj : j ≤ d) (hP : ∀ c, c ∈ P → c = 38 ∨ c = 124) (R : KQ y m r n h0 h a (A ++ List.replicate j 33 ++ [40] ++ P) (d + 1) C T) (bd : 2 * T.length + C.length + (A ++ List.replicate j (33 : Int32) ++ [40] ++ P).length ≤ a) (w : grN L n (a, -1) = 41) {p : Nat} (hp : p ≤ 20) (Q : Int32 → Hp → Prop) (K : Int32 → Int32 → Hp → Prop) (hK : ∀ h', KQ y m r n h0 h' (a + 1) A (d - j) (C ++ pcode P ++ List.replicate j (-1)) T → K (nI p) 0 h') : b_X11_compiles_96 (some y) (nI r) (nI (p + 1)) 0 h Q K := by
  have hM := hB.1
  unfold JM at hM
  have n60 := hB.2.2.2.1
  have an := R.1.2.1
  have lt : a < n := (grN_c w (by decide)).2
  obtain ⟨E1, E2, E3, E4, f9, f10⟩ := R.1.f hB
  have p3 := R.1.2.2
  have ne : (nI a = nI n) = False := eq_false (fun q => by have := (nI_eq (by omega) (by omega)).mp q; omega)
  have lp : (0 : Int32) < nI (p + 1) := (nI_ltI (a := 0) (by omega) (by omega)).mpr (by omega)
  have pr := nI_pred p
  have pr2 : nI (p + 1) + (-1) = nI p := by rw [← Int32.sub_eq_add_neg, pr]
  rw [List.length_append, len1, List.length_append, List.length_replicate] at bd
  unfold b_X11_compiles_96 n_X11_compiles_202 n_X11_compiles_384
  simp (config := {decide := true}) only [gI_e, gR_e, pI_e, pZ_e, pR_e, ldI_e, ldZ_e, ldL_e, ldR_e, stI_e, stZ_e, stL_e, stR_e, alN_e, nwA_e, nwO_e, dvI_e, rmI_e, oV_e, oN_e, lt_e, rZ_e, br_T, br_F, fR_sI, aI_sI, aL_sI, aR_sI, kd_sI, ln_sI, hn_sI, hm_sI, fI_sI_n, fI_sR, aI_sR, aL_sR, aR_sR, kd_sR, ln_sR, hn_sR, hm_sR, fR_sR_n, fI_tI, fR_tI, aL_tI, aR_tI, kd_tI, ln_tI, hn_tI, hm_tI, aI_tI_n, fI_tL, fR_tL, aI_tL, aR_tL, kd_tL, ln_tL, hn_tL, hm_tL, aL_tL_n, fI_tR, fR_tR, aI_tR, aL_tR, kd_tR, ln_tR, hn_tR, hm_tR, aR_tR_n, hn_nw, hm_nw, rc400, rc403, rc404, rc405, rc407, rc409, rc420, rc440, bI_0, bI_1, bI_T, bI_F, iF_T, iF_F, br_not, le_nlt, not_true_eq_false, not_false_eq_true, and_self, and_true, true_and, and_false, false_and, or_true, true_or, or_false, false_or, ne_eq, reduceCtorEq, Nat.reduceLeDiff, Nat.reduceEqDiff, Nat.reduceLT, Nat.reduceAdd, Nat.reduceSub, Nat.reduceMul, Int32.reduceLT, Int32.reduceLE, Int32.reduceToNatClampNeg, Int32.reduceAdd, Int32.reduceSub, implies_true, forall_const, isIn_e, bit_e, lits, E1, hM, p3, f9, ne, letR_q hB R.1, w, lp]
  refine pops_e hB (A := A ++ List.replicate j 33 ++ [40]) (z := 0) (Or.inr ⟨A ++ List.replicate j 33, 40, rfl, by decide, fun q => absurd q (by decide)⟩) (fun c hc => (hP c hc).imp id (fun q => ⟨q, rfl⟩)) R (by omega) (by rw [List.length_append, len1, List.length_append, List.length_replicate]; omega) _ ?_
  intro h2 R2
  obtain ⟨F1, F2, F3, F4, -, -⟩ := R2.1.f hB
  obtain ⟨t1, t2⟩ := topR hB R2
  have q2 := R2.2.2.1
  have R3 := R2.pop.nest d
  have p1 := nI_pred (A ++ List.replicate j (33 : Int32)).length
  have p2 := nI_pred d
  simp (config := {decide := true}) only [gI_e, gR_e, pI_e, pZ_e, pR_e, ldI_e, ldZ_e, ldL_e, ldR_e, stI_e, stZ_e, stL_e, stR_e, alN_e, nwA_e, nwO_e, dvI_e, rmI_e, oV_e, oN_e, lt_e, rZ_e, br_T, br_F, fR_sI, aI_sI, aL_sI, aR_sI, kd_sI, ln_sI, hn_sI, hm_sI, fI_sI_n, fI_sR, aI_sR, aL_sR, aR_sR, kd_sR, ln_sR, hn_sR, hm_sR, fR_sR_n, fI_tI, fR_tI, aL_tI, aR_tI, kd_tI, ln_tI, hn_tI, hm_tI, aI_tI_n, fI_tL, fR_tL, aI_tL, aR_tL, kd_tL, ln_tL, hn_tL, hm_tL, aL_tL_n, fI_tR, fR_tR, aI_tR, aL_tR, kd_tR, ln_tR, hn_tR, hm_tR, aR_tR_n, hn_nw, hm_nw, rc400, rc403, rc404, rc405, rc407, rc409, rc420, rc440, bI_0, bI_1, bI_T, bI_F, iF_T, iF_F, br_not, le_nlt, not_true_eq_false, not_false_eq_true, and_self, and_true, true_and, and_false, false_and, or_true, true_or, or_false, false_or, ne_eq, reduceCtorEq, Nat.reduceLeDiff, Nat.reduceEqDiff, Nat.reduceLT, Nat.reduceAdd, Nat.reduceSub, Nat.reduceMul, Int32.reduceLT, Int32.reduceLE, Int32.reduceToNatClampNeg, Int32.reduceAdd, Int32.reduceSub, implies_true, forall_const, isIn_e, bit_e, lits, F1, hM, t1, q2, p1, p2, pr2]
  refine closes_e hB hA hj R3 (by rw [List.length_append, pcode_l]; omega) (by omega) _ ?_
  intro h4 R4
  obtain ⟨G1, G2, G3, G4, -, -⟩ := R4.1.f hB
  have q4 := R4.1.2.2
  have R5 := R4.at (show a + 1 ≤ n from lt)
  simp (config := {decide := true}) only [gI_e, gR_e, pI_e, pZ_e, pR_e, ldI_e, ldZ_e, ldL_e, ldR_e, stI_e, stZ_e, stL_e, stR_e, alN_e, nwA_e, nwO_e, dvI_e, rmI_e, oV_e, oN_e, lt_e, rZ_e, br_T, br_F, fR_sI, aI_sI, aL_sI, aR_sI, kd_sI, ln_sI, hn_sI, hm_sI, fI_sI_n, fI_sR, aI_sR, aL_sR, aR_sR, kd_sR, ln_sR, hn_sR, hm_sR, fR_sR_n, fI_tI, fR_tI, aL_tI, aR_tI, kd_tI, ln_tI, hn_tI, hm_tI, aI_tI_n, fI_tL, fR_tL, aI_tL, aR_tL, kd_tL, ln_tL, hn_tL, hm_tL, aL_tL_n, fI_tR, fR_tR, aI_tR, aL_tR, kd_tR, ln_tR, hn_tR, hm_tR, aR_tR_n, hn_nw, hm_nw, rc400, rc403, rc404, rc405, rc407, rc409, rc420, rc440, bI_0, bI_1, bI_T, bI_F, iF_T, iF_F, br_not, le_nlt, not_true_eq_false, not_false_eq_true, and_self, and_true, true_and, and_false, false_and, or_true, true_or, or_false, false_or, ne_eq, reduceCtorEq, Nat.reduceLeDiff, Nat.reduceEqDiff, Nat.reduceLT, Nat.reduceAdd, Nat.reduceSub, Nat.reduceMul, Int32.reduceLT, Int32.reduceLE, Int32.reduceToNatClampNeg, Int32.reduceAdd, Int32.reduceSub, implies_true, forall_const, isIn_e, bit_e, lits, G1, hM, q4, n1]
  exact hK _ R5
theorem st_stop (hB : RB y r sb n L m h0) (R : KQ y m r n h0 h a S d C T) (w1 : ¬ grN L n (a, -1) = 38) (w2 : ¬ grN L n (a, -1) = 124) {p : Nat} (hp : p ≤ 20) (w3 : grN L n (a, -1) = 41 → p = 0) (w4 : grN L n (a, -1) = 59 → ¬ p = 0) (Q : Int32 → Hp → Prop) (K : Int32 → Int32 → Hp → Prop) (hQ : Q (nI a) h) : b_X11_compiles_96 (some y) (nI r) (nI p) 0 h Q K := by
  have hM := hB.1
  unfold JM at hM
  have n60 := hB.2.2.2.1
  have an := R.1.2.1
  obtain ⟨E1, E2, E3, E4, f9, f10⟩ := R.1.f hB
  have p3 := R.1.2.2
  unfold b_X11_compiles_96 n_X11_compiles_202 n_X11_compiles_365 n_X11_compiles_379
  by_cases e : a = n
  · have q : Q (nI n) h := by rw [← e]; exact hQ
    rw [e] at p3
    simp (config := {decide := true}) only [gI_e, gR_e, pI_e, pZ_e, pR_e, ldI_e, ldZ_e, ldL_e, ldR_e, stI_e, stZ_e, stL_e, stR_e, alN_e, nwA_e, nwO_e, dvI_e, rmI_e, oV_e, oN_e, lt_e, rZ_e, br_T, br_F, fR_sI, aI_sI, aL_sI, aR_sI, kd_sI, ln_sI, hn_sI, hm_sI, fI_sI_n, fI_sR, aI_sR, aL_sR, aR_sR, kd_sR, ln_sR, hn_sR, hm_sR, fR_sR_n, fI_tI, fR_tI, aL_tI, aR_tI, kd_tI, ln_tI, hn_tI, hm_tI, aI_tI_n, fI_tL, fR_tL, aI_tL, aR_tL, kd_tL, ln_tL, hn_tL, hm_tL, aL_tL_n, fI_tR, fR_tR, aI_tR, aL_tR, kd_tR, ln_tR, hn_tR, hm_tR, aR_tR_n, hn_nw, hm_nw, rc400, rc403, rc404, rc405, rc407, rc409, rc420, rc440, bI_0, bI_1, bI_T, bI_F, iF_T, iF_F, br_not, le_nlt, not_true_eq_false, not_false_eq_true, and_self, and_true, true_and, and_false, false_and, or_true, true_or, or_false, false_or, ne_eq, reduceCtorEq, Nat.reduceLeDiff, Nat.reduceEqDiff, Nat.reduceLT, Nat.reduceAdd, Nat.reduceSub, Nat.reduceMul, Int32.reduceLT, Int32.reduceLE, Int32.reduceToNatClampNeg, Int32.reduceAdd, Int32.reduceSub, implies_true, forall_const, isIn_e, bit_e, lits, E1, hM, p3, f9]
    exact q
  have ne : (nI a = nI n) = False := eq_false (fun q => by have := (nI_eq (by omega) (by omega)).mp q; omega)
  have l0 : ((0 : Int32) < nI p) = (0 < p) := propext (nI_ltI (a := 0) (by omega) (by omega))
  have z0 : (nI p = 0) = (p = 0) := propext (nI_eq (b := 0) (by omega) (by omega))
  by_cases s3 : grN L n (a, -1) = 41
  · have := w3 s3
    subst this
    simp (config := {decide := true}) only [gI_e, gR_e, pI_e, pZ_e, pR_e, ldI_e, ldZ_e, ldL_e, ldR_e, stI_e, stZ_e, stL_e, stR_e, alN_e, nwA_e, nwO_e, dvI_e, rmI_e, oV_e, oN_e, lt_e, rZ_e, br_T, br_F, fR_sI, aI_sI, aL_sI, aR_sI, kd_sI, ln_sI, hn_sI, hm_sI, fI_sI_n, fI_sR, aI_sR, aL_sR, aR_sR, kd_sR, ln_sR, hn_sR, hm_sR, fR_sR_n, fI_tI, fR_tI, aL_tI, aR_tI, kd_tI, ln_tI, hn_tI, hm_tI, aI_tI_n, fI_tL, fR_tL, aI_tL, aR_tL, kd_tL, ln_tL, hn_tL, hm_tL, aL_tL_n, fI_tR, fR_tR, aI_tR, aL_tR, kd_tR, ln_tR, hn_tR, hm_tR, aR_tR_n, hn_nw, hm_nw, rc400, rc403, rc404, rc405, rc407, rc409, rc420, rc440, bI_0, bI_1, bI_T, bI_F, iF_T, iF_F, br_not, le_nlt, not_true_eq_false, not_false_eq_true, and_self, and_true, true_and, and_false, false_and, or_true, true_or, or_false, false_or, ne_eq, reduceCtorEq, Nat.reduceLeDiff, Nat.reduceEqDiff, Nat.reduceLT, Nat.reduceAdd, Nat.reduceSub, Nat.reduceMul, Int32.reduceLT, Int32.reduceLE, Int32.reduceToNatClampNeg, Int32.reduceAdd, Int32.reduceSub, implies_true, forall_const, isIn_e, bit_e, lits, E1, hM, p3, f9, ne, letR_q hB R.1, s3, l0]
    exact hQ
  by_cases s4 : grN L n (a, -1) = 59
  · have p0 := w4 s4
    simp (config := {decide := true}) only [gI_e, gR_e, pI_e, pZ_e, pR_e, ldI_e, ldZ_e, ldL_e, ldR_e, stI_e, stZ_e, stL_e, stR_e, alN_e, nwA_e, nwO_e, dvI_e, rmI_e, oV_e, oN_e, lt_e, rZ_e, br_T, br_F, fR_sI, aI_sI, aL_sI, aR_sI, kd_sI, ln_sI, hn_sI, hm_sI, fI_sI_n, fI_sR, aI_sR, aL_sR, aR_sR, kd_sR, ln_sR, hn_sR, hm_sR, fR_sR_n, fI_tI, fR_tI, aL_tI, aR_tI, kd_tI, ln_tI, hn_tI, hm_tI, aI_tI_n, fI_tL, fR_tL, aI_tL, aR_tL, kd_tL, ln_tL, hn_tL, hm_tL, aL_tL_n, fI_tR, fR_tR, aI_tR, aL_tR, kd_tR, ln_tR, hn_tR, hm_tR, aR_tR_n, hn_nw, hm_nw, rc400, rc403, rc404, rc405, rc407, rc409, rc420, rc440, bI_0, bI_1, bI_T, bI_F, iF_T, iF_F, br_not, le_nlt, not_true_eq_false, not_false_eq_true, and_self, and_true, true_and, and_false, false_and, or_true, true_or, or_false, false_or, ne_eq, reduceCtorEq, Nat.reduceLeDiff, Nat.reduceEqDiff, Nat.reduceLT, Nat.reduceAdd, Nat.reduceSub, Nat.reduceMul, Int32.reduceLT, Int32.reduceLE, Int32.reduceToNatClampNeg, Int32.reduceAdd, Int32.reduceSub, implies_true, forall_const, isIn_e, bit_e, lits, E1, hM, p3, f9, ne, letR_q hB R.1, s4, z0, p0]
    exact hQ
  · simp (config := {decide := true}) only [gI_e, gR_e, pI_e, pZ_e, pR_e, ldI_e, ldZ_e, ldL_e, ldR_e, stI_e, stZ_e, stL_e, stR_e, alN_e, nwA_e, nwO_e, dvI_e, rmI_e, oV_e, oN_e, lt_e, rZ_e, br_T, br_F, fR_sI, aI_sI, aL_sI, aR_sI, kd_sI, ln_sI, hn_sI, hm_sI, fI_sI_n, fI_sR, aI_sR, aL_sR, aR_sR, kd_sR, ln_sR, hn_sR, hm_sR, fR_sR_n, fI_tI, fR_tI, aL_tI, aR_tI, kd_tI, ln_tI, hn_tI, hm_tI, aI_tI_n, fI_tL, fR_tL, aI_tL, aR_tL, kd_tL, ln_tL, hn_tL, hm_tL, aL_tL_n, fI_tR, fR_tR, aI_tR, aL_tR, kd_tR, ln_tR, hn_tR, hm_tR, aR_tR_n, hn_nw, hm_nw, rc400, rc403, rc404, rc405, rc407, rc409, rc420, rc440, bI_0, bI_1, bI_T, bI_F, iF_T, iF_F, br_not, le_nlt, not_true_eq_false, not_false_eq_true, and_self, and_true, true_and, and_false, false_and, or_true, true_or, or_false, false_or, ne_eq, reduceCtorEq, Nat.reduceLeDiff, Nat.reduceEqDiff, Nat.reduceLT, Nat.reduceAdd, Nat.reduceSub, Nat.reduceMul, Int32.reduceLT, Int32.reduceLE, Int32.reduceToNatClampNeg, Int32.reduceAdd, Int32.reduceSub, implies_true, forall_const, isIn_e, bit_e, lits, E1, hM, p3, f9, ne, letR_q hB R.1, w1, w2, s3, s4]
    exact hQ
end REFG
