def crF (f : Nat) : Bool := f == 1027 || f == 1028
def crK (_ : Nat) : Bool := false
/-- what a side of a test comes to, and what a test says, by what the fields hold -/
noncomputable def sdv (V : Nat → Int32) (a : Int32 × Int32) : Int64 := iF (a.2 = -1) a.1.toInt64 (a.1.toInt64 * (V (fIx a.2)).toInt64)
noncomputable def gtE (V : Nat → Int32) (t : RT) : Prop := iF (t.2.2.1 = 60) (lg_cmp (sdv V (t.1, t.2.1)) (sdv V (t.2.2.2.1, t.2.2.2.2)) < 0) (iF (t.2.2.1 = 62) (0 < lg_cmp (sdv V (t.1, t.2.1)) (sdv V (t.2.2.2.1, t.2.2.2.2))) (lg_cmp (sdv V (t.1, t.2.1)) (sdv V (t.2.2.2.1, t.2.2.2.2)) = 0))
theorem cmp00 (a b : Int64) : (lg_cmp a b = 0) = (a = b) := propext (lg_cmp_eq a b)
theorem fIx_c : ∀ i, i < 8 → ∀ j, j < 8 → (fldC i = fldC j ↔ i = j) := by decide
theorem fIx_i : ∀ i, i < 8 → fIx (fldC i) = i := by decide
theorem fIx_8 {c : Int32} (h : fIx c < 8) : c = fldC (fIx c) := by
  unfold fIx at h ⊢
  by_cases h0 : c = 110
  · rw [if_pos h0, h0]; rfl
  rw [if_neg h0] at h ⊢
  by_cases h1 : c = 98
  · rw [if_pos h1, h1]; rfl
  rw [if_neg h1] at h ⊢
  by_cases h2 : c = 104
  · rw [if_pos h2, h2]; rfl
  rw [if_neg h2] at h ⊢
  by_cases h3 : c = 116
  · rw [if_pos h3, h3]; rfl
  rw [if_neg h3] at h ⊢
  by_cases h4 : c = 109
  · rw [if_pos h4, h4]; rfl
  rw [if_neg h4] at h ⊢
  by_cases h5 : c = 119
  · rw [if_pos h5, h5]; rfl
  rw [if_neg h5] at h ⊢
  by_cases h6 : c = 100
  · rw [if_pos h6, h6]; rfl
  rw [if_neg h6] at h ⊢
  by_cases h7 : c = 121
  · rw [if_pos h7, h7]; rfl
  rw [if_neg h7] at h
  omega
theorem fIx_m1 : fIx (-1) = 8 := by decide
theorem dg_k {c : Int32} (h : isDg c) : ∃ k, 48 ≤ k ∧ k ≤ 57 ∧ c = nI k := by
  obtain ⟨h1, h2⟩ := h
  have p : ¬ c < 0 := fun w => h1 (Int32.lt_trans w (by decide))
  obtain ⟨j, j1, j2⟩ := nI_of2 (M := 57) (n := 57) rfl p (Int32.not_lt.mp h2)
  refine ⟨j, ?_, j1, j2⟩
  rw [j2, show (48 : Int32) = nI 48 from rfl, nI_ltI (by omega) (by decide)] at h1
  omega
theorem dg_m1 : ¬ isDg (-1) := fun w => w.1 (by decide)
theorem grN_c {L : Nat → Int32} {n : Nat} {s : RS} {c : Int32} (h : grN L n s = c) (hc : ¬ c = -1) : s.2 = -1 ∧ s.1 < n := by
  unfold grN at h
  by_cases w : s.2 = -1 ∧ s.1 < n
  · exact w
  · rw [if_neg w] at h
    exact absurd h.symm hc
theorem grN_f {L : Nat → Int32} {n : Nat} {s : RS} (h : fIx (grN L n s) < 8) : s.2 = -1 ∧ s.1 < n := by
  refine grN_c (c := grN L n s) rfl (fun w => ?_)
  rw [w, fIx_m1] at h
  omega
theorem grN_d {L : Nat → Int32} {n : Nat} {s : RS} (h : isDg (grN L n s)) : s.2 = -1 ∧ s.1 < n := by
  refine grN_c (c := grN L n s) rfl (fun w => ?_)
  rw [w] at h
  exact dg_m1 h
section RDC
variable {x y b0 s0 np na nm nr ne : Nat} {g : Nat → Nat → Nat} {m : Nat → Nat} {h0 h : Hp} {L V : Nat → Int32} {n : Nat} {s : RS}
/-- the class's reader holds these letters, its fields these numbers -/
def BC (x : Nat) (g : Nat → Nat → Nat) (L V : Nat → Int32) (n : Nat) (h0 : Hp) : Prop := JS x g h0 ∧ n ≤ 60 ∧ fI h0 1026 (g 0 8) = nI n ∧ (∀ j, j < n → aI h0 108 (g 0 12) j = L j) ∧ ∀ i, i < 8 → aI h0 109 (g 0 13) i = V i
/-- it stands here -/
def KS (g : Nat → Nat → Nat) (n : Nat) (h0 h : Hp) (s : RS) : Prop := eqX crF crK h0 h ∧ s.1 ≤ n ∧ fI h 1027 (g 0 8) = nI s.1 ∧ fI h 1028 (g 0 8) = s.2
theorem KS.js (hB : BC x g L V n h0) (hC : KS g n h0 h s) : JS x g h ∧ fI h 1026 (g 0 8) = nI n ∧ (∀ j, j < n → aI h 108 (g 0 12) j = L j) ∧ ∀ i, i < 8 → aI h 109 (g 0 13) i = V i := by
  obtain ⟨⟨e1, e2, e3, e4, e5, e6, e7, e8, e9⟩, -⟩ := hC
  obtain ⟨b1, b2, b3, b4, b5⟩ := hB
  refine ⟨?_, ?_, ?_, ?_⟩
  · unfold JS at b1 ⊢
    rw [e3, e4, e5]
    exact b1
  · rw [e6 1026 rfl]; exact b3
  · rw [e7 108 rfl]; exact b4
  · rw [e7 109 rfl]; exact b5
theorem KS.at (hC : KS g n h0 h s) {k : Nat} (hk : k ≤ n) : KS g n h0 (sI h 1027 (g 0 8) (nI k)) (k, s.2) := by
  obtain ⟨c1, c2, c3, c4⟩ := hC
  refine ⟨c1.sI rfl _ _, hk, ?_, ?_⟩
  · rw [fI_sI_e, if_pos rfl]
  · rw [fI_sI_n _ _ _ _ _ (by decide)]; exact c4
theorem KS.ft (hC : KS g n h0 h s) (v : Int32) : KS g n h0 (sI h 1028 (g 0 8) v) (s.1, v) := by
  obtain ⟨c1, c2, c3, c4⟩ := hC
  refine ⟨c1.sI rfl _ _, c2, ?_, ?_⟩
  · rw [fI_sI_n _ _ _ _ _ (by decide)]; exact c3
  · rw [fI_sI_e, if_pos rfl]
theorem next_e (hB : BC x g L V n h0) (hC : KS g n h0 h s) (Q : Int32 → Hp → Prop) (hQ : Q (grN L n s) h) : w_X8_next (some (g 0 8)) h Q := by
  obtain ⟨b1, b2, b3, b4⟩ := hC.js hB
  unfold JS at b1
  have n60 := hB.2.1
  obtain ⟨c1, c2, c3, c4⟩ := hC
  unfold w_X8_next n_X8_next_0 n_X8_next_31 n_X8_next_32
  unfold grN at hQ
  by_cases f : s.2 = -1
  · by_cases k : s.1 < n
    · rw [if_pos ⟨f, k⟩] at hQ
      have c := cnF k n60 (by decide)
      simp (config := {decide := true}) only [gI_e, gR_e, pI_e, pZ_e, pR_e, ldI_e, ldZ_e, ldL_e, ldR_e, stI_e, stZ_e, stL_e, stR_e, alN_e, nwA_e, nwO_e, dvI_e, rmI_e, oV_e, oN_e, lt_e, rZ_e, br_T, br_F, fR_sI, aI_sI, aL_sI, aR_sI, kd_sI, ln_sI, hn_sI, hm_sI, fI_sI_n, fI_sR, aI_sR, aL_sR, aR_sR, kd_sR, ln_sR, hn_sR, hm_sR, fR_sR_n, fI_tI, fR_tI, aL_tI, aR_tI, kd_tI, ln_tI, hn_tI, hm_tI, aI_tI_n, fI_tL, fR_tL, aI_tL, aR_tL, kd_tL, ln_tL, hn_tL, hm_tL, aL_tL_n, fI_tR, fR_tR, aI_tR, aL_tR, kd_tR, ln_tR, hn_tR, hm_tR, aR_tR_n, hn_nw, hm_nw, rc400, rc403, rc404, rc405, rc407, rc409, rc420, rc440, bI_0, bI_1, bI_T, bI_F, iF_T, iF_F, br_not, le_nlt, not_true_eq_false, not_false_eq_true, and_self, and_true, true_and, and_false, false_and, or_true, true_or, or_false, false_or, ne_eq, reduceCtorEq, Nat.reduceLeDiff, Nat.reduceEqDiff, Nat.reduceLT, Nat.reduceAdd, Nat.reduceSub, Nat.reduceMul, Int32.reduceLT, Int32.reduceLE, Int32.reduceToNatClampNeg, Int32.reduceAdd, Int32.reduceSub, implies_true, forall_const, isIn_e, bit_e, lits, b1, b2, c3, c4, f, c, b3 s.1 k]
      exact hQ
    · rw [if_neg (fun w => k w.2)] at hQ
      have e : s.1 = n := by omega
      simp (config := {decide := true}) only [gI_e, gR_e, pI_e, pZ_e, pR_e, ldI_e, ldZ_e, ldL_e, ldR_e, stI_e, stZ_e, stL_e, stR_e, alN_e, nwA_e, nwO_e, dvI_e, rmI_e, oV_e, oN_e, lt_e, rZ_e, br_T, br_F, fR_sI, aI_sI, aL_sI, aR_sI, kd_sI, ln_sI, hn_sI, hm_sI, fI_sI_n, fI_sR, aI_sR, aL_sR, aR_sR, kd_sR, ln_sR, hn_sR, hm_sR, fR_sR_n, fI_tI, fR_tI, aL_tI, aR_tI, kd_tI, ln_tI, hn_tI, hm_tI, aI_tI_n, fI_tL, fR_tL, aI_tL, aR_tL, kd_tL, ln_tL, hn_tL, hm_tL, aL_tL_n, fI_tR, fR_tR, aI_tR, aL_tR, kd_tR, ln_tR, hn_tR, hm_tR, aR_tR_n, hn_nw, hm_nw, rc400, rc403, rc404, rc405, rc407, rc409, rc420, rc440, bI_0, bI_1, bI_T, bI_F, iF_T, iF_F, br_not, le_nlt, not_true_eq_false, not_false_eq_true, and_self, and_true, true_and, and_false, false_and, or_true, true_or, or_false, false_or, ne_eq, reduceCtorEq, Nat.reduceLeDiff, Nat.reduceEqDiff, Nat.reduceLT, Nat.reduceAdd, Nat.reduceSub, Nat.reduceMul, Int32.reduceLT, Int32.reduceLE, Int32.reduceToNatClampNeg, Int32.reduceAdd, Int32.reduceSub, implies_true, forall_const, isIn_e, bit_e, lits, b1, b2, c3, c4, f, e, lt_irr]
      exact hQ
  · rw [if_neg (fun w => f w.1)] at hQ
    simp (config := {decide := true}) only [gI_e, gR_e, pI_e, pZ_e, pR_e, ldI_e, ldZ_e, ldL_e, ldR_e, stI_e, stZ_e, stL_e, stR_e, alN_e, nwA_e, nwO_e, dvI_e, rmI_e, oV_e, oN_e, lt_e, rZ_e, br_T, br_F, fR_sI, aI_sI, aL_sI, aR_sI, kd_sI, ln_sI, hn_sI, hm_sI, fI_sI_n, fI_sR, aI_sR, aL_sR, aR_sR, kd_sR, ln_sR, hn_sR, hm_sR, fR_sR_n, fI_tI, fR_tI, aL_tI, aR_tI, kd_tI, ln_tI, hn_tI, hm_tI, aI_tI_n, fI_tL, fR_tL, aI_tL, aR_tL, kd_tL, ln_tL, hn_tL, hm_tL, aL_tL_n, fI_tR, fR_tR, aI_tR, aL_tR, kd_tR, ln_tR, hn_tR, hm_tR, aR_tR_n, hn_nw, hm_nw, rc400, rc403, rc404, rc405, rc407, rc409, rc420, rc440, bI_0, bI_1, bI_T, bI_F, iF_T, iF_F, br_not, le_nlt, not_true_eq_false, not_false_eq_true, and_self, and_true, true_and, and_false, false_and, or_true, true_or, or_false, false_or, ne_eq, reduceCtorEq, Nat.reduceLeDiff, Nat.reduceEqDiff, Nat.reduceLT, Nat.reduceAdd, Nat.reduceSub, Nat.reduceMul, Int32.reduceLT, Int32.reduceLE, Int32.reduceToNatClampNeg, Int32.reduceAdd, Int32.reduceSub, implies_true, forall_const, isIn_e, bit_e, lits, b1, c4, f]
    exact hQ
theorem fail_e (hB : BC x g L V n h0) (hC : KS g n h0 h s) (Q : Hp → Prop) (hQ : ∀ h', KS g n h0 h' (grF s) → Q h') : w_X8_fail (some (g 0 8)) h Q := by
  obtain ⟨b1, b2, b3, b4⟩ := hC.js hB
  unfold JS at b1
  have hC2 := hC.ft (nI s.1)
  have hC3 := hC
  obtain ⟨c1, c2, c3, c4⟩ := hC
  unfold w_X8_fail n_X8_fail_0 n_X8_fail_16
  unfold grF at hQ
  by_cases f : s.2 = -1
  · rw [if_pos f] at hQ
    simp (config := {decide := true}) only [gI_e, gR_e, pI_e, pZ_e, pR_e, ldI_e, ldZ_e, ldL_e, ldR_e, stI_e, stZ_e, stL_e, stR_e, alN_e, nwA_e, nwO_e, dvI_e, rmI_e, oV_e, oN_e, lt_e, rZ_e, br_T, br_F, fR_sI, aI_sI, aL_sI, aR_sI, kd_sI, ln_sI, hn_sI, hm_sI, fI_sI_n, fI_sR, aI_sR, aL_sR, aR_sR, kd_sR, ln_sR, hn_sR, hm_sR, fR_sR_n, fI_tI, fR_tI, aL_tI, aR_tI, kd_tI, ln_tI, hn_tI, hm_tI, aI_tI_n, fI_tL, fR_tL, aI_tL, aR_tL, kd_tL, ln_tL, hn_tL, hm_tL, aL_tL_n, fI_tR, fR_tR, aI_tR, aL_tR, kd_tR, ln_tR, hn_tR, hm_tR, aR_tR_n, hn_nw, hm_nw, rc400, rc403, rc404, rc405, rc407, rc409, rc420, rc440, bI_0, bI_1, bI_T, bI_F, iF_T, iF_F, br_not, le_nlt, not_true_eq_false, not_false_eq_true, and_self, and_true, true_and, and_false, false_and, or_true, true_or, or_false, false_or, ne_eq, reduceCtorEq, Nat.reduceLeDiff, Nat.reduceEqDiff, Nat.reduceLT, Nat.reduceAdd, Nat.reduceSub, Nat.reduceMul, Int32.reduceLT, Int32.reduceLE, Int32.reduceToNatClampNeg, Int32.reduceAdd, Int32.reduceSub, implies_true, forall_const, isIn_e, bit_e, lits, b1, c3, c4, f]
    exact hQ _ hC2
  · rw [if_neg f] at hQ
    simp (config := {decide := true}) only [gI_e, gR_e, pI_e, pZ_e, pR_e, ldI_e, ldZ_e, ldL_e, ldR_e, stI_e, stZ_e, stL_e, stR_e, alN_e, nwA_e, nwO_e, dvI_e, rmI_e, oV_e, oN_e, lt_e, rZ_e, br_T, br_F, fR_sI, aI_sI, aL_sI, aR_sI, kd_sI, ln_sI, hn_sI, hm_sI, fI_sI_n, fI_sR, aI_sR, aL_sR, aR_sR, kd_sR, ln_sR, hn_sR, hm_sR, fR_sR_n, fI_tI, fR_tI, aL_tI, aR_tI, kd_tI, ln_tI, hn_tI, hm_tI, aI_tI_n, fI_tL, fR_tL, aI_tL, aR_tL, kd_tL, ln_tL, hn_tL, hm_tL, aL_tL_n, fI_tR, fR_tR, aI_tR, aL_tR, kd_tR, ln_tR, hn_tR, hm_tR, aR_tR_n, hn_nw, hm_nw, rc400, rc403, rc404, rc405, rc407, rc409, rc420, rc440, bI_0, bI_1, bI_T, bI_F, iF_T, iF_F, br_not, le_nlt, not_true_eq_false, not_false_eq_true, and_self, and_true, true_and, and_false, false_and, or_true, true_or, or_false, false_or, ne_eq, reduceCtorEq, Nat.reduceLeDiff, Nat.reduceEqDiff, Nat.reduceLT, Nat.reduceAdd, Nat.reduceSub, Nat.reduceMul, Int32.reduceLT, Int32.reduceLE, Int32.reduceToNatClampNeg, Int32.reduceAdd, Int32.reduceSub, implies_true, forall_const, isIn_e, bit_e, lits, b1, c4, f]
    exact hQ _ hC3
theorem pass_e (hB : BC x g L V n h0) (hC : KS g n h0 h s) (b : Prop) (hb : b → s.1 < n) (Q : Hp → Prop) (hQ : ∀ h', KS g n h0 h' (grP b s) → Q h') : w_X8_pass (some (g 0 8)) (bI b) h Q := by
  obtain ⟨b1, b2, b3, b4⟩ := hC.js hB
  unfold JS at b1
  unfold grP at hQ
  unfold w_X8_pass n_X8_pass_0 n_X8_pass_21
  by_cases w : b
  · rw [iF_y w] at hQ
    rw [bI_y w]
    have hC2 := hC.at (show s.1 + 1 ≤ n from hb w)
    obtain ⟨c1, c2, c3, c4⟩ := hC
    simp (config := {decide := true}) only [gI_e, gR_e, pI_e, pZ_e, pR_e, ldI_e, ldZ_e, ldL_e, ldR_e, stI_e, stZ_e, stL_e, stR_e, alN_e, nwA_e, nwO_e, dvI_e, rmI_e, oV_e, oN_e, lt_e, rZ_e, br_T, br_F, fR_sI, aI_sI, aL_sI, aR_sI, kd_sI, ln_sI, hn_sI, hm_sI, fI_sI_n, fI_sR, aI_sR, aL_sR, aR_sR, kd_sR, ln_sR, hn_sR, hm_sR, fR_sR_n, fI_tI, fR_tI, aL_tI, aR_tI, kd_tI, ln_tI, hn_tI, hm_tI, aI_tI_n, fI_tL, fR_tL, aI_tL, aR_tL, kd_tL, ln_tL, hn_tL, hm_tL, aL_tL_n, fI_tR, fR_tR, aI_tR, aL_tR, kd_tR, ln_tR, hn_tR, hm_tR, aR_tR_n, hn_nw, hm_nw, rc400, rc403, rc404, rc405, rc407, rc409, rc420, rc440, bI_0, bI_1, bI_T, bI_F, iF_T, iF_F, br_not, le_nlt, not_true_eq_false, not_false_eq_true, and_self, and_true, true_and, and_false, false_and, or_true, true_or, or_false, false_or, ne_eq, reduceCtorEq, Nat.reduceLeDiff, Nat.reduceEqDiff, Nat.reduceLT, Nat.reduceAdd, Nat.reduceSub, Nat.reduceMul, Int32.reduceLT, Int32.reduceLE, Int32.reduceToNatClampNeg, Int32.reduceAdd, Int32.reduceSub, implies_true, forall_const, isIn_e, bit_e, lits, b1, c3, n1]
    exact hQ _ hC2
  · rw [iF_n w] at hQ
    rw [bI_n w]
    simp (config := {decide := true}) only [gI_e, gR_e, pI_e, pZ_e, pR_e, ldI_e, ldZ_e, ldL_e, ldR_e, stI_e, stZ_e, stL_e, stR_e, alN_e, nwA_e, nwO_e, dvI_e, rmI_e, oV_e, oN_e, lt_e, rZ_e, br_T, br_F, fR_sI, aI_sI, aL_sI, aR_sI, kd_sI, ln_sI, hn_sI, hm_sI, fI_sI_n, fI_sR, aI_sR, aL_sR, aR_sR, kd_sR, ln_sR, hn_sR, hm_sR, fR_sR_n, fI_tI, fR_tI, aL_tI, aR_tI, kd_tI, ln_tI, hn_tI, hm_tI, aI_tI_n, fI_tL, fR_tL, aI_tL, aR_tL, kd_tL, ln_tL, hn_tL, hm_tL, aL_tL_n, fI_tR, fR_tR, aI_tR, aL_tR, kd_tR, ln_tR, hn_tR, hm_tR, aR_tR_n, hn_nw, hm_nw, rc400, rc403, rc404, rc405, rc407, rc409, rc420, rc440, bI_0, bI_1, bI_T, bI_F, iF_T, iF_F, br_not, le_nlt, not_true_eq_false, not_false_eq_true, and_self, and_true, true_and, and_false, false_and, or_true, true_or, or_false, false_or, ne_eq, reduceCtorEq, Nat.reduceLeDiff, Nat.reduceEqDiff, Nat.reduceLT, Nat.reduceAdd, Nat.reduceSub, Nat.reduceMul, Int32.reduceLT, Int32.reduceLE, Int32.reduceToNatClampNeg, Int32.reduceAdd, Int32.reduceSub, implies_true, forall_const, isIn_e, bit_e, lits, b1]
    exact fail_e hB hC _ hQ
theorem want_e (hB : BC x g L V n h0) (hC : KS g n h0 h s) (c : Int32) (hc : ¬ c = -1) (Q : Hp → Prop) (hQ : ∀ h', KS g n h0 h' (grW (grN L n) c s) → Q h') : w_X8_want (some (g 0 8)) c h Q := by
  obtain ⟨b1, b2, b3, b4⟩ := hC.js hB
  unfold JS at b1
  unfold w_X8_want n_X8_want_0 n_X8_want_14
  simp (config := {decide := true}) only [gI_e, gR_e, pI_e, pZ_e, pR_e, ldI_e, ldZ_e, ldL_e, ldR_e, stI_e, stZ_e, stL_e, stR_e, alN_e, nwA_e, nwO_e, dvI_e, rmI_e, oV_e, oN_e, lt_e, rZ_e, br_T, br_F, fR_sI, aI_sI, aL_sI, aR_sI, kd_sI, ln_sI, hn_sI, hm_sI, fI_sI_n, fI_sR, aI_sR, aL_sR, aR_sR, kd_sR, ln_sR, hn_sR, hm_sR, fR_sR_n, fI_tI, fR_tI, aL_tI, aR_tI, kd_tI, ln_tI, hn_tI, hm_tI, aI_tI_n, fI_tL, fR_tL, aI_tL, aR_tL, kd_tL, ln_tL, hn_tL, hm_tL, aL_tL_n, fI_tR, fR_tR, aI_tR, aL_tR, kd_tR, ln_tR, hn_tR, hm_tR, aR_tR_n, hn_nw, hm_nw, rc400, rc403, rc404, rc405, rc407, rc409, rc420, rc440, bI_0, bI_1, bI_T, bI_F, iF_T, iF_F, br_not, le_nlt, not_true_eq_false, not_false_eq_true, and_self, and_true, true_and, and_false, false_and, or_true, true_or, or_false, false_or, ne_eq, reduceCtorEq, Nat.reduceLeDiff, Nat.reduceEqDiff, Nat.reduceLT, Nat.reduceAdd, Nat.reduceSub, Nat.reduceMul, Int32.reduceLT, Int32.reduceLE, Int32.reduceToNatClampNeg, Int32.reduceAdd, Int32.reduceSub, implies_true, forall_const, isIn_e, bit_e, lits, b1]
  refine next_e hB hC _ ?_
  have key := pass_e hB hC (grN L n s = c) (fun w => (grN_c w hc).2) Q hQ
  by_cases w : grN L n s = c
  · rw [bI_y w] at key
    simp (config := {decide := true}) only [gI_e, gR_e, pI_e, pZ_e, pR_e, ldI_e, ldZ_e, ldL_e, ldR_e, stI_e, stZ_e, stL_e, stR_e, alN_e, nwA_e, nwO_e, dvI_e, rmI_e, oV_e, oN_e, lt_e, rZ_e, br_T, br_F, fR_sI, aI_sI, aL_sI, aR_sI, kd_sI, ln_sI, hn_sI, hm_sI, fI_sI_n, fI_sR, aI_sR, aL_sR, aR_sR, kd_sR, ln_sR, hn_sR, hm_sR, fR_sR_n, fI_tI, fR_tI, aL_tI, aR_tI, kd_tI, ln_tI, hn_tI, hm_tI, aI_tI_n, fI_tL, fR_tL, aI_tL, aR_tL, kd_tL, ln_tL, hn_tL, hm_tL, aL_tL_n, fI_tR, fR_tR, aI_tR, aL_tR, kd_tR, ln_tR, hn_tR, hm_tR, aR_tR_n, hn_nw, hm_nw, rc400, rc403, rc404, rc405, rc407, rc409, rc420, rc440, bI_0, bI_1, bI_T, bI_F, iF_T, iF_F, br_not, le_nlt, not_true_eq_false, not_false_eq_true, and_self, and_true, true_and, and_false, false_and, or_true, true_or, or_false, false_or, ne_eq, reduceCtorEq, Nat.reduceLeDiff, Nat.reduceEqDiff, Nat.reduceLT, Nat.reduceAdd, Nat.reduceSub, Nat.reduceMul, Int32.reduceLT, Int32.reduceLE, Int32.reduceToNatClampNeg, Int32.reduceAdd, Int32.reduceSub, implies_true, forall_const, isIn_e, bit_e, lits, b1, w]
    exact key
  · rw [bI_n w] at key
    simp (config := {decide := true}) only [gI_e, gR_e, pI_e, pZ_e, pR_e, ldI_e, ldZ_e, ldL_e, ldR_e, stI_e, stZ_e, stL_e, stR_e, alN_e, nwA_e, nwO_e, dvI_e, rmI_e, oV_e, oN_e, lt_e, rZ_e, br_T, br_F, fR_sI, aI_sI, aL_sI, aR_sI, kd_sI, ln_sI, hn_sI, hm_sI, fI_sI_n, fI_sR, aI_sR, aL_sR, aR_sR, kd_sR, ln_sR, hn_sR, hm_sR, fR_sR_n, fI_tI, fR_tI, aL_tI, aR_tI, kd_tI, ln_tI, hn_tI, hm_tI, aI_tI_n, fI_tL, fR_tL, aI_tL, aR_tL, kd_tL, ln_tL, hn_tL, hm_tL, aL_tL_n, fI_tR, fR_tR, aI_tR, aL_tR, kd_tR, ln_tR, hn_tR, hm_tR, aR_tR_n, hn_nw, hm_nw, rc400, rc403, rc404, rc405, rc407, rc409, rc420, rc440, bI_0, bI_1, bI_T, bI_F, iF_T, iF_F, br_not, le_nlt, not_true_eq_false, not_false_eq_true, and_self, and_true, true_and, and_false, false_and, or_true, true_or, or_false, false_or, ne_eq, reduceCtorEq, Nat.reduceLeDiff, Nat.reduceEqDiff, Nat.reduceLT, Nat.reduceAdd, Nat.reduceSub, Nat.reduceMul, Int32.reduceLT, Int32.reduceLE, Int32.reduceToNatClampNeg, Int32.reduceAdd, Int32.reduceSub, implies_true, forall_const, isIn_e, bit_e, lits, b1, w]
    exact key
theorem isDg_e (c : Int32) (h : Hp) (Q : Int32 → Hp → Prop) : w_X8_isDigit c h Q = Q (bI (isDg c)) h := by
  unfold w_X8_isDigit n_X8_isDigit_0 n_X8_isDigit_16 n_X8_isDigit_17 isDg
  by_cases a : c < 48 <;> by_cases b : 57 < c <;> simp only [gI_e, gR_e, pI_e, pZ_e, pR_e, ldI_e, ldZ_e, ldL_e, ldR_e, stI_e, stZ_e, stL_e, stR_e, alN_e, nwA_e, nwO_e, dvI_e, rmI_e, oV_e, oN_e, lt_e, rZ_e, br_T, br_F, fR_sI, aI_sI, aL_sI, aR_sI, kd_sI, ln_sI, hn_sI, hm_sI, fI_sI_n, fI_sR, aI_sR, aL_sR, aR_sR, kd_sR, ln_sR, hn_sR, hm_sR, fR_sR_n, fI_tI, fR_tI, aL_tI, aR_tI, kd_tI, ln_tI, hn_tI, hm_tI, aI_tI_n, fI_tL, fR_tL, aI_tL, aR_tL, kd_tL, ln_tL, hn_tL, hm_tL, aL_tL_n, fI_tR, fR_tR, aI_tR, aL_tR, kd_tR, ln_tR, hn_tR, hm_tR, aR_tR_n, hn_nw, hm_nw, rc400, rc403, rc404, rc405, rc407, rc409, rc420, rc440, bI_0, bI_1, bI_T, bI_F, iF_T, iF_F, br_not, le_nlt, not_true_eq_false, not_false_eq_true, and_self, and_true, true_and, and_false, false_and, or_true, true_or, or_false, false_or, ne_eq, reduceCtorEq, Nat.reduceLeDiff, Nat.reduceEqDiff, Nat.reduceLT, Nat.reduceAdd, Nat.reduceSub, Nat.reduceMul, Int32.reduceLT, Int32.reduceLE, Int32.reduceToNatClampNeg, Int32.reduceAdd, Int32.reduceSub, implies_true, forall_const, isIn_e, bit_e, lits, a, b]
noncomputable def fvl (V : Nat → Int32) (c : Int32) : Int32 := iF (fIx c < 8) (V (fIx c)) 0
theorem rdField_e (hB : BC x g L V n h0) (hC : KS g n h0 h s) (a : Int32) (Q : Int32 → Hp → Prop) (hQ : ∀ h', KS g n h0 h' (grFld (grN L n) a s).2 → Q (fvl V (grN L n s)) h') : w_X8_readField (some (g 0 8)) h Q := by
  obtain ⟨b1, b2, b3, b4⟩ := hC.js hB
  unfold JS at b1
  unfold w_X8_readField n_X8_readField_0
  simp (config := {decide := true}) only [gI_e, gR_e, pI_e, pZ_e, pR_e, ldI_e, ldZ_e, ldL_e, ldR_e, stI_e, stZ_e, stL_e, stR_e, alN_e, nwA_e, nwO_e, dvI_e, rmI_e, oV_e, oN_e, lt_e, rZ_e, br_T, br_F, fR_sI, aI_sI, aL_sI, aR_sI, kd_sI, ln_sI, hn_sI, hm_sI, fI_sI_n, fI_sR, aI_sR, aL_sR, aR_sR, kd_sR, ln_sR, hn_sR, hm_sR, fR_sR_n, fI_tI, fR_tI, aL_tI, aR_tI, kd_tI, ln_tI, hn_tI, hm_tI, aI_tI_n, fI_tL, fR_tL, aI_tL, aR_tL, kd_tL, ln_tL, hn_tL, hm_tL, aL_tL_n, fI_tR, fR_tR, aI_tR, aL_tR, kd_tR, ln_tR, hn_tR, hm_tR, aR_tR_n, hn_nw, hm_nw, rc400, rc403, rc404, rc405, rc407, rc409, rc420, rc440, bI_0, bI_1, bI_T, bI_F, iF_T, iF_F, br_not, le_nlt, not_true_eq_false, not_false_eq_true, and_self, and_true, true_and, and_false, false_and, or_true, true_or, or_false, false_or, ne_eq, reduceCtorEq, Nat.reduceLeDiff, Nat.reduceEqDiff, Nat.reduceLT, Nat.reduceAdd, Nat.reduceSub, Nat.reduceMul, Int32.reduceLT, Int32.reduceLE, Int32.reduceToNatClampNeg, Int32.reduceAdd, Int32.reduceSub, implies_true, forall_const, isIn_e, bit_e, lits, b1]
  refine next_e hB hC _ ?_
  unfold l_X8_readField_7
  unfold grFld fvl at hQ
  have e13 : kd h (g 0 13) = 109 ∧ ln h (g 0 13) = 8 := ⟨by simp only [b1], by simp only [b1]⟩
  have al : ∀ K2, alN h (some (g 0 13)) K2 = K2 (nI 8) := fun K2 => by
    rw [alN_e (by rw [e13.1]; decide) (fun w => by rw [e13.1] at w; exact absurd w (by decide)), e13.2]
  refine Lo.count 8 (fun i s2 h2 => h2 = h ∧ s2 = nI i ∧ ∀ j, j < i → ¬ grN L n s = fldC j) ?_ 0 (Nat.zero_le _) _ _ ⟨rfl, rfl, fun j hj => absurd hj (Nat.not_lt_zero _)⟩
  rintro i s2 h2 hi ⟨rfl, rfl, hno⟩ K hK
  unfold b_X8_readField_7
  by_cases e : i < 8
  · have c := cnF e (Nat.le_refl 8) (by decide)
    have sc : ∀ K2, strChar (nI i) K2 = K2 (fldC i) := fun K2 => by
      unfold strChar
      rw [c.2.2.1]
      exact propext ⟨And.right, fun k => ⟨c.2.1, k⟩⟩
    by_cases w : grN L n s = fldC i
    · have ix : fIx (grN L n s) = i := by rw [w]; exact fIx_i i e
      have lt8 : fIx (grN L n s) < 8 := by omega
      rw [iF_y lt8, iF_y lt8, ix] at hQ
      have hC2 := hC.at (show s.1 + 1 ≤ n from (grN_f lt8).2)
      obtain ⟨c1, c2, c3, c4⟩ := hC
      have we : (fldC i = grN L n s) = True := eq_true w.symm
      simp (config := {decide := true}) only [gI_e, gR_e, pI_e, pZ_e, pR_e, ldI_e, ldZ_e, ldL_e, ldR_e, stI_e, stZ_e, stL_e, stR_e, alN_e, nwA_e, nwO_e, dvI_e, rmI_e, oV_e, oN_e, lt_e, rZ_e, br_T, br_F, fR_sI, aI_sI, aL_sI, aR_sI, kd_sI, ln_sI, hn_sI, hm_sI, fI_sI_n, fI_sR, aI_sR, aL_sR, aR_sR, kd_sR, ln_sR, hn_sR, hm_sR, fR_sR_n, fI_tI, fR_tI, aL_tI, aR_tI, kd_tI, ln_tI, hn_tI, hm_tI, aI_tI_n, fI_tL, fR_tL, aI_tL, aR_tL, kd_tL, ln_tL, hn_tL, hm_tL, aL_tL_n, fI_tR, fR_tR, aI_tR, aL_tR, kd_tR, ln_tR, hn_tR, hm_tR, aR_tR_n, hn_nw, hm_nw, rc400, rc403, rc404, rc405, rc407, rc409, rc420, rc440, bI_0, bI_1, bI_T, bI_F, iF_T, iF_F, br_not, le_nlt, not_true_eq_false, not_false_eq_true, and_self, and_true, true_and, and_false, false_and, or_true, true_or, or_false, false_or, ne_eq, reduceCtorEq, Nat.reduceLeDiff, Nat.reduceEqDiff, Nat.reduceLT, Nat.reduceAdd, Nat.reduceSub, Nat.reduceMul, Int32.reduceLT, Int32.reduceLE, Int32.reduceToNatClampNeg, Int32.reduceAdd, Int32.reduceSub, implies_true, forall_const, isIn_e, bit_e, lits, b1, al, c, sc, we, c3, n1, b4 i e]
      exact hQ _ hC2
    · have we : (fldC i = grN L n s) = False := eq_false (fun z => w z.symm)
      simp (config := {decide := true}) only [gI_e, gR_e, pI_e, pZ_e, pR_e, ldI_e, ldZ_e, ldL_e, ldR_e, stI_e, stZ_e, stL_e, stR_e, alN_e, nwA_e, nwO_e, dvI_e, rmI_e, oV_e, oN_e, lt_e, rZ_e, br_T, br_F, fR_sI, aI_sI, aL_sI, aR_sI, kd_sI, ln_sI, hn_sI, hm_sI, fI_sI_n, fI_sR, aI_sR, aL_sR, aR_sR, kd_sR, ln_sR, hn_sR, hm_sR, fR_sR_n, fI_tI, fR_tI, aL_tI, aR_tI, kd_tI, ln_tI, hn_tI, hm_tI, aI_tI_n, fI_tL, fR_tL, aI_tL, aR_tL, kd_tL, ln_tL, hn_tL, hm_tL, aL_tL_n, fI_tR, fR_tR, aI_tR, aL_tR, kd_tR, ln_tR, hn_tR, hm_tR, aR_tR_n, hn_nw, hm_nw, rc400, rc403, rc404, rc405, rc407, rc409, rc420, rc440, bI_0, bI_1, bI_T, bI_F, iF_T, iF_F, br_not, le_nlt, not_true_eq_false, not_false_eq_true, and_self, and_true, true_and, and_false, false_and, or_true, true_or, or_false, false_or, ne_eq, reduceCtorEq, Nat.reduceLeDiff, Nat.reduceEqDiff, Nat.reduceLT, Nat.reduceAdd, Nat.reduceSub, Nat.reduceMul, Int32.reduceLT, Int32.reduceLE, Int32.reduceToNatClampNeg, Int32.reduceAdd, Int32.reduceSub, implies_true, forall_const, isIn_e, bit_e, lits, b1, al, c, sc, we]
      refine hK _ _ e ⟨rfl, rfl, fun j hj => ?_⟩
      by_cases z : j = i
      · rw [z]; exact w
      · exact hno j (by omega)
  · obtain rfl : i = 8 := by omega
    have no : ¬ fIx (grN L n s) < 8 := fun w => hno _ w (fIx_8 w)
    rw [iF_n no, iF_n no] at hQ
    simp (config := {decide := true}) only [gI_e, gR_e, pI_e, pZ_e, pR_e, ldI_e, ldZ_e, ldL_e, ldR_e, stI_e, stZ_e, stL_e, stR_e, alN_e, nwA_e, nwO_e, dvI_e, rmI_e, oV_e, oN_e, lt_e, rZ_e, br_T, br_F, fR_sI, aI_sI, aL_sI, aR_sI, kd_sI, ln_sI, hn_sI, hm_sI, fI_sI_n, fI_sR, aI_sR, aL_sR, aR_sR, kd_sR, ln_sR, hn_sR, hm_sR, fR_sR_n, fI_tI, fR_tI, aL_tI, aR_tI, kd_tI, ln_tI, hn_tI, hm_tI, aI_tI_n, fI_tL, fR_tL, aI_tL, aR_tL, kd_tL, ln_tL, hn_tL, hm_tL, aL_tL_n, fI_tR, fR_tR, aI_tR, aL_tR, kd_tR, ln_tR, hn_tR, hm_tR, aR_tR_n, hn_nw, hm_nw, rc400, rc403, rc404, rc405, rc407, rc409, rc420, rc440, bI_0, bI_1, bI_T, bI_F, iF_T, iF_F, br_not, le_nlt, not_true_eq_false, not_false_eq_true, and_self, and_true, true_and, and_false, false_and, or_true, true_or, or_false, false_or, ne_eq, reduceCtorEq, Nat.reduceLeDiff, Nat.reduceEqDiff, Nat.reduceLT, Nat.reduceAdd, Nat.reduceSub, Nat.reduceMul, Int32.reduceLT, Int32.reduceLE, Int32.reduceToNatClampNeg, Int32.reduceAdd, Int32.reduceSub, implies_true, forall_const, isIn_e, bit_e, lits, b1, al, lt_irr]
    exact fail_e hB hC _ hQ
theorem sdv_fld (V : Nat → Int32) (N : RS → Int32) (a : Int32) (s : RS) : sdv V (grFld N a s).1 = a.toInt64 * (fvl V (N s)).toInt64 := by
  unfold grFld fvl
  by_cases w : fIx (N s) < 8
  · rw [iF_y w, iF_y w]
    have : ¬ N s = -1 := fun z => by rw [z, fIx_m1] at w; omega
    unfold sdv
    exact iF_n this _ _
  · rw [iF_n w, iF_n w]
    unfold sdv
    rw [iF_y rfl]
    show (0 : Int32).toInt64 = a.toInt64 * (0 : Int32).toInt64
    rw [show (0 : Int32).toInt64 = 0 from rfl, Int64.mul_zero]
theorem grDig_lt (N : RS → Int32) : ∀ r v s, (∀ s, isDg (N s) → (N s).toNatClampNeg - 48 ≤ 9) → (grDig N r v s).1 < (v + 1) * 10 ^ r := by
  intro r
  induction r with
  | zero => intro v s _; show v < (v + 1) * 1; omega
  | succ r ih =>
    intro v s hd
    have p := Nat.pow_pos (n := r) (show 0 < 10 by decide)
    have e : 10 ^ (r + 1) = 10 * 10 ^ r := by rw [Nat.pow_succ, Nat.mul_comm]
    unfold grDig
    by_cases c : isDg (N s) ∧ (r = 3 ∨ ¬ v = 0)
    · rw [iF_y c]
      have := ih (10 * v + ((N s).toNatClampNeg - 48)) (s.1 + 1, s.2) hd
      refine Nat.lt_of_lt_of_le this ?_
      rw [e, ← Nat.mul_assoc]
      exact Nat.mul_le_mul_right _ (by have := hd s c.1; omega)
    · rw [iF_n c]
      show v < _
      rw [e, ← Nat.mul_assoc]
      exact Nat.lt_of_lt_of_le (show v < (v + 1) * 10 by omega) (Nat.le_mul_of_pos_right _ p)
theorem dg_9 {c : Int32} (h : isDg c) : c.toNatClampNeg - 48 ≤ 9 := by
  obtain ⟨k, k1, k2, rfl⟩ := dg_k h
  rw [nI_clamp (by omega)]
  omega
theorem rdSide_e (hB : BC x g L V n h0) (hC : KS g n h0 h s) (Q : Int64 → Hp → Prop) (hQ : ∀ h', KS g n h0 h' (grSide (grN L n) s).2 → Q (sdv V (grSide (grN L n) s).1) h') : w_X8_readSide (some (g 0 8)) h Q := by
  obtain ⟨b1, b2, b3, b4⟩ := hC.js hB
  have n60 := hB.2.1
  unfold JS at b1
  unfold w_X8_readSide n_X8_readSide_0
  simp (config := {decide := true}) only [gI_e, gR_e, pI_e, pZ_e, pR_e, ldI_e, ldZ_e, ldL_e, ldR_e, stI_e, stZ_e, stL_e, stR_e, alN_e, nwA_e, nwO_e, dvI_e, rmI_e, oV_e, oN_e, lt_e, rZ_e, br_T, br_F, fR_sI, aI_sI, aL_sI, aR_sI, kd_sI, ln_sI, hn_sI, hm_sI, fI_sI_n, fI_sR, aI_sR, aL_sR, aR_sR, kd_sR, ln_sR, hn_sR, hm_sR, fR_sR_n, fI_tI, fR_tI, aL_tI, aR_tI, kd_tI, ln_tI, hn_tI, hm_tI, aI_tI_n, fI_tL, fR_tL, aI_tL, aR_tL, kd_tL, ln_tL, hn_tL, hm_tL, aL_tL_n, fI_tR, fR_tR, aI_tR, aL_tR, kd_tR, ln_tR, hn_tR, hm_tR, aR_tR_n, hn_nw, hm_nw, rc400, rc403, rc404, rc405, rc407, rc409, rc420, rc440, bI_0, bI_1, bI_T, bI_F, iF_T, iF_F, br_not, le_nlt, not_true_eq_false, not_false_eq_true, and_self, and_true, true_and, and_false, false_and, or_true, true_or, or_false, false_or, ne_eq, reduceCtorEq, Nat.reduceLeDiff, Nat.reduceEqDiff, Nat.reduceLT, Nat.reduceAdd, Nat.reduceSub, Nat.reduceMul, Int32.reduceLT, Int32.reduceLE, Int32.reduceToNatClampNeg, Int32.reduceAdd, Int32.reduceSub, implies_true, forall_const, isIn_e, bit_e, lits, b1]
  refine next_e hB hC _ ?_
  unfold grSide at hQ
  by_cases d : isDg (grN L n s)
  rotate_left
  · rw [iF_n d, sdv_fld, show (1 : Int32).toInt64 = 1 from rfl, Int64.one_mul] at hQ
    simp (config := {decide := true}) only [gI_e, gR_e, pI_e, pZ_e, pR_e, ldI_e, ldZ_e, ldL_e, ldR_e, stI_e, stZ_e, stL_e, stR_e, alN_e, nwA_e, nwO_e, dvI_e, rmI_e, oV_e, oN_e, lt_e, rZ_e, br_T, br_F, fR_sI, aI_sI, aL_sI, aR_sI, kd_sI, ln_sI, hn_sI, hm_sI, fI_sI_n, fI_sR, aI_sR, aL_sR, aR_sR, kd_sR, ln_sR, hn_sR, hm_sR, fR_sR_n, fI_tI, fR_tI, aL_tI, aR_tI, kd_tI, ln_tI, hn_tI, hm_tI, aI_tI_n, fI_tL, fR_tL, aI_tL, aR_tL, kd_tL, ln_tL, hn_tL, hm_tL, aL_tL_n, fI_tR, fR_tR, aI_tR, aL_tR, kd_tR, ln_tR, hn_tR, hm_tR, aR_tR_n, hn_nw, hm_nw, rc400, rc403, rc404, rc405, rc407, rc409, rc420, rc440, bI_0, bI_1, bI_T, bI_F, iF_T, iF_F, br_not, le_nlt, not_true_eq_false, not_false_eq_true, and_self, and_true, true_and, and_false, false_and, or_true, true_or, or_false, false_or, ne_eq, reduceCtorEq, Nat.reduceLeDiff, Nat.reduceEqDiff, Nat.reduceLT, Nat.reduceAdd, Nat.reduceSub, Nat.reduceMul, Int32.reduceLT, Int32.reduceLE, Int32.reduceToNatClampNeg, Int32.reduceAdd, Int32.reduceSub, implies_true, forall_const, isIn_e, bit_e, lits, b1, isDg_e, d]
    exact rdField_e hB hC 1 _ hQ
  rw [iF_y d] at hQ
  simp (config := {decide := true}) only [gI_e, gR_e, pI_e, pZ_e, pR_e, ldI_e, ldZ_e, ldL_e, ldR_e, stI_e, stZ_e, stL_e, stR_e, alN_e, nwA_e, nwO_e, dvI_e, rmI_e, oV_e, oN_e, lt_e, rZ_e, br_T, br_F, fR_sI, aI_sI, aL_sI, aR_sI, kd_sI, ln_sI, hn_sI, hm_sI, fI_sI_n, fI_sR, aI_sR, aL_sR, aR_sR, kd_sR, ln_sR, hn_sR, hm_sR, fR_sR_n, fI_tI, fR_tI, aL_tI, aR_tI, kd_tI, ln_tI, hn_tI, hm_tI, aI_tI_n, fI_tL, fR_tL, aI_tL, aR_tL, kd_tL, ln_tL, hn_tL, hm_tL, aL_tL_n, fI_tR, fR_tR, aI_tR, aL_tR, kd_tR, ln_tR, hn_tR, hm_tR, aR_tR_n, hn_nw, hm_nw, rc400, rc403, rc404, rc405, rc407, rc409, rc420, rc440, bI_0, bI_1, bI_T, bI_F, iF_T, iF_F, br_not, le_nlt, not_true_eq_false, not_false_eq_true, and_self, and_true, true_and, and_false, false_and, or_true, true_or, or_false, false_or, ne_eq, reduceCtorEq, Nat.reduceLeDiff, Nat.reduceEqDiff, Nat.reduceLT, Nat.reduceAdd, Nat.reduceSub, Nat.reduceMul, Int32.reduceLT, Int32.reduceLE, Int32.reduceToNatClampNeg, Int32.reduceAdd, Int32.reduceSub, implies_true, forall_const, isIn_e, bit_e, lits, b1, isDg_e, d]
  unfold l_X8_readSide_20
  have qb := grDig_lt (grN L n) 4 0 s (fun s => dg_9)
  generalize hq : grDig (grN L n) 4 0 s = q at *
  refine Lo.count 4 (fun k st h2 => ∃ v s2, KS g n h0 h2 s2 ∧ st = (lN v, nI k) ∧ grDig (grN L n) (4 - k) v s2 = q ∧ v < 10 ^ k) ?_ 0 (Nat.zero_le _) _ _ ⟨0, s, hC, rfl, hq, by decide⟩
  rintro k st h2 hk ⟨v, s2, hC2, rfl, hd, hv⟩ K hK
  obtain ⟨b1', b2', b3', b4'⟩ := hC2.js hB
  unfold JS at b1'
  have v4 : v < 10000 := Nat.lt_of_lt_of_le hv (show 10 ^ k ≤ 10 ^ 4 from Nat.pow_le_pow_right (by decide) hk)
  -- the number is read
  have fin : (v, s2) = q → n_X8_readSide_77 (some (g 0 8)) (lN v) h2 Q := by
    intro e
    rw [← e] at hQ
    unfold grNum at hQ
    have l1 : lN v = (nI v).toInt64 := (nI_l (by omega)).symm
    unfold n_X8_readSide_77
    simp (config := {decide := true}) only [gI_e, gR_e, pI_e, pZ_e, pR_e, ldI_e, ldZ_e, ldL_e, ldR_e, stI_e, stZ_e, stL_e, stR_e, alN_e, nwA_e, nwO_e, dvI_e, rmI_e, oV_e, oN_e, lt_e, rZ_e, br_T, br_F, fR_sI, aI_sI, aL_sI, aR_sI, kd_sI, ln_sI, hn_sI, hm_sI, fI_sI_n, fI_sR, aI_sR, aL_sR, aR_sR, kd_sR, ln_sR, hn_sR, hm_sR, fR_sR_n, fI_tI, fR_tI, aL_tI, aR_tI, kd_tI, ln_tI, hn_tI, hm_tI, aI_tI_n, fI_tL, fR_tL, aI_tL, aR_tL, kd_tL, ln_tL, hn_tL, hm_tL, aL_tL_n, fI_tR, fR_tR, aI_tR, aL_tR, kd_tR, ln_tR, hn_tR, hm_tR, aR_tR_n, hn_nw, hm_nw, rc400, rc403, rc404, rc405, rc407, rc409, rc420, rc440, bI_0, bI_1, bI_T, bI_F, iF_T, iF_F, br_not, le_nlt, not_true_eq_false, not_false_eq_true, and_self, and_true, true_and, and_false, false_and, or_true, true_or, or_false, false_or, ne_eq, reduceCtorEq, Nat.reduceLeDiff, Nat.reduceEqDiff, Nat.reduceLT, Nat.reduceAdd, Nat.reduceSub, Nat.reduceMul, Int32.reduceLT, Int32.reduceLE, Int32.reduceToNatClampNeg, Int32.reduceAdd, Int32.reduceSub, implies_true, forall_const, isIn_e, bit_e, lits, b1']
    refine next_e hB hC2 _ ?_
    by_cases w : grN L n s2 = 42
    · have hQ2 : ∀ h', KS g n h0 h' (grFld (grN L n) (nI v) (s2.1 + 1, s2.2)).2 → Q (sdv V (grFld (grN L n) (nI v) (s2.1 + 1, s2.2)).1) h' := by
        rw [iF_y w] at hQ
        exact hQ
      rw [sdv_fld] at hQ2
      have hC3 := hC2.at (show s2.1 + 1 ≤ n from (grN_c w (by decide)).2)
      have c3 := hC2.2.2.1
      simp (config := {decide := true}) only [gI_e, gR_e, pI_e, pZ_e, pR_e, ldI_e, ldZ_e, ldL_e, ldR_e, stI_e, stZ_e, stL_e, stR_e, alN_e, nwA_e, nwO_e, dvI_e, rmI_e, oV_e, oN_e, lt_e, rZ_e, br_T, br_F, fR_sI, aI_sI, aL_sI, aR_sI, kd_sI, ln_sI, hn_sI, hm_sI, fI_sI_n, fI_sR, aI_sR, aL_sR, aR_sR, kd_sR, ln_sR, hn_sR, hm_sR, fR_sR_n, fI_tI, fR_tI, aL_tI, aR_tI, kd_tI, ln_tI, hn_tI, hm_tI, aI_tI_n, fI_tL, fR_tL, aI_tL, aR_tL, kd_tL, ln_tL, hn_tL, hm_tL, aL_tL_n, fI_tR, fR_tR, aI_tR, aL_tR, kd_tR, ln_tR, hn_tR, hm_tR, aR_tR_n, hn_nw, hm_nw, rc400, rc403, rc404, rc405, rc407, rc409, rc420, rc440, bI_0, bI_1, bI_T, bI_F, iF_T, iF_F, br_not, le_nlt, not_true_eq_false, not_false_eq_true, and_self, and_true, true_and, and_false, false_and, or_true, true_or, or_false, false_or, ne_eq, reduceCtorEq, Nat.reduceLeDiff, Nat.reduceEqDiff, Nat.reduceLT, Nat.reduceAdd, Nat.reduceSub, Nat.reduceMul, Int32.reduceLT, Int32.reduceLE, Int32.reduceToNatClampNeg, Int32.reduceAdd, Int32.reduceSub, implies_true, forall_const, isIn_e, bit_e, lits, b1', w, c3, n1]
      rw [l1]
      exact rdField_e hB hC3 (nI v) _ hQ2
    · have hQ2 : ∀ h', KS g n h0 h' s2 → Q (sdv V (nI v, -1)) h' := by
        rw [iF_n w] at hQ
        exact hQ
      have sv : sdv V (nI v, -1) = lN v := by
        unfold sdv
        rw [iF_y rfl]
        exact l1.symm
      rw [sv] at hQ2
      simp (config := {decide := true}) only [gI_e, gR_e, pI_e, pZ_e, pR_e, ldI_e, ldZ_e, ldL_e, ldR_e, stI_e, stZ_e, stL_e, stR_e, alN_e, nwA_e, nwO_e, dvI_e, rmI_e, oV_e, oN_e, lt_e, rZ_e, br_T, br_F, fR_sI, aI_sI, aL_sI, aR_sI, kd_sI, ln_sI, hn_sI, hm_sI, fI_sI_n, fI_sR, aI_sR, aL_sR, aR_sR, kd_sR, ln_sR, hn_sR, hm_sR, fR_sR_n, fI_tI, fR_tI, aL_tI, aR_tI, kd_tI, ln_tI, hn_tI, hm_tI, aI_tI_n, fI_tL, fR_tL, aI_tL, aR_tL, kd_tL, ln_tL, hn_tL, hm_tL, aL_tL_n, fI_tR, fR_tR, aI_tR, aL_tR, kd_tR, ln_tR, hn_tR, hm_tR, aR_tR_n, hn_nw, hm_nw, rc400, rc403, rc404, rc405, rc407, rc409, rc420, rc440, bI_0, bI_1, bI_T, bI_F, iF_T, iF_F, br_not, le_nlt, not_true_eq_false, not_false_eq_true, and_self, and_true, true_and, and_false, false_and, or_true, true_or, or_false, false_or, ne_eq, reduceCtorEq, Nat.reduceLeDiff, Nat.reduceEqDiff, Nat.reduceLT, Nat.reduceAdd, Nat.reduceSub, Nat.reduceMul, Int32.reduceLT, Int32.reduceLE, Int32.reduceToNatClampNeg, Int32.reduceAdd, Int32.reduceSub, implies_true, forall_const, isIn_e, bit_e, lits, b1', w]
      exact hQ2 _ hC2
  unfold b_X8_readSide_20
  by_cases e : k < 4
  · have c := cnF e (Nat.le_refl 4) (by decide)
    have c4 : nI k < 4 := c.1
    obtain ⟨r, hr⟩ : ∃ r, 4 - k = r + 1 := ⟨3 - k, by omega⟩
    rw [hr] at hd
    unfold grDig at hd
    simp (config := {decide := true}) only [gI_e, gR_e, pI_e, pZ_e, pR_e, ldI_e, ldZ_e, ldL_e, ldR_e, stI_e, stZ_e, stL_e, stR_e, alN_e, nwA_e, nwO_e, dvI_e, rmI_e, oV_e, oN_e, lt_e, rZ_e, br_T, br_F, fR_sI, aI_sI, aL_sI, aR_sI, kd_sI, ln_sI, hn_sI, hm_sI, fI_sI_n, fI_sR, aI_sR, aL_sR, aR_sR, kd_sR, ln_sR, hn_sR, hm_sR, fR_sR_n, fI_tI, fR_tI, aL_tI, aR_tI, kd_tI, ln_tI, hn_tI, hm_tI, aI_tI_n, fI_tL, fR_tL, aI_tL, aR_tL, kd_tL, ln_tL, hn_tL, hm_tL, aL_tL_n, fI_tR, fR_tR, aI_tR, aL_tR, kd_tR, ln_tR, hn_tR, hm_tR, aR_tR_n, hn_nw, hm_nw, rc400, rc403, rc404, rc405, rc407, rc409, rc420, rc440, bI_0, bI_1, bI_T, bI_F, iF_T, iF_F, br_not, le_nlt, not_true_eq_false, not_false_eq_true, and_self, and_true, true_and, and_false, false_and, or_true, true_or, or_false, false_or, ne_eq, reduceCtorEq, Nat.reduceLeDiff, Nat.reduceEqDiff, Nat.reduceLT, Nat.reduceAdd, Nat.reduceSub, Nat.reduceMul, Int32.reduceLT, Int32.reduceLE, Int32.reduceToNatClampNeg, Int32.reduceAdd, Int32.reduceSub, implies_true, forall_const, isIn_e, bit_e, lits, b1', c4]
    refine next_e hB hC2 _ ?_
    by_cases w : isDg (grN L n s2)
    rotate_left
    · rw [iF_n (fun z => w z.1)] at hd
      have := fin hd
      simp (config := {decide := true}) only [gI_e, gR_e, pI_e, pZ_e, pR_e, ldI_e, ldZ_e, ldL_e, ldR_e, stI_e, stZ_e, stL_e, stR_e, alN_e, nwA_e, nwO_e, dvI_e, rmI_e, oV_e, oN_e, lt_e, rZ_e, br_T, br_F, fR_sI, aI_sI, aL_sI, aR_sI, kd_sI, ln_sI, hn_sI, hm_sI, fI_sI_n, fI_sR, aI_sR, aL_sR, aR_sR, kd_sR, ln_sR, hn_sR, hm_sR, fR_sR_n, fI_tI, fR_tI, aL_tI, aR_tI, kd_tI, ln_tI, hn_tI, hm_tI, aI_tI_n, fI_tL, fR_tL, aI_tL, aR_tL, kd_tL, ln_tL, hn_tL, hm_tL, aL_tL_n, fI_tR, fR_tR, aI_tR, aL_tR, kd_tR, ln_tR, hn_tR, hm_tR, aR_tR_n, hn_nw, hm_nw, rc400, rc403, rc404, rc405, rc407, rc409, rc420, rc440, bI_0, bI_1, bI_T, bI_F, iF_T, iF_F, br_not, le_nlt, not_true_eq_false, not_false_eq_true, and_self, and_true, true_and, and_false, false_and, or_true, true_or, or_false, false_or, ne_eq, reduceCtorEq, Nat.reduceLeDiff, Nat.reduceEqDiff, Nat.reduceLT, Nat.reduceAdd, Nat.reduceSub, Nat.reduceMul, Int32.reduceLT, Int32.reduceLE, Int32.reduceToNatClampNeg, Int32.reduceAdd, Int32.reduceSub, implies_true, forall_const, isIn_e, bit_e, lits, isDg_e, w]
      exact this
    have step : (r = 3 ∨ ¬ v = 0) → n_X8_readSide_45 (some (g 0 8)) (lN v) (nI k) h2 Q (fun l1 l3 h => K (l1, l3) h) := by
      intro z
      rw [iF_y ⟨w, z⟩] at hd
      obtain ⟨j, j1, j2, j3⟩ := dg_k w
      have hC3 := hC2.at (show s2.1 + 1 ≤ n from (grN_d w).2)
      have c3 := hC2.2.2.1
      unfold n_X8_readSide_45
      simp (config := {decide := true}) only [gI_e, gR_e, pI_e, pZ_e, pR_e, ldI_e, ldZ_e, ldL_e, ldR_e, stI_e, stZ_e, stL_e, stR_e, alN_e, nwA_e, nwO_e, dvI_e, rmI_e, oV_e, oN_e, lt_e, rZ_e, br_T, br_F, fR_sI, aI_sI, aL_sI, aR_sI, kd_sI, ln_sI, hn_sI, hm_sI, fI_sI_n, fI_sR, aI_sR, aL_sR, aR_sR, kd_sR, ln_sR, hn_sR, hm_sR, fR_sR_n, fI_tI, fR_tI, aL_tI, aR_tI, kd_tI, ln_tI, hn_tI, hm_tI, aI_tI_n, fI_tL, fR_tL, aI_tL, aR_tL, kd_tL, ln_tL, hn_tL, hm_tL, aL_tL_n, fI_tR, fR_tR, aI_tR, aL_tR, kd_tR, ln_tR, hn_tR, hm_tR, aR_tR_n, hn_nw, hm_nw, rc400, rc403, rc404, rc405, rc407, rc409, rc420, rc440, bI_0, bI_1, bI_T, bI_F, iF_T, iF_F, br_not, le_nlt, not_true_eq_false, not_false_eq_true, and_self, and_true, true_and, and_false, false_and, or_true, true_or, or_false, false_or, ne_eq, reduceCtorEq, Nat.reduceLeDiff, Nat.reduceEqDiff, Nat.reduceLT, Nat.reduceAdd, Nat.reduceSub, Nat.reduceMul, Int32.reduceLT, Int32.reduceLE, Int32.reduceToNatClampNeg, Int32.reduceAdd, Int32.reduceSub, implies_true, forall_const, isIn_e, bit_e, lits, b1']
      refine next_e hB hC2 _ ?_
      have ex : (10 : Int64) * lN v + (grN L n s2).toInt64 - 48 = lN (10 * v + ((grN L n s2).toNatClampNeg - 48)) := by
        rw [j3, nI_clamp (by omega), nI_l (by omega), show (10 : Int64) = lN 10 from rfl, lN_mul, lN_add, show (48 : Int64) = lN 48 from rfl, lN_sub (by omega)]
        exact congrArg lN (by omega)
      rw [ex]
      simp (config := {decide := true}) only [gI_e, gR_e, pI_e, pZ_e, pR_e, ldI_e, ldZ_e, ldL_e, ldR_e, stI_e, stZ_e, stL_e, stR_e, alN_e, nwA_e, nwO_e, dvI_e, rmI_e, oV_e, oN_e, lt_e, rZ_e, br_T, br_F, fR_sI, aI_sI, aL_sI, aR_sI, kd_sI, ln_sI, hn_sI, hm_sI, fI_sI_n, fI_sR, aI_sR, aL_sR, aR_sR, kd_sR, ln_sR, hn_sR, hm_sR, fR_sR_n, fI_tI, fR_tI, aL_tI, aR_tI, kd_tI, ln_tI, hn_tI, hm_tI, aI_tI_n, fI_tL, fR_tL, aI_tL, aR_tL, kd_tL, ln_tL, hn_tL, hm_tL, aL_tL_n, fI_tR, fR_tR, aI_tR, aL_tR, kd_tR, ln_tR, hn_tR, hm_tR, aR_tR_n, hn_nw, hm_nw, rc400, rc403, rc404, rc405, rc407, rc409, rc420, rc440, bI_0, bI_1, bI_T, bI_F, iF_T, iF_F, br_not, le_nlt, not_true_eq_false, not_false_eq_true, and_self, and_true, true_and, and_false, false_and, or_true, true_or, or_false, false_or, ne_eq, reduceCtorEq, Nat.reduceLeDiff, Nat.reduceEqDiff, Nat.reduceLT, Nat.reduceAdd, Nat.reduceSub, Nat.reduceMul, Int32.reduceLT, Int32.reduceLE, Int32.reduceToNatClampNeg, Int32.reduceAdd, Int32.reduceSub, implies_true, forall_const, isIn_e, bit_e, lits, b1', c3, n1]
      refine hK _ _ e ⟨_, (s2.1 + 1, s2.2), hC3, rfl, ?_, ?_⟩
      · rw [show 4 - (k + 1) = r by omega]
        exact hd
      · have p9 := dg_9 w
        have : 10 ^ (k + 1) = 10 * 10 ^ k := by rw [Nat.pow_succ, Nat.mul_comm]
        omega
    have lk : (nI k = 0) = (k = 0) := propext (nI_eq (b := 0) (by omega) (by omega))
    by_cases k0 : k = 0
    · have := step (Or.inl (by omega))
      simp (config := {decide := true}) only [gI_e, gR_e, pI_e, pZ_e, pR_e, ldI_e, ldZ_e, ldL_e, ldR_e, stI_e, stZ_e, stL_e, stR_e, alN_e, nwA_e, nwO_e, dvI_e, rmI_e, oV_e, oN_e, lt_e, rZ_e, br_T, br_F, fR_sI, aI_sI, aL_sI, aR_sI, kd_sI, ln_sI, hn_sI, hm_sI, fI_sI_n, fI_sR, aI_sR, aL_sR, aR_sR, kd_sR, ln_sR, hn_sR, hm_sR, fR_sR_n, fI_tI, fR_tI, aL_tI, aR_tI, kd_tI, ln_tI, hn_tI, hm_tI, aI_tI_n, fI_tL, fR_tL, aI_tL, aR_tL, kd_tL, ln_tL, hn_tL, hm_tL, aL_tL_n, fI_tR, fR_tR, aI_tR, aL_tR, kd_tR, ln_tR, hn_tR, hm_tR, aR_tR_n, hn_nw, hm_nw, rc400, rc403, rc404, rc405, rc407, rc409, rc420, rc440, bI_0, bI_1, bI_T, bI_F, iF_T, iF_F, br_not, le_nlt, not_true_eq_false, not_false_eq_true, and_self, and_true, true_and, and_false, false_and, or_true, true_or, or_false, false_or, ne_eq, reduceCtorEq, Nat.reduceLeDiff, Nat.reduceEqDiff, Nat.reduceLT, Nat.reduceAdd, Nat.reduceSub, Nat.reduceMul, Int32.reduceLT, Int32.reduceLE, Int32.reduceToNatClampNeg, Int32.reduceAdd, Int32.reduceSub, implies_true, forall_const, isIn_e, bit_e, lits, isDg_e, w, lk, k0] at this ⊢
      exact this
    · have lv : (lN v = 0) = (v = 0) := propext (lN_eq (b := 0) (by omega) (by omega))
      by_cases v0 : v = 0
      · have hd2 := hd
        rw [iF_n (fun z => z.2.elim (fun z2 => by omega) (fun z2 => z2 v0))] at hd2
        have := fin hd2
        have lv2 : lN v = 0 := by rw [v0]; rfl
        rw [lv2] at this
        simp (config := {decide := true}) only [gI_e, gR_e, pI_e, pZ_e, pR_e, ldI_e, ldZ_e, ldL_e, ldR_e, stI_e, stZ_e, stL_e, stR_e, alN_e, nwA_e, nwO_e, dvI_e, rmI_e, oV_e, oN_e, lt_e, rZ_e, br_T, br_F, fR_sI, aI_sI, aL_sI, aR_sI, kd_sI, ln_sI, hn_sI, hm_sI, fI_sI_n, fI_sR, aI_sR, aL_sR, aR_sR, kd_sR, ln_sR, hn_sR, hm_sR, fR_sR_n, fI_tI, fR_tI, aL_tI, aR_tI, kd_tI, ln_tI, hn_tI, hm_tI, aI_tI_n, fI_tL, fR_tL, aI_tL, aR_tL, kd_tL, ln_tL, hn_tL, hm_tL, aL_tL_n, fI_tR, fR_tR, aI_tR, aL_tR, kd_tR, ln_tR, hn_tR, hm_tR, aR_tR_n, hn_nw, hm_nw, rc400, rc403, rc404, rc405, rc407, rc409, rc420, rc440, bI_0, bI_1, bI_T, bI_F, iF_T, iF_F, br_not, le_nlt, not_true_eq_false, not_false_eq_true, and_self, and_true, true_and, and_false, false_and, or_true, true_or, or_false, false_or, ne_eq, reduceCtorEq, Nat.reduceLeDiff, Nat.reduceEqDiff, Nat.reduceLT, Nat.reduceAdd, Nat.reduceSub, Nat.reduceMul, Int32.reduceLT, Int32.reduceLE, Int32.reduceToNatClampNeg, Int32.reduceAdd, Int32.reduceSub, implies_true, forall_const, isIn_e, bit_e, lits, isDg_e, w, lk, k0, cmp00, lv2]
        exact this
      · have := step (Or.inr v0)
        simp (config := {decide := true}) only [gI_e, gR_e, pI_e, pZ_e, pR_e, ldI_e, ldZ_e, ldL_e, ldR_e, stI_e, stZ_e, stL_e, stR_e, alN_e, nwA_e, nwO_e, dvI_e, rmI_e, oV_e, oN_e, lt_e, rZ_e, br_T, br_F, fR_sI, aI_sI, aL_sI, aR_sI, kd_sI, ln_sI, hn_sI, hm_sI, fI_sI_n, fI_sR, aI_sR, aL_sR, aR_sR, kd_sR, ln_sR, hn_sR, hm_sR, fR_sR_n, fI_tI, fR_tI, aL_tI, aR_tI, kd_tI, ln_tI, hn_tI, hm_tI, aI_tI_n, fI_tL, fR_tL, aI_tL, aR_tL, kd_tL, ln_tL, hn_tL, hm_tL, aL_tL_n, fI_tR, fR_tR, aI_tR, aL_tR, kd_tR, ln_tR, hn_tR, hm_tR, aR_tR_n, hn_nw, hm_nw, rc400, rc403, rc404, rc405, rc407, rc409, rc420, rc440, bI_0, bI_1, bI_T, bI_F, iF_T, iF_F, br_not, le_nlt, not_true_eq_false, not_false_eq_true, and_self, and_true, true_and, and_false, false_and, or_true, true_or, or_false, false_or, ne_eq, reduceCtorEq, Nat.reduceLeDiff, Nat.reduceEqDiff, Nat.reduceLT, Nat.reduceAdd, Nat.reduceSub, Nat.reduceMul, Int32.reduceLT, Int32.reduceLE, Int32.reduceToNatClampNeg, Int32.reduceAdd, Int32.reduceSub, implies_true, forall_const, isIn_e, bit_e, lits, isDg_e, w, lk, k0, cmp00, lv, v0]
        exact this
  · obtain rfl : k = 4 := by omega
    have c4 : ¬ nI 4 < 4 := by decide
    have hd2 : (v, s2) = q := hd
    have := fin hd2
    simp (config := {decide := true}) only [gI_e, gR_e, pI_e, pZ_e, pR_e, ldI_e, ldZ_e, ldL_e, ldR_e, stI_e, stZ_e, stL_e, stR_e, alN_e, nwA_e, nwO_e, dvI_e, rmI_e, oV_e, oN_e, lt_e, rZ_e, br_T, br_F, fR_sI, aI_sI, aL_sI, aR_sI, kd_sI, ln_sI, hn_sI, hm_sI, fI_sI_n, fI_sR, aI_sR, aL_sR, aR_sR, kd_sR, ln_sR, hn_sR, hm_sR, fR_sR_n, fI_tI, fR_tI, aL_tI, aR_tI, kd_tI, ln_tI, hn_tI, hm_tI, aI_tI_n, fI_tL, fR_tL, aI_tL, aR_tL, kd_tL, ln_tL, hn_tL, hm_tL, aL_tL_n, fI_tR, fR_tR, aI_tR, aL_tR, kd_tR, ln_tR, hn_tR, hm_tR, aR_tR_n, hn_nw, hm_nw, rc400, rc403, rc404, rc405, rc407, rc409, rc420, rc440, bI_0, bI_1, bI_T, bI_F, iF_T, iF_F, br_not, le_nlt, not_true_eq_false, not_false_eq_true, and_self, and_true, true_and, and_false, false_and, or_true, true_or, or_false, false_or, ne_eq, reduceCtorEq, Nat.reduceLeDiff, Nat.reduceEqDiff, Nat.reduceLT, Nat.reduceAdd, Nat.reduceSub, Nat.reduceMul, Int32.reduceLT, Int32.reduceLE, Int32.reduceToNatClampNeg, Int32.reduceAdd, Int32.reduceSub, implies_true, forall_const, isIn_e, bit_e, lits, c4]
    exact this
theorem rdTest_e (hB : BC x g L V n h0) (hC : KS g n h0 h s) (Q : Int32 → Hp → Prop) (hQ : ∀ h', KS g n h0 h' (grTst (grN L n) s).1 → Q (bI (gtE V (grTst (grN L n) s).2)) h') : w_X8_readTest (some (g 0 8)) h Q := by
  obtain ⟨b1, b2, b3, b4⟩ := hC.js hB
  unfold JS at b1
  unfold w_X8_readTest n_X8_readTest_0
  simp (config := {decide := true}) only [gI_e, gR_e, pI_e, pZ_e, pR_e, ldI_e, ldZ_e, ldL_e, ldR_e, stI_e, stZ_e, stL_e, stR_e, alN_e, nwA_e, nwO_e, dvI_e, rmI_e, oV_e, oN_e, lt_e, rZ_e, br_T, br_F, fR_sI, aI_sI, aL_sI, aR_sI, kd_sI, ln_sI, hn_sI, hm_sI, fI_sI_n, fI_sR, aI_sR, aL_sR, aR_sR, kd_sR, ln_sR, hn_sR, hm_sR, fR_sR_n, fI_tI, fR_tI, aL_tI, aR_tI, kd_tI, ln_tI, hn_tI, hm_tI, aI_tI_n, fI_tL, fR_tL, aI_tL, aR_tL, kd_tL, ln_tL, hn_tL, hm_tL, aL_tL_n, fI_tR, fR_tR, aI_tR, aL_tR, kd_tR, ln_tR, hn_tR, hm_tR, aR_tR_n, hn_nw, hm_nw, rc400, rc403, rc404, rc405, rc407, rc409, rc420, rc440, bI_0, bI_1, bI_T, bI_F, iF_T, iF_F, br_not, le_nlt, not_true_eq_false, not_false_eq_true, and_self, and_true, true_and, and_false, false_and, or_true, true_or, or_false, false_or, ne_eq, reduceCtorEq, Nat.reduceLeDiff, Nat.reduceEqDiff, Nat.reduceLT, Nat.reduceAdd, Nat.reduceSub, Nat.reduceMul, Int32.reduceLT, Int32.reduceLE, Int32.reduceToNatClampNeg, Int32.reduceAdd, Int32.reduceSub, implies_true, forall_const, isIn_e, bit_e, lits, b1]
  refine rdSide_e hB hC _ ?_
  intro h1 hC1
  obtain ⟨b1', b2', b3', b4'⟩ := hC1.js hB
  unfold JS at b1'
  unfold grTst grTst2 gtE at hQ
  generalize grSide (grN L n) s = l at *
  simp (config := {decide := true}) only [gI_e, gR_e, pI_e, pZ_e, pR_e, ldI_e, ldZ_e, ldL_e, ldR_e, stI_e, stZ_e, stL_e, stR_e, alN_e, nwA_e, nwO_e, dvI_e, rmI_e, oV_e, oN_e, lt_e, rZ_e, br_T, br_F, fR_sI, aI_sI, aL_sI, aR_sI, kd_sI, ln_sI, hn_sI, hm_sI, fI_sI_n, fI_sR, aI_sR, aL_sR, aR_sR, kd_sR, ln_sR, hn_sR, hm_sR, fR_sR_n, fI_tI, fR_tI, aL_tI, aR_tI, kd_tI, ln_tI, hn_tI, hm_tI, aI_tI_n, fI_tL, fR_tL, aI_tL, aR_tL, kd_tL, ln_tL, hn_tL, hm_tL, aL_tL_n, fI_tR, fR_tR, aI_tR, aL_tR, kd_tR, ln_tR, hn_tR, hm_tR, aR_tR_n, hn_nw, hm_nw, rc400, rc403, rc404, rc405, rc407, rc409, rc420, rc440, bI_0, bI_1, bI_T, bI_F, iF_T, iF_F, br_not, le_nlt, not_true_eq_false, not_false_eq_true, and_self, and_true, true_and, and_false, false_and, or_true, true_or, or_false, false_or, ne_eq, reduceCtorEq, Nat.reduceLeDiff, Nat.reduceEqDiff, Nat.reduceLT, Nat.reduceAdd, Nat.reduceSub, Nat.reduceMul, Int32.reduceLT, Int32.reduceLE, Int32.reduceToNatClampNeg, Int32.reduceAdd, Int32.reduceSub, implies_true, forall_const, isIn_e, bit_e, lits, b1']
  refine next_e hB hC1 _ ?_
  have body : n_X8_readTest_34 (some (g 0 8)) (sdv V l.1) (grN L n l.2) (bI (grSg (grN L n l.2))) (some (g 0 8)) h1 Q := by
    unfold n_X8_readTest_34
    simp (config := {decide := true}) only [gI_e, gR_e, pI_e, pZ_e, pR_e, ldI_e, ldZ_e, ldL_e, ldR_e, stI_e, stZ_e, stL_e, stR_e, alN_e, nwA_e, nwO_e, dvI_e, rmI_e, oV_e, oN_e, lt_e, rZ_e, br_T, br_F, fR_sI, aI_sI, aL_sI, aR_sI, kd_sI, ln_sI, hn_sI, hm_sI, fI_sI_n, fI_sR, aI_sR, aL_sR, aR_sR, kd_sR, ln_sR, hn_sR, hm_sR, fR_sR_n, fI_tI, fR_tI, aL_tI, aR_tI, kd_tI, ln_tI, hn_tI, hm_tI, aI_tI_n, fI_tL, fR_tL, aI_tL, aR_tL, kd_tL, ln_tL, hn_tL, hm_tL, aL_tL_n, fI_tR, fR_tR, aI_tR, aL_tR, kd_tR, ln_tR, hn_tR, hm_tR, aR_tR_n, hn_nw, hm_nw, rc400, rc403, rc404, rc405, rc407, rc409, rc420, rc440, bI_0, bI_1, bI_T, bI_F, iF_T, iF_F, br_not, le_nlt, not_true_eq_false, not_false_eq_true, and_self, and_true, true_and, and_false, false_and, or_true, true_or, or_false, false_or, ne_eq, reduceCtorEq, Nat.reduceLeDiff, Nat.reduceEqDiff, Nat.reduceLT, Nat.reduceAdd, Nat.reduceSub, Nat.reduceMul, Int32.reduceLT, Int32.reduceLE, Int32.reduceToNatClampNeg, Int32.reduceAdd, Int32.reduceSub, implies_true, forall_const, isIn_e, bit_e, lits, b1']
    refine pass_e hB hC1 _ (fun w => ?_) _ ?_
    · rcases w with w | w | w
      · exact (grN_c w (by decide)).2
      · exact (grN_c w (by decide)).2
      · exact (grN_c w (by decide)).2
    intro h2 hC2
    obtain ⟨b1'', b2'', b3'', b4''⟩ := hC2.js hB
    unfold JS at b1''
    simp (config := {decide := true}) only [gI_e, gR_e, pI_e, pZ_e, pR_e, ldI_e, ldZ_e, ldL_e, ldR_e, stI_e, stZ_e, stL_e, stR_e, alN_e, nwA_e, nwO_e, dvI_e, rmI_e, oV_e, oN_e, lt_e, rZ_e, br_T, br_F, fR_sI, aI_sI, aL_sI, aR_sI, kd_sI, ln_sI, hn_sI, hm_sI, fI_sI_n, fI_sR, aI_sR, aL_sR, aR_sR, kd_sR, ln_sR, hn_sR, hm_sR, fR_sR_n, fI_tI, fR_tI, aL_tI, aR_tI, kd_tI, ln_tI, hn_tI, hm_tI, aI_tI_n, fI_tL, fR_tL, aI_tL, aR_tL, kd_tL, ln_tL, hn_tL, hm_tL, aL_tL_n, fI_tR, fR_tR, aI_tR, aL_tR, kd_tR, ln_tR, hn_tR, hm_tR, aR_tR_n, hn_nw, hm_nw, rc400, rc403, rc404, rc405, rc407, rc409, rc420, rc440, bI_0, bI_1, bI_T, bI_F, iF_T, iF_F, br_not, le_nlt, not_true_eq_false, not_false_eq_true, and_self, and_true, true_and, and_false, false_and, or_true, true_or, or_false, false_or, ne_eq, reduceCtorEq, Nat.reduceLeDiff, Nat.reduceEqDiff, Nat.reduceLT, Nat.reduceAdd, Nat.reduceSub, Nat.reduceMul, Int32.reduceLT, Int32.reduceLE, Int32.reduceToNatClampNeg, Int32.reduceAdd, Int32.reduceSub, implies_true, forall_const, isIn_e, bit_e, lits, b1'']
    refine rdSide_e hB hC2 _ ?_
    intro h3 hC3
    have hq := hQ h3 hC3
    generalize grSide (grN L n) (grP (grSg (grN L n l.2)) l.2) = r at *
    unfold n_X8_readTest_61 n_X8_readTest_95
    have hq2 : Q (bI (iF (grN L n l.2 = 60) (lg_cmp (sdv V l.1) (sdv V r.1) < 0) (iF (grN L n l.2 = 62) (0 < lg_cmp (sdv V l.1) (sdv V r.1)) (lg_cmp (sdv V l.1) (sdv V r.1) = 0)))) h3 := hq
    generalize lg_cmp (sdv V l.1) (sdv V r.1) = c at *
    by_cases s1 : grN L n l.2 = 60
    · rw [iF_y s1] at hq2
      by_cases z : c < 0
      · rw [bI_y z] at hq2
        simp (config := {decide := true}) only [gI_e, gR_e, pI_e, pZ_e, pR_e, ldI_e, ldZ_e, ldL_e, ldR_e, stI_e, stZ_e, stL_e, stR_e, alN_e, nwA_e, nwO_e, dvI_e, rmI_e, oV_e, oN_e, lt_e, rZ_e, br_T, br_F, fR_sI, aI_sI, aL_sI, aR_sI, kd_sI, ln_sI, hn_sI, hm_sI, fI_sI_n, fI_sR, aI_sR, aL_sR, aR_sR, kd_sR, ln_sR, hn_sR, hm_sR, fR_sR_n, fI_tI, fR_tI, aL_tI, aR_tI, kd_tI, ln_tI, hn_tI, hm_tI, aI_tI_n, fI_tL, fR_tL, aI_tL, aR_tL, kd_tL, ln_tL, hn_tL, hm_tL, aL_tL_n, fI_tR, fR_tR, aI_tR, aL_tR, kd_tR, ln_tR, hn_tR, hm_tR, aR_tR_n, hn_nw, hm_nw, rc400, rc403, rc404, rc405, rc407, rc409, rc420, rc440, bI_0, bI_1, bI_T, bI_F, iF_T, iF_F, br_not, le_nlt, not_true_eq_false, not_false_eq_true, and_self, and_true, true_and, and_false, false_and, or_true, true_or, or_false, false_or, ne_eq, reduceCtorEq, Nat.reduceLeDiff, Nat.reduceEqDiff, Nat.reduceLT, Nat.reduceAdd, Nat.reduceSub, Nat.reduceMul, Int32.reduceLT, Int32.reduceLE, Int32.reduceToNatClampNeg, Int32.reduceAdd, Int32.reduceSub, implies_true, forall_const, isIn_e, bit_e, lits, s1, z]
        exact hq2
      · rw [bI_n z] at hq2
        simp (config := {decide := true}) only [gI_e, gR_e, pI_e, pZ_e, pR_e, ldI_e, ldZ_e, ldL_e, ldR_e, stI_e, stZ_e, stL_e, stR_e, alN_e, nwA_e, nwO_e, dvI_e, rmI_e, oV_e, oN_e, lt_e, rZ_e, br_T, br_F, fR_sI, aI_sI, aL_sI, aR_sI, kd_sI, ln_sI, hn_sI, hm_sI, fI_sI_n, fI_sR, aI_sR, aL_sR, aR_sR, kd_sR, ln_sR, hn_sR, hm_sR, fR_sR_n, fI_tI, fR_tI, aL_tI, aR_tI, kd_tI, ln_tI, hn_tI, hm_tI, aI_tI_n, fI_tL, fR_tL, aI_tL, aR_tL, kd_tL, ln_tL, hn_tL, hm_tL, aL_tL_n, fI_tR, fR_tR, aI_tR, aL_tR, kd_tR, ln_tR, hn_tR, hm_tR, aR_tR_n, hn_nw, hm_nw, rc400, rc403, rc404, rc405, rc407, rc409, rc420, rc440, bI_0, bI_1, bI_T, bI_F, iF_T, iF_F, br_not, le_nlt, not_true_eq_false, not_false_eq_true, and_self, and_true, true_and, and_false, false_and, or_true, true_or, or_false, false_or, ne_eq, reduceCtorEq, Nat.reduceLeDiff, Nat.reduceEqDiff, Nat.reduceLT, Nat.reduceAdd, Nat.reduceSub, Nat.reduceMul, Int32.reduceLT, Int32.reduceLE, Int32.reduceToNatClampNeg, Int32.reduceAdd, Int32.reduceSub, implies_true, forall_const, isIn_e, bit_e, lits, s1, z]
        exact hq2
    · rw [iF_n s1] at hq2
      by_cases s2 : grN L n l.2 = 62
      · rw [iF_y s2] at hq2
        by_cases z : 0 < c
        · rw [bI_y z] at hq2
          simp (config := {decide := true}) only [gI_e, gR_e, pI_e, pZ_e, pR_e, ldI_e, ldZ_e, ldL_e, ldR_e, stI_e, stZ_e, stL_e, stR_e, alN_e, nwA_e, nwO_e, dvI_e, rmI_e, oV_e, oN_e, lt_e, rZ_e, br_T, br_F, fR_sI, aI_sI, aL_sI, aR_sI, kd_sI, ln_sI, hn_sI, hm_sI, fI_sI_n, fI_sR, aI_sR, aL_sR, aR_sR, kd_sR, ln_sR, hn_sR, hm_sR, fR_sR_n, fI_tI, fR_tI, aL_tI, aR_tI, kd_tI, ln_tI, hn_tI, hm_tI, aI_tI_n, fI_tL, fR_tL, aI_tL, aR_tL, kd_tL, ln_tL, hn_tL, hm_tL, aL_tL_n, fI_tR, fR_tR, aI_tR, aL_tR, kd_tR, ln_tR, hn_tR, hm_tR, aR_tR_n, hn_nw, hm_nw, rc400, rc403, rc404, rc405, rc407, rc409, rc420, rc440, bI_0, bI_1, bI_T, bI_F, iF_T, iF_F, br_not, le_nlt, not_true_eq_false, not_false_eq_true, and_self, and_true, true_and, and_false, false_and, or_true, true_or, or_false, false_or, ne_eq, reduceCtorEq, Nat.reduceLeDiff, Nat.reduceEqDiff, Nat.reduceLT, Nat.reduceAdd, Nat.reduceSub, Nat.reduceMul, Int32.reduceLT, Int32.reduceLE, Int32.reduceToNatClampNeg, Int32.reduceAdd, Int32.reduceSub, implies_true, forall_const, isIn_e, bit_e, lits, s2, z]
          exact hq2
        · rw [bI_n z] at hq2
          simp (config := {decide := true}) only [gI_e, gR_e, pI_e, pZ_e, pR_e, ldI_e, ldZ_e, ldL_e, ldR_e, stI_e, stZ_e, stL_e, stR_e, alN_e, nwA_e, nwO_e, dvI_e, rmI_e, oV_e, oN_e, lt_e, rZ_e, br_T, br_F, fR_sI, aI_sI, aL_sI, aR_sI, kd_sI, ln_sI, hn_sI, hm_sI, fI_sI_n, fI_sR, aI_sR, aL_sR, aR_sR, kd_sR, ln_sR, hn_sR, hm_sR, fR_sR_n, fI_tI, fR_tI, aL_tI, aR_tI, kd_tI, ln_tI, hn_tI, hm_tI, aI_tI_n, fI_tL, fR_tL, aI_tL, aR_tL, kd_tL, ln_tL, hn_tL, hm_tL, aL_tL_n, fI_tR, fR_tR, aI_tR, aL_tR, kd_tR, ln_tR, hn_tR, hm_tR, aR_tR_n, hn_nw, hm_nw, rc400, rc403, rc404, rc405, rc407, rc409, rc420, rc440, bI_0, bI_1, bI_T, bI_F, iF_T, iF_F, br_not, le_nlt, not_true_eq_false, not_false_eq_true, and_self, and_true, true_and, and_false, false_and, or_true, true_or, or_false, false_or, ne_eq, reduceCtorEq, Nat.reduceLeDiff, Nat.reduceEqDiff, Nat.reduceLT, Nat.reduceAdd, Nat.reduceSub, Nat.reduceMul, Int32.reduceLT, Int32.reduceLE, Int32.reduceToNatClampNeg, Int32.reduceAdd, Int32.reduceSub, implies_true, forall_const, isIn_e, bit_e, lits, s2, z]
          exact hq2
      · rw [iF_n s2] at hq2
        by_cases z : c = 0
        · rw [bI_y z] at hq2
          simp (config := {decide := true}) only [gI_e, gR_e, pI_e, pZ_e, pR_e, ldI_e, ldZ_e, ldL_e, ldR_e, stI_e, stZ_e, stL_e, stR_e, alN_e, nwA_e, nwO_e, dvI_e, rmI_e, oV_e, oN_e, lt_e, rZ_e, br_T, br_F, fR_sI, aI_sI, aL_sI, aR_sI, kd_sI, ln_sI, hn_sI, hm_sI, fI_sI_n, fI_sR, aI_sR, aL_sR, aR_sR, kd_sR, ln_sR, hn_sR, hm_sR, fR_sR_n, fI_tI, fR_tI, aL_tI, aR_tI, kd_tI, ln_tI, hn_tI, hm_tI, aI_tI_n, fI_tL, fR_tL, aI_tL, aR_tL, kd_tL, ln_tL, hn_tL, hm_tL, aL_tL_n, fI_tR, fR_tR, aI_tR, aL_tR, kd_tR, ln_tR, hn_tR, hm_tR, aR_tR_n, hn_nw, hm_nw, rc400, rc403, rc404, rc405, rc407, rc409, rc420, rc440, bI_0, bI_1, bI_T, bI_F, iF_T, iF_F, br_not, le_nlt, not_true_eq_false, not_false_eq_true, and_self, and_true, true_and, and_false, false_and, or_true, true_or, or_false, false_or, ne_eq, reduceCtorEq, Nat.reduceLeDiff, Nat.reduceEqDiff, Nat.reduceLT, Nat.reduceAdd, Nat.reduceSub, Nat.reduceMul, Int32.reduceLT, Int32.reduceLE, Int32.reduceToNatClampNeg, Int32.reduceAdd, Int32.reduceSub, implies_true, forall_const, isIn_e, bit_e, lits, s1, s2, z]
          exact hq2
        · rw [bI_n z] at hq2
          simp (config := {decide := true}) only [gI_e, gR_e, pI_e, pZ_e, pR_e, ldI_e, ldZ_e, ldL_e, ldR_e, stI_e, stZ_e, stL_e, stR_e, alN_e, nwA_e, nwO_e, dvI_e, rmI_e, oV_e, oN_e, lt_e, rZ_e, br_T, br_F, fR_sI, aI_sI, aL_sI, aR_sI, kd_sI, ln_sI, hn_sI, hm_sI, fI_sI_n, fI_sR, aI_sR, aL_sR, aR_sR, kd_sR, ln_sR, hn_sR, hm_sR, fR_sR_n, fI_tI, fR_tI, aL_tI, aR_tI, kd_tI, ln_tI, hn_tI, hm_tI, aI_tI_n, fI_tL, fR_tL, aI_tL, aR_tL, kd_tL, ln_tL, hn_tL, hm_tL, aL_tL_n, fI_tR, fR_tR, aI_tR, aL_tR, kd_tR, ln_tR, hn_tR, hm_tR, aR_tR_n, hn_nw, hm_nw, rc400, rc403, rc404, rc405, rc407, rc409, rc420, rc440, bI_0, bI_1, bI_T, bI_F, iF_T, iF_F, br_not, le_nlt, not_true_eq_false, not_false_eq_true, and_self, and_true, true_and, and_false, false_and, or_true, true_or, or_false, false_or, ne_eq, reduceCtorEq, Nat.reduceLeDiff, Nat.reduceEqDiff, Nat.reduceLT, Nat.reduceAdd, Nat.reduceSub, Nat.reduceMul, Int32.reduceLT, Int32.reduceLE, Int32.reduceToNatClampNeg, Int32.reduceAdd, Int32.reduceSub, implies_true, forall_const, isIn_e, bit_e, lits, s1, s2, z]
          exact hq2
  unfold n_X8_readTest_29
  by_cases s1 : grN L n l.2 = 60
  · rw [bI_y (show grSg (grN L n l.2) from Or.inl s1)] at body
    simp (config := {decide := true}) only [gI_e, gR_e, pI_e, pZ_e, pR_e, ldI_e, ldZ_e, ldL_e, ldR_e, stI_e, stZ_e, stL_e, stR_e, alN_e, nwA_e, nwO_e, dvI_e, rmI_e, oV_e, oN_e, lt_e, rZ_e, br_T, br_F, fR_sI, aI_sI, aL_sI, aR_sI, kd_sI, ln_sI, hn_sI, hm_sI, fI_sI_n, fI_sR, aI_sR, aL_sR, aR_sR, kd_sR, ln_sR, hn_sR, hm_sR, fR_sR_n, fI_tI, fR_tI, aL_tI, aR_tI, kd_tI, ln_tI, hn_tI, hm_tI, aI_tI_n, fI_tL, fR_tL, aI_tL, aR_tL, kd_tL, ln_tL, hn_tL, hm_tL, aL_tL_n, fI_tR, fR_tR, aI_tR, aL_tR, kd_tR, ln_tR, hn_tR, hm_tR, aR_tR_n, hn_nw, hm_nw, rc400, rc403, rc404, rc405, rc407, rc409, rc420, rc440, bI_0, bI_1, bI_T, bI_F, iF_T, iF_F, br_not, le_nlt, not_true_eq_false, not_false_eq_true, and_self, and_true, true_and, and_false, false_and, or_true, true_or, or_false, false_or, ne_eq, reduceCtorEq, Nat.reduceLeDiff, Nat.reduceEqDiff, Nat.reduceLT, Nat.reduceAdd, Nat.reduceSub, Nat.reduceMul, Int32.reduceLT, Int32.reduceLE, Int32.reduceToNatClampNeg, Int32.reduceAdd, Int32.reduceSub, implies_true, forall_const, isIn_e, bit_e, lits, s1] at body ⊢
    exact body
  · by_cases s2 : grN L n l.2 = 62
    · rw [bI_y (show grSg (grN L n l.2) from Or.inr (Or.inl s2))] at body
      simp (config := {decide := true}) only [gI_e, gR_e, pI_e, pZ_e, pR_e, ldI_e, ldZ_e, ldL_e, ldR_e, stI_e, stZ_e, stL_e, stR_e, alN_e, nwA_e, nwO_e, dvI_e, rmI_e, oV_e, oN_e, lt_e, rZ_e, br_T, br_F, fR_sI, aI_sI, aL_sI, aR_sI, kd_sI, ln_sI, hn_sI, hm_sI, fI_sI_n, fI_sR, aI_sR, aL_sR, aR_sR, kd_sR, ln_sR, hn_sR, hm_sR, fR_sR_n, fI_tI, fR_tI, aL_tI, aR_tI, kd_tI, ln_tI, hn_tI, hm_tI, aI_tI_n, fI_tL, fR_tL, aI_tL, aR_tL, kd_tL, ln_tL, hn_tL, hm_tL, aL_tL_n, fI_tR, fR_tR, aI_tR, aL_tR, kd_tR, ln_tR, hn_tR, hm_tR, aR_tR_n, hn_nw, hm_nw, rc400, rc403, rc404, rc405, rc407, rc409, rc420, rc440, bI_0, bI_1, bI_T, bI_F, iF_T, iF_F, br_not, le_nlt, not_true_eq_false, not_false_eq_true, and_self, and_true, true_and, and_false, false_and, or_true, true_or, or_false, false_or, ne_eq, reduceCtorEq, Nat.reduceLeDiff, Nat.reduceEqDiff, Nat.reduceLT, Nat.reduceAdd, Nat.reduceSub, Nat.reduceMul, Int32.reduceLT, Int32.reduceLE, Int32.reduceToNatClampNeg, Int32.reduceAdd, Int32.reduceSub, implies_true, forall_const, isIn_e, bit_e, lits, s2] at body ⊢
      exact body
    · by_cases s3 : grN L n l.2 = 61
      · rw [bI_y (show grSg (grN L n l.2) from Or.inr (Or.inr s3))] at body
        simp (config := {decide := true}) only [gI_e, gR_e, pI_e, pZ_e, pR_e, ldI_e, ldZ_e, ldL_e, ldR_e, stI_e, stZ_e, stL_e, stR_e, alN_e, nwA_e, nwO_e, dvI_e, rmI_e, oV_e, oN_e, lt_e, rZ_e, br_T, br_F, fR_sI, aI_sI, aL_sI, aR_sI, kd_sI, ln_sI, hn_sI, hm_sI, fI_sI_n, fI_sR, aI_sR, aL_sR, aR_sR, kd_sR, ln_sR, hn_sR, hm_sR, fR_sR_n, fI_tI, fR_tI, aL_tI, aR_tI, kd_tI, ln_tI, hn_tI, hm_tI, aI_tI_n, fI_tL, fR_tL, aI_tL, aR_tL, kd_tL, ln_tL, hn_tL, hm_tL, aL_tL_n, fI_tR, fR_tR, aI_tR, aL_tR, kd_tR, ln_tR, hn_tR, hm_tR, aR_tR_n, hn_nw, hm_nw, rc400, rc403, rc404, rc405, rc407, rc409, rc420, rc440, bI_0, bI_1, bI_T, bI_F, iF_T, iF_F, br_not, le_nlt, not_true_eq_false, not_false_eq_true, and_self, and_true, true_and, and_false, false_and, or_true, true_or, or_false, false_or, ne_eq, reduceCtorEq, Nat.reduceLeDiff, Nat.reduceEqDiff, Nat.reduceLT, Nat.reduceAdd, Nat.reduceSub, Nat.reduceMul, Int32.reduceLT, Int32.reduceLE, Int32.reduceToNatClampNeg, Int32.reduceAdd, Int32.reduceSub, implies_true, forall_const, isIn_e, bit_e, lits, s3] at body ⊢
        exact body
      · rw [bI_n (show ¬ grSg (grN L n l.2) from fun w => w.elim s1 (fun w => w.elim s2 s3))] at body
        simp (config := {decide := true}) only [gI_e, gR_e, pI_e, pZ_e, pR_e, ldI_e, ldZ_e, ldL_e, ldR_e, stI_e, stZ_e, stL_e, stR_e, alN_e, nwA_e, nwO_e, dvI_e, rmI_e, oV_e, oN_e, lt_e, rZ_e, br_T, br_F, fR_sI, aI_sI, aL_sI, aR_sI, kd_sI, ln_sI, hn_sI, hm_sI, fI_sI_n, fI_sR, aI_sR, aL_sR, aR_sR, kd_sR, ln_sR, hn_sR, hm_sR, fR_sR_n, fI_tI, fR_tI, aL_tI, aR_tI, kd_tI, ln_tI, hn_tI, hm_tI, aI_tI_n, fI_tL, fR_tL, aI_tL, aR_tL, kd_tL, ln_tL, hn_tL, hm_tL, aL_tL_n, fI_tR, fR_tR, aI_tR, aL_tR, kd_tR, ln_tR, hn_tR, hm_tR, aR_tR_n, hn_nw, hm_nw, rc400, rc403, rc404, rc405, rc407, rc409, rc420, rc440, bI_0, bI_1, bI_T, bI_F, iF_T, iF_F, br_not, le_nlt, not_true_eq_false, not_false_eq_true, and_self, and_true, true_and, and_false, false_and, or_true, true_or, or_false, false_or, ne_eq, reduceCtorEq, Nat.reduceLeDiff, Nat.reduceEqDiff, Nat.reduceLT, Nat.reduceAdd, Nat.reduceSub, Nat.reduceMul, Int32.reduceLT, Int32.reduceLE, Int32.reduceToNatClampNeg, Int32.reduceAdd, Int32.reduceSub, implies_true, forall_const, isIn_e, bit_e, lits, s1, s2, s3] at body ⊢
        exact body
end RDC
