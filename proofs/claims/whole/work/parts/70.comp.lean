def czF (f : Nat) : Bool := cmF f || f == 1469 || f == 1470
def czK (k : Nat) : Bool := cmK k || k == 151 || k == 152
theorem cm_zF : ∀ f, czF f = false → cmF f = false := by
  intro f q
  unfold czF at q
  cases c : cmF f
  · rfl
  · rw [c] at q
    simp at q
theorem cm_zK : ∀ f, czK f = false → cmK f = false := by
  intro f q
  unfold czK at q
  cases c : cmK f
  · rfl
  · rw [c] at q
    simp at q
section COMP
variable {x y b0 s0 np na nm nr ne r sb n z : Nat} {g : Nat → Nat → Nat} {m : Nat → Nat} {h0 h h1 : Hp} {L V : Nat → Int32} {s : RS}
theorem gz3 (h : ¬ s.2 = -1) : grE2 n (grP (grJo (grN L n s)) s) = s := by
  rw [grN_z h]
  unfold grP grE2
  rw [iF_n (show ¬ grJo (-1) from by unfold grJo; decide), grF_z h]
  by_cases c : s.1 < n
  · rw [iF_y c, grF_z h]
  · rw [iF_n c]
theorem gz2 (h : ¬ s.2 = -1) : grE2 n (grP (grJo (grN L n (grW (grN L n) 58 s))) (grW (grN L n) 58 s)) = s := by
  rw [grW_z (by decide) h]
  exact gz3 h
theorem gz1 (h : ¬ s.2 = -1) : grE2 n (grP (grJo (grN L n (grW (grN L n) 58 (grW (grN L n) 106 s)))) (grW (grN L n) 58 (grW (grN L n) 106 s))) = s := by
  rw [grW_z (c := 106) (by decide) h]
  exact gz2 h
theorem gz0 (h : ¬ s.2 = -1) : grE2 n (grP (grJo (grN L n (grW (grN L n) 58 (grW (grN L n) 106 (grW (grN L n) 59 s))))) (grW (grN L n) 58 (grW (grN L n) 106 (grW (grN L n) 59 s)))) = s := by
  rw [grW_z (c := 59) (by decide) h]
  exact gz1 h
theorem grW_y {N : RS → Int32} {c : Int32} {a : Nat} (w : N (a, -1) = c) : grW N c (a, -1) = (a + 1, -1) := by
  unfold grW grP
  rw [iF_y w]
theorem grW_n {N : RS → Int32} {c : Int32} {a : Nat} (w : ¬ N (a, -1) = c) : grW N c (a, -1) = (a, nI a) := by
  unfold grW grP
  rw [iF_n w]
  exact if_pos rfl
/-- what a compiling leaves -/
def CR (m : Nat → Nat) (r : Nat) (h0 h : Hp) : Prop := eqX czF czK h0 h ∧ (∀ j, j < 100 * r → aI h 153 (m 153) j = aI h0 153 (m 153) j) ∧ (∀ j, j < 40 * r → aI h 154 (m 154) j = aI h0 154 (m 154) j ∧ aI h 155 (m 155) j = aI h0 155 (m 155) j ∧ aI h 156 (m 156) j = aI h0 156 (m 156) j ∧ aI h 157 (m 157) j = aI h0 157 (m 157) j ∧ aI h 158 (m 158) j = aI h0 158 (m 158) j) ∧ ∀ j, j < r → aI h 151 (m 151) j = aI h0 151 (m 151) j ∧ aI h 152 (m 152) j = aI h0 152 (m 152) j
theorem KR.cr (k : KR m r h0 h) (e : eqX czF crK h1 h0) : CR m r h1 h := by
  obtain ⟨k1, k2, k3⟩ := k
  have e2 := e
  obtain ⟨-, -, -, -, -, -, e7, -, -⟩ := e2
  refine ⟨(eqX.up (fun f q => q) (fun _ _ => rfl) e).tr (eqX.up cm_zF cm_zK k1), ?_, ?_, fun j hj => ?_⟩
  · rw [← e7 153 rfl]; exact k2
  · rw [← e7 154 rfl, ← e7 155 rfl, ← e7 156 rfl, ← e7 157 rfl, ← e7 158 rfl]; exact k3
  · rw [← e7 151 rfl, ← e7 152 rfl, k1.2.2.2.2.2.2.1 151 rfl, k1.2.2.2.2.2.2.1 152 rfl]
    exact ⟨rfl, rfl⟩
theorem compiles_e (hR : RJ y np na nm nr ne m h) (hsb : sb < 8) (hr : r < 13) (hz : z ≤ 60) (sz : aI h 130 (m 130) sb = nI z) (hL : L = fun j => (aL h 310 (m 310) (60 * sb + j)).toInt32) (Q : Int32 → Hp → Prop) (hN : ¬ (grE (grN L z) z).2 = -1 → ∀ h', CR m r h h' → Q (grE (grN L z) z).2 h') (hY : (grE (grN L z) z).2 = -1 → ∀ h', CR m r h h' → 2 * (grA (grN L z)).2.2.1.length + (grA (grN L z)).2.1.length ≤ z → (∀ i, i < (grA (grN L z)).2.1.length → aI h' 153 (m 153) (100 * r + i) = (grA (grN L z)).2.1.getD i 0) → (∀ i, i < (grA (grN L z)).2.2.1.length → tTT h' m (40 * r + i) = (grA (grN L z)).2.2.1.getD i (0, 0, 0, 0, 0)) → aI h' 151 (m 151) r = nI (grA (grN L z)).2.1.length → (∃ d, d < 3 ∧ aI h' 152 (m 152) r = nI (d + 1) ∧ grN L z (grZ (grN L z)) = jnV d) → Q (-1) h') : w_X11_compiles (some y) (nI sb) (nI r) h Q := by
  have hA := hR.1
  unfold JM at hA
  have cs := cnF hsb (Nat.le_refl 8) (by decide)
  have ix : (60 : Int32) * nI sb = nI (60 * sb) := by rw [show (60 : Int32) = nI 60 from rfl, pk_mul]
  unfold w_X11_compiles n_X11_compiles_0
  simp (config := {decide := true}) only [gI_e, gR_e, pI_e, pZ_e, pR_e, ldI_e, ldZ_e, ldL_e, ldR_e, stI_e, stZ_e, stL_e, stR_e, alN_e, nwA_e, nwO_e, dvI_e, rmI_e, oV_e, oN_e, lt_e, rZ_e, br_T, br_F, fR_sI, aI_sI, aL_sI, aR_sI, kd_sI, ln_sI, hn_sI, hm_sI, fI_sI_n, fI_sR, aI_sR, aL_sR, aR_sR, kd_sR, ln_sR, hn_sR, hm_sR, fR_sR_n, fI_tI, fR_tI, aL_tI, aR_tI, kd_tI, ln_tI, hn_tI, hm_tI, aI_tI_n, fI_tL, fR_tL, aI_tL, aR_tL, kd_tL, ln_tL, hn_tL, hm_tL, aL_tL_n, fI_tR, fR_tR, aI_tR, aL_tR, kd_tR, ln_tR, hn_tR, hm_tR, aR_tR_n, hn_nw, hm_nw, rc400, rc403, rc404, rc405, rc407, rc409, rc420, rc440, bI_0, bI_1, bI_T, bI_F, iF_T, iF_F, br_not, le_nlt, not_true_eq_false, not_false_eq_true, and_self, and_true, true_and, and_false, false_and, or_true, true_or, or_false, false_or, ne_eq, reduceCtorEq, Nat.reduceLeDiff, Nat.reduceEqDiff, Nat.reduceLT, Nat.reduceAdd, Nat.reduceSub, Nat.reduceMul, Int32.reduceLT, Int32.reduceLE, Int32.reduceToNatClampNeg, Int32.reduceAdd, Int32.reduceSub, implies_true, forall_const, isIn_e, bit_e, lits, hA, cs, sz, ix]
  have eX1 : eqX czF crK h (sI (sI (sI (sI (sI (sI (sI h 1470 y (nI (60 * sb))) 1469 y (nI z)) 1468 y 0) 1471 y 0) 1472 y 0) 1473 y 0) 1474 y 0) := ((((((((eqX.rf h).sI rfl _ _).sI rfl _ _).sI rfl _ _).sI rfl _ _).sI rfl _ _).sI rfl _ _).sI rfl _ _)
  have g1 : fI (sI (sI (sI (sI (sI (sI (sI h 1470 y (nI (60 * sb))) 1469 y (nI z)) 1468 y 0) 1471 y 0) 1472 y 0) 1473 y 0) 1474 y 0) 1468 y = 0 ∧ fI (sI (sI (sI (sI (sI (sI (sI h 1470 y (nI (60 * sb))) 1469 y (nI z)) 1468 y 0) 1471 y 0) 1472 y 0) 1473 y 0) 1474 y 0) 1469 y = nI z ∧ fI (sI (sI (sI (sI (sI (sI (sI h 1470 y (nI (60 * sb))) 1469 y (nI z)) 1468 y 0) 1471 y 0) 1472 y 0) 1473 y 0) 1474 y 0) 1470 y = nI (60 * sb) ∧ fI (sI (sI (sI (sI (sI (sI (sI h 1470 y (nI (60 * sb))) 1469 y (nI z)) 1468 y 0) 1471 y 0) 1472 y 0) 1473 y 0) 1474 y 0) 1471 y = 0 ∧ fI (sI (sI (sI (sI (sI (sI (sI h 1470 y (nI (60 * sb))) 1469 y (nI z)) 1468 y 0) 1471 y 0) 1472 y 0) 1473 y 0) 1474 y 0) 1472 y = 0 ∧ fI (sI (sI (sI (sI (sI (sI (sI h 1470 y (nI (60 * sb))) 1469 y (nI z)) 1468 y 0) 1471 y 0) 1472 y 0) 1473 y 0) 1474 y 0) 1473 y = 0 ∧ fI (sI (sI (sI (sI (sI (sI (sI h 1470 y (nI (60 * sb))) 1469 y (nI z)) 1468 y 0) 1471 y 0) 1472 y 0) 1473 y 0) 1474 y 0) 1474 y = 0 := by
    simp (config := {decide := true}) only [fR_sI, aI_sI, aL_sI, aR_sI, kd_sI, ln_sI, hn_sI, hm_sI, fI_sI_n, fI_sR, aI_sR, aL_sR, aR_sR, kd_sR, ln_sR, hn_sR, hm_sR, fR_sR_n, fI_tI, fR_tI, aL_tI, aR_tI, kd_tI, ln_tI, hn_tI, hm_tI, aI_tI_n, fI_tL, fR_tL, aI_tL, aR_tL, kd_tL, ln_tL, hn_tL, hm_tL, aL_tL_n, fI_tR, fR_tR, aI_tR, aL_tR, kd_tR, ln_tR, hn_tR, hm_tR, aR_tR_n, hn_nw, hm_nw, fI_sI_e, fR_sR_e, aI_tI_e, aL_tL_e, aR_tR_e, if_true, and_self]
  generalize sI (sI (sI (sI (sI (sI (sI h 1470 y (nI (60 * sb))) 1469 y (nI z)) 1468 y 0) 1471 y 0) 1472 y 0) 1473 y 0) 1474 y 0 = h1 at *
  obtain ⟨g68, g69, g70, g71, g72, g73, g74⟩ := g1
  have hM1 : JM y m h1 := by
    have := hR.1
    obtain ⟨e1, e2, e3, e4, e5, e6, e7, e8, e9⟩ := eX1
    unfold JM at this ⊢
    rw [e3, e4, e5]
    exact this
  have hB : RB y r sb z L m h1 := by
    refine ⟨hM1, hr, hsb, hz, g69, g70, fun j hj => ?_⟩
    rw [hL, eX1.2.2.2.2.2.2.2.1]
  have R0 : KQ y m r z h1 h1 0 [] 0 [] [] := ⟨⟨⟨eqX.rf _, fun _ _ => rfl, fun _ _ => ⟨rfl, rfl, rfl, rfl, rfl⟩⟩, Nat.zero_le _, g68⟩, g73, g74, g71, g72, fun i hi => absurd hi (Nat.not_lt_zero _), fun i hi => absurd hi (Nat.not_lt_zero _), fun i hi => absurd hi (Nat.not_lt_zero _)⟩
  have cr : ∀ h', KR m r h1 h' → CR m r h h' := fun h' k => k.cr eX1
  unfold JM at hM1
  unfold grE grZ grA at hN hY
  simp (config := {decide := true}) only [gI_e, gR_e, pI_e, pZ_e, pR_e, ldI_e, ldZ_e, ldL_e, ldR_e, stI_e, stZ_e, stL_e, stR_e, alN_e, nwA_e, nwO_e, dvI_e, rmI_e, oV_e, oN_e, lt_e, rZ_e, br_T, br_F, fR_sI, aI_sI, aL_sI, aR_sI, kd_sI, ln_sI, hn_sI, hm_sI, fI_sI_n, fI_sR, aI_sR, aL_sR, aR_sR, kd_sR, ln_sR, hn_sR, hm_sR, fR_sR_n, fI_tI, fR_tI, aL_tI, aR_tI, kd_tI, ln_tI, hn_tI, hm_tI, aI_tI_n, fI_tL, fR_tL, aI_tL, aR_tL, kd_tL, ln_tL, hn_tL, hm_tL, aL_tL_n, fI_tR, fR_tR, aI_tR, aL_tR, kd_tR, ln_tR, hn_tR, hm_tR, aR_tR_n, hn_nw, hm_nw, rc400, rc403, rc404, rc405, rc407, rc409, rc420, rc440, bI_0, bI_1, bI_T, bI_F, iF_T, iF_F, br_not, le_nlt, not_true_eq_false, not_false_eq_true, and_self, and_true, true_and, and_false, false_and, or_true, true_or, or_false, false_or, ne_eq, reduceCtorEq, Nat.reduceLeDiff, Nat.reduceEqDiff, Nat.reduceLT, Nat.reduceAdd, Nat.reduceSub, Nat.reduceMul, Int32.reduceLT, Int32.reduceLE, Int32.reduceToNatClampNeg, Int32.reduceAdd, Int32.reduceSub, implies_true, forall_const, isIn_e, bit_e, lits, hM1, isR_q hB R0.1]
  by_cases w1 : grN L z (0, -1) = 107
  rotate_left
  · have nz : ¬ ((0, nI 0) : RS).2 = -1 := nI_m1 (by decide)
    rw [grW_n w1, grW_z (c := 58) (by decide) nz, grG_z _ _ _ _ _ (by decide) nz, gz0 nz] at hN
    have := hN nz h1 (cr _ R0.1.1)
    simp (config := {decide := true}) only [gI_e, gR_e, pI_e, pZ_e, pR_e, ldI_e, ldZ_e, ldL_e, ldR_e, stI_e, stZ_e, stL_e, stR_e, alN_e, nwA_e, nwO_e, dvI_e, rmI_e, oV_e, oN_e, lt_e, rZ_e, br_T, br_F, fR_sI, aI_sI, aL_sI, aR_sI, kd_sI, ln_sI, hn_sI, hm_sI, fI_sI_n, fI_sR, aI_sR, aL_sR, aR_sR, kd_sR, ln_sR, hn_sR, hm_sR, fR_sR_n, fI_tI, fR_tI, aL_tI, aR_tI, kd_tI, ln_tI, hn_tI, hm_tI, aI_tI_n, fI_tL, fR_tL, aI_tL, aR_tL, kd_tL, ln_tL, hn_tL, hm_tL, aL_tL_n, fI_tR, fR_tR, aI_tR, aL_tR, kd_tR, ln_tR, hn_tR, hm_tR, aR_tR_n, hn_nw, hm_nw, rc400, rc403, rc404, rc405, rc407, rc409, rc420, rc440, bI_0, bI_1, bI_T, bI_F, iF_T, iF_F, br_not, le_nlt, not_true_eq_false, not_false_eq_true, and_self, and_true, true_and, and_false, false_and, or_true, true_or, or_false, false_or, ne_eq, reduceCtorEq, Nat.reduceLeDiff, Nat.reduceEqDiff, Nat.reduceLT, Nat.reduceAdd, Nat.reduceSub, Nat.reduceMul, Int32.reduceLT, Int32.reduceLE, Int32.reduceToNatClampNeg, Int32.reduceAdd, Int32.reduceSub, implies_true, forall_const, isIn_e, bit_e, lits, w1, g68]
    exact this
  have l1 : 1 ≤ z := (grN_c w1 (by decide)).2
  rw [grW_y w1] at hN hY
  have R1 := R0.at (k := 1) l1
  have g68' : (0 : Int32) + 1 = nI 1 := rfl
  simp (config := {decide := true}) only [gI_e, gR_e, pI_e, pZ_e, pR_e, ldI_e, ldZ_e, ldL_e, ldR_e, stI_e, stZ_e, stL_e, stR_e, alN_e, nwA_e, nwO_e, dvI_e, rmI_e, oV_e, oN_e, lt_e, rZ_e, br_T, br_F, fR_sI, aI_sI, aL_sI, aR_sI, kd_sI, ln_sI, hn_sI, hm_sI, fI_sI_n, fI_sR, aI_sR, aL_sR, aR_sR, kd_sR, ln_sR, hn_sR, hm_sR, fR_sR_n, fI_tI, fR_tI, aL_tI, aR_tI, kd_tI, ln_tI, hn_tI, hm_tI, aI_tI_n, fI_tL, fR_tL, aI_tL, aR_tL, kd_tL, ln_tL, hn_tL, hm_tL, aL_tL_n, fI_tR, fR_tR, aI_tR, aL_tR, kd_tR, ln_tR, hn_tR, hm_tR, aR_tR_n, hn_nw, hm_nw, rc400, rc403, rc404, rc405, rc407, rc409, rc420, rc440, bI_0, bI_1, bI_T, bI_F, iF_T, iF_F, br_not, le_nlt, not_true_eq_false, not_false_eq_true, and_self, and_true, true_and, and_false, false_and, or_true, true_or, or_false, false_or, ne_eq, reduceCtorEq, Nat.reduceLeDiff, Nat.reduceEqDiff, Nat.reduceLT, Nat.reduceAdd, Nat.reduceSub, Nat.reduceMul, Int32.reduceLT, Int32.reduceLE, Int32.reduceToNatClampNeg, Int32.reduceAdd, Int32.reduceSub, implies_true, forall_const, isIn_e, bit_e, lits, w1, hM1, g68, g68']
  obtain ⟨F1, F2, F3, F4, -, -⟩ := R1.1.f hB
  simp (config := {decide := true}) only [gI_e, gR_e, pI_e, pZ_e, pR_e, ldI_e, ldZ_e, ldL_e, ldR_e, stI_e, stZ_e, stL_e, stR_e, alN_e, nwA_e, nwO_e, dvI_e, rmI_e, oV_e, oN_e, lt_e, rZ_e, br_T, br_F, fR_sI, aI_sI, aL_sI, aR_sI, kd_sI, ln_sI, hn_sI, hm_sI, fI_sI_n, fI_sR, aI_sR, aL_sR, aR_sR, kd_sR, ln_sR, hn_sR, hm_sR, fR_sR_n, fI_tI, fR_tI, aL_tI, aR_tI, kd_tI, ln_tI, hn_tI, hm_tI, aI_tI_n, fI_tL, fR_tL, aI_tL, aR_tL, kd_tL, ln_tL, hn_tL, hm_tL, aL_tL_n, fI_tR, fR_tR, aI_tR, aL_tR, kd_tR, ln_tR, hn_tR, hm_tR, aR_tR_n, hn_nw, hm_nw, rc400, rc403, rc404, rc405, rc407, rc409, rc420, rc440, bI_0, bI_1, bI_T, bI_F, iF_T, iF_F, br_not, le_nlt, not_true_eq_false, not_false_eq_true, and_self, and_true, true_and, and_false, false_and, or_true, true_or, or_false, false_or, ne_eq, reduceCtorEq, Nat.reduceLeDiff, Nat.reduceEqDiff, Nat.reduceLT, Nat.reduceAdd, Nat.reduceSub, Nat.reduceMul, Int32.reduceLT, Int32.reduceLE, Int32.reduceToNatClampNeg, Int32.reduceAdd, Int32.reduceSub, implies_true, forall_const, isIn_e, bit_e, lits, isR_q hB R1.1]
  by_cases w2 : grN L z (1, -1) = 58
  rotate_left
  · have nz : ¬ ((1, nI 1) : RS).2 = -1 := nI_m1 (by decide)
    have w2' : ¬ grN L z (0 + 1, -1) = 58 := w2
    rw [grW_n w2', grG_z _ _ _ _ _ (by decide) nz, gz0 nz] at hN
    have := hN nz _ (cr _ R1.1.1)
    have q1 := R1.1.2.2
    simp (config := {decide := true}) only [gI_e, gR_e, pI_e, pZ_e, pR_e, ldI_e, ldZ_e, ldL_e, ldR_e, stI_e, stZ_e, stL_e, stR_e, alN_e, nwA_e, nwO_e, dvI_e, rmI_e, oV_e, oN_e, lt_e, rZ_e, br_T, br_F, fR_sI, aI_sI, aL_sI, aR_sI, kd_sI, ln_sI, hn_sI, hm_sI, fI_sI_n, fI_sR, aI_sR, aL_sR, aR_sR, kd_sR, ln_sR, hn_sR, hm_sR, fR_sR_n, fI_tI, fR_tI, aL_tI, aR_tI, kd_tI, ln_tI, hn_tI, hm_tI, aI_tI_n, fI_tL, fR_tL, aI_tL, aR_tL, kd_tL, ln_tL, hn_tL, hm_tL, aL_tL_n, fI_tR, fR_tR, aI_tR, aL_tR, kd_tR, ln_tR, hn_tR, hm_tR, aR_tR_n, hn_nw, hm_nw, rc400, rc403, rc404, rc405, rc407, rc409, rc420, rc440, bI_0, bI_1, bI_T, bI_F, iF_T, iF_F, br_not, le_nlt, not_true_eq_false, not_false_eq_true, and_self, and_true, true_and, and_false, false_and, or_true, true_or, or_false, false_or, ne_eq, reduceCtorEq, Nat.reduceLeDiff, Nat.reduceEqDiff, Nat.reduceLT, Nat.reduceAdd, Nat.reduceSub, Nat.reduceMul, Int32.reduceLT, Int32.reduceLE, Int32.reduceToNatClampNeg, Int32.reduceAdd, Int32.reduceSub, implies_true, forall_const, isIn_e, bit_e, lits, w2, hM1, q1]
    exact this
  have w2' : grN L z (0 + 1, -1) = 58 := w2
  have l2 : 2 ≤ z := (grN_c w2 (by decide)).2
  rw [grW_y w2'] at hN hY
  have R2 := R1.at (k := 2) l2
  have q1 := R1.1.2.2
  have q1b : nI 1 + 1 = nI 2 := rfl
  simp (config := {decide := true}) only [gI_e, gR_e, pI_e, pZ_e, pR_e, ldI_e, ldZ_e, ldL_e, ldR_e, stI_e, stZ_e, stL_e, stR_e, alN_e, nwA_e, nwO_e, dvI_e, rmI_e, oV_e, oN_e, lt_e, rZ_e, br_T, br_F, fR_sI, aI_sI, aL_sI, aR_sI, kd_sI, ln_sI, hn_sI, hm_sI, fI_sI_n, fI_sR, aI_sR, aL_sR, aR_sR, kd_sR, ln_sR, hn_sR, hm_sR, fR_sR_n, fI_tI, fR_tI, aL_tI, aR_tI, kd_tI, ln_tI, hn_tI, hm_tI, aI_tI_n, fI_tL, fR_tL, aI_tL, aR_tL, kd_tL, ln_tL, hn_tL, hm_tL, aL_tL_n, fI_tR, fR_tR, aI_tR, aL_tR, kd_tR, ln_tR, hn_tR, hm_tR, aR_tR_n, hn_nw, hm_nw, rc400, rc403, rc404, rc405, rc407, rc409, rc420, rc440, bI_0, bI_1, bI_T, bI_F, iF_T, iF_F, br_not, le_nlt, not_true_eq_false, not_false_eq_true, and_self, and_true, true_and, and_false, false_and, or_true, true_or, or_false, false_or, ne_eq, reduceCtorEq, Nat.reduceLeDiff, Nat.reduceEqDiff, Nat.reduceLT, Nat.reduceAdd, Nat.reduceSub, Nat.reduceMul, Int32.reduceLT, Int32.reduceLE, Int32.reduceToNatClampNeg, Int32.reduceAdd, Int32.reduceSub, implies_true, forall_const, isIn_e, bit_e, lits, w2, F1, hM1, q1, q1b]
  generalize sI (sI h1 1468 y (nI 1)) 1468 y (nI 2) = h2 at *
  obtain ⟨w, H⟩ := gst hB 70 0 0 0 2 (by decide) (by decide) (by decide)
  have H2 := H h2 [] 0 [] [] 0 1 Q R2 rfl (by decide) (Nat.le_refl 0) (fun _ => rfl) (Nat.le_refl 0) (Or.inl rfl)
  have e2 : ((0 + 1 + 1, -1) : RS) = (2, -1) := rfl
  rw [e2] at hN hY
  generalize grG (grN L z) 70 0 0 0 (2, -1) = G at *
  unfold l_X11_compiles_96
  refine ⟨1 + w, ?_⟩
  by_cases fz : G.1.2 = -1
  rotate_left
  · rw [gz0 fz] at hN
    exact H2.1 fz (fun h' k => hN fz h' (cr h' k))
  refine H2.2 fz (fun h3 ⟨P, C', R3, p1, p2, p3, p4, p5, p6, p7, p8⟩ => ?_)
  have e1 : G.1 = (G.1.1, -1) := Prod.ext rfl fz
  generalize hb : G.1.1 = b at *
  rw [e1] at p7 p8 hN hY
  rw [rep0] at p4
  have bz := R3.1.2.1
  show b_X11_compiles_96 (some y) (nI r) (nI 0) 0 h3 Q (fun l3 l4 h => Lon (CF y r Q) 0 (l3, l4) h)
  by_cases w5 : grN L z (b, -1) = 59
  rotate_left
  · have nz : ¬ ((b, nI b) : RS).2 = -1 := nI_m1 (by omega)
    rw [grW_n w5, gz1 nz] at hN
    exact st_stop hB R3 (p7 (by decide)) (p8 rfl) (Nat.zero_le _) (fun _ => rfl) (fun q => absurd q w5) Q _ (hN nz h3 (cr h3 R3.1.1))
  have l5 : b + 1 ≤ z := (grN_c w5 (by decide)).2
  rw [grW_y w5] at hN hY
  have ne : (nI b = nI z) = False := eq_false (fun q => by have := (nI_eq (by omega) (by omega)).mp q; omega)
  have p3' := R3.1.2.2
  obtain ⟨F31, F32, F33, F34, f39, f30⟩ := R3.1.f hB
  unfold b_X11_compiles_96 n_X11_compiles_202 n_X11_compiles_365
  have z0 : nI 0 = 0 := rfl
  simp (config := {decide := true}) only [gI_e, gR_e, pI_e, pZ_e, pR_e, ldI_e, ldZ_e, ldL_e, ldR_e, stI_e, stZ_e, stL_e, stR_e, alN_e, nwA_e, nwO_e, dvI_e, rmI_e, oV_e, oN_e, lt_e, rZ_e, br_T, br_F, fR_sI, aI_sI, aL_sI, aR_sI, kd_sI, ln_sI, hn_sI, hm_sI, fI_sI_n, fI_sR, aI_sR, aL_sR, aR_sR, kd_sR, ln_sR, hn_sR, hm_sR, fR_sR_n, fI_tI, fR_tI, aL_tI, aR_tI, kd_tI, ln_tI, hn_tI, hm_tI, aI_tI_n, fI_tL, fR_tL, aI_tL, aR_tL, kd_tL, ln_tL, hn_tL, hm_tL, aL_tL_n, fI_tR, fR_tR, aI_tR, aL_tR, kd_tR, ln_tR, hn_tR, hm_tR, aR_tR_n, hn_nw, hm_nw, rc400, rc403, rc404, rc405, rc407, rc409, rc420, rc440, bI_0, bI_1, bI_T, bI_F, iF_T, iF_F, br_not, le_nlt, not_true_eq_false, not_false_eq_true, and_self, and_true, true_and, and_false, false_and, or_true, true_or, or_false, false_or, ne_eq, reduceCtorEq, Nat.reduceLeDiff, Nat.reduceEqDiff, Nat.reduceLT, Nat.reduceAdd, Nat.reduceSub, Nat.reduceMul, Int32.reduceLT, Int32.reduceLE, Int32.reduceToNatClampNeg, Int32.reduceAdd, Int32.reduceSub, implies_true, forall_const, isIn_e, bit_e, lits, F31, hM1, p3', f39, ne, letR_q hB R3.1, w5, z0]
  have R3' : KQ y m r z h1 h3 b ([] ++ P) 0 C' G.2.2.1 := R3
  have p5' : 2 * G.2.2.1.length + C'.length + P.length ≤ b := p5
  refine pops_e hB (A := []) (z := 0) (Or.inl rfl) (fun c hc => (p1 c hc).imp id (fun q => ⟨q, rfl⟩)) R3' (by omega) (by show P.length ≤ 120; omega) _ ?_
  intro h4 R4
  have p4' : C' ++ pcode P = G.2.1 := p4
  have pl := congrArg List.length p4'
  rw [List.length_append, pcode_l] at pl
  rw [p4'] at R4
  obtain ⟨F41, F42, F43, F44, -, -⟩ := R4.1.f hB
  have q4 := R4.1.2.2
  have R5 := R4.at l5
  have bd : 2 * G.2.2.1.length + G.2.1.length ≤ z := by omega
  simp (config := {decide := true}) only [gI_e, gR_e, pI_e, pZ_e, pR_e, ldI_e, ldZ_e, ldL_e, ldR_e, stI_e, stZ_e, stL_e, stR_e, alN_e, nwA_e, nwO_e, dvI_e, rmI_e, oV_e, oN_e, lt_e, rZ_e, br_T, br_F, fR_sI, aI_sI, aL_sI, aR_sI, kd_sI, ln_sI, hn_sI, hm_sI, fI_sI_n, fI_sR, aI_sR, aL_sR, aR_sR, kd_sR, ln_sR, hn_sR, hm_sR, fR_sR_n, fI_tI, fR_tI, aL_tI, aR_tI, kd_tI, ln_tI, hn_tI, hm_tI, aI_tI_n, fI_tL, fR_tL, aI_tL, aR_tL, kd_tL, ln_tL, hn_tL, hm_tL, aL_tL_n, fI_tR, fR_tR, aI_tR, aL_tR, kd_tR, ln_tR, hn_tR, hm_tR, aR_tR_n, hn_nw, hm_nw, rc400, rc403, rc404, rc405, rc407, rc409, rc420, rc440, bI_0, bI_1, bI_T, bI_F, iF_T, iF_F, br_not, le_nlt, not_true_eq_false, not_false_eq_true, and_self, and_true, true_and, and_false, false_and, or_true, true_or, or_false, false_or, ne_eq, reduceCtorEq, Nat.reduceLeDiff, Nat.reduceEqDiff, Nat.reduceLT, Nat.reduceAdd, Nat.reduceSub, Nat.reduceMul, Int32.reduceLT, Int32.reduceLE, Int32.reduceToNatClampNeg, Int32.reduceAdd, Int32.reduceSub, implies_true, forall_const, isIn_e, bit_e, lits, F41, hM1, q4, n1]
  generalize sI h4 1468 y (nI (b + 1)) = h5 at *
  obtain ⟨F51, F52, F53, F54, -, -⟩ := R5.1.f hB
  have q5 := R5.1.2.2
  simp (config := {decide := true}) only [gI_e, gR_e, pI_e, pZ_e, pR_e, ldI_e, ldZ_e, ldL_e, ldR_e, stI_e, stZ_e, stL_e, stR_e, alN_e, nwA_e, nwO_e, dvI_e, rmI_e, oV_e, oN_e, lt_e, rZ_e, br_T, br_F, fR_sI, aI_sI, aL_sI, aR_sI, kd_sI, ln_sI, hn_sI, hm_sI, fI_sI_n, fI_sR, aI_sR, aL_sR, aR_sR, kd_sR, ln_sR, hn_sR, hm_sR, fR_sR_n, fI_tI, fR_tI, aL_tI, aR_tI, kd_tI, ln_tI, hn_tI, hm_tI, aI_tI_n, fI_tL, fR_tL, aI_tL, aR_tL, kd_tL, ln_tL, hn_tL, hm_tL, aL_tL_n, fI_tR, fR_tR, aI_tR, aL_tR, kd_tR, ln_tR, hn_tR, hm_tR, aR_tR_n, hn_nw, hm_nw, rc400, rc403, rc404, rc405, rc407, rc409, rc420, rc440, bI_0, bI_1, bI_T, bI_F, iF_T, iF_F, br_not, le_nlt, not_true_eq_false, not_false_eq_true, and_self, and_true, true_and, and_false, false_and, or_true, true_or, or_false, false_or, ne_eq, reduceCtorEq, Nat.reduceLeDiff, Nat.reduceEqDiff, Nat.reduceLT, Nat.reduceAdd, Nat.reduceSub, Nat.reduceMul, Int32.reduceLT, Int32.reduceLE, Int32.reduceToNatClampNeg, Int32.reduceAdd, Int32.reduceSub, implies_true, forall_const, isIn_e, bit_e, lits, F51, hM1, isR_q hB R5.1]
  by_cases w6 : grN L z (b + 1, -1) = 106
  rotate_left
  · have nz : ¬ ((b + 1, nI (b + 1)) : RS).2 = -1 := nI_m1 (by omega)
    rw [grW_n w6, gz2 nz] at hN
    simp (config := {decide := true}) only [gI_e, gR_e, pI_e, pZ_e, pR_e, ldI_e, ldZ_e, ldL_e, ldR_e, stI_e, stZ_e, stL_e, stR_e, alN_e, nwA_e, nwO_e, dvI_e, rmI_e, oV_e, oN_e, lt_e, rZ_e, br_T, br_F, fR_sI, aI_sI, aL_sI, aR_sI, kd_sI, ln_sI, hn_sI, hm_sI, fI_sI_n, fI_sR, aI_sR, aL_sR, aR_sR, kd_sR, ln_sR, hn_sR, hm_sR, fR_sR_n, fI_tI, fR_tI, aL_tI, aR_tI, kd_tI, ln_tI, hn_tI, hm_tI, aI_tI_n, fI_tL, fR_tL, aI_tL, aR_tL, kd_tL, ln_tL, hn_tL, hm_tL, aL_tL_n, fI_tR, fR_tR, aI_tR, aL_tR, kd_tR, ln_tR, hn_tR, hm_tR, aR_tR_n, hn_nw, hm_nw, rc400, rc403, rc404, rc405, rc407, rc409, rc420, rc440, bI_0, bI_1, bI_T, bI_F, iF_T, iF_F, br_not, le_nlt, not_true_eq_false, not_false_eq_true, and_self, and_true, true_and, and_false, false_and, or_true, true_or, or_false, false_or, ne_eq, reduceCtorEq, Nat.reduceLeDiff, Nat.reduceEqDiff, Nat.reduceLT, Nat.reduceAdd, Nat.reduceSub, Nat.reduceMul, Int32.reduceLT, Int32.reduceLE, Int32.reduceToNatClampNeg, Int32.reduceAdd, Int32.reduceSub, implies_true, forall_const, isIn_e, bit_e, lits, w6, q5]
    exact hN nz h5 (cr h5 R5.1.1)
  have l6 : b + 2 ≤ z := (grN_c w6 (by decide)).2
  rw [grW_y w6] at hN hY
  have R6 := R5.at l6
  simp (config := {decide := true}) only [gI_e, gR_e, pI_e, pZ_e, pR_e, ldI_e, ldZ_e, ldL_e, ldR_e, stI_e, stZ_e, stL_e, stR_e, alN_e, nwA_e, nwO_e, dvI_e, rmI_e, oV_e, oN_e, lt_e, rZ_e, br_T, br_F, fR_sI, aI_sI, aL_sI, aR_sI, kd_sI, ln_sI, hn_sI, hm_sI, fI_sI_n, fI_sR, aI_sR, aL_sR, aR_sR, kd_sR, ln_sR, hn_sR, hm_sR, fR_sR_n, fI_tI, fR_tI, aL_tI, aR_tI, kd_tI, ln_tI, hn_tI, hm_tI, aI_tI_n, fI_tL, fR_tL, aI_tL, aR_tL, kd_tL, ln_tL, hn_tL, hm_tL, aL_tL_n, fI_tR, fR_tR, aI_tR, aL_tR, kd_tR, ln_tR, hn_tR, hm_tR, aR_tR_n, hn_nw, hm_nw, rc400, rc403, rc404, rc405, rc407, rc409, rc420, rc440, bI_0, bI_1, bI_T, bI_F, iF_T, iF_F, br_not, le_nlt, not_true_eq_false, not_false_eq_true, and_self, and_true, true_and, and_false, false_and, or_true, true_or, or_false, false_or, ne_eq, reduceCtorEq, Nat.reduceLeDiff, Nat.reduceEqDiff, Nat.reduceLT, Nat.reduceAdd, Nat.reduceSub, Nat.reduceMul, Int32.reduceLT, Int32.reduceLE, Int32.reduceToNatClampNeg, Int32.reduceAdd, Int32.reduceSub, implies_true, forall_const, isIn_e, bit_e, lits, w6, F51, hM1, q5, n1]
  generalize sI h5 1468 y (nI (b + 1 + 1)) = h6 at *
  obtain ⟨F61, F62, F63, F64, -, -⟩ := R6.1.f hB
  have q6 := R6.1.2.2
  simp (config := {decide := true}) only [gI_e, gR_e, pI_e, pZ_e, pR_e, ldI_e, ldZ_e, ldL_e, ldR_e, stI_e, stZ_e, stL_e, stR_e, alN_e, nwA_e, nwO_e, dvI_e, rmI_e, oV_e, oN_e, lt_e, rZ_e, br_T, br_F, fR_sI, aI_sI, aL_sI, aR_sI, kd_sI, ln_sI, hn_sI, hm_sI, fI_sI_n, fI_sR, aI_sR, aL_sR, aR_sR, kd_sR, ln_sR, hn_sR, hm_sR, fR_sR_n, fI_tI, fR_tI, aL_tI, aR_tI, kd_tI, ln_tI, hn_tI, hm_tI, aI_tI_n, fI_tL, fR_tL, aI_tL, aR_tL, kd_tL, ln_tL, hn_tL, hm_tL, aL_tL_n, fI_tR, fR_tR, aI_tR, aL_tR, kd_tR, ln_tR, hn_tR, hm_tR, aR_tR_n, hn_nw, hm_nw, rc400, rc403, rc404, rc405, rc407, rc409, rc420, rc440, bI_0, bI_1, bI_T, bI_F, iF_T, iF_F, br_not, le_nlt, not_true_eq_false, not_false_eq_true, and_self, and_true, true_and, and_false, false_and, or_true, true_or, or_false, false_or, ne_eq, reduceCtorEq, Nat.reduceLeDiff, Nat.reduceEqDiff, Nat.reduceLT, Nat.reduceAdd, Nat.reduceSub, Nat.reduceMul, Int32.reduceLT, Int32.reduceLE, Int32.reduceToNatClampNeg, Int32.reduceAdd, Int32.reduceSub, implies_true, forall_const, isIn_e, bit_e, lits, F61, hM1, isR_q hB R6.1]
  by_cases w7 : grN L z (b + 2, -1) = 58
  rotate_left
  · have nz : ¬ ((b + 2, nI (b + 2)) : RS).2 = -1 := nI_m1 (by omega)
    have w7' : ¬ grN L z (b + 1 + 1, -1) = 58 := w7
    rw [grW_n w7', gz3 nz] at hN
    simp (config := {decide := true}) only [gI_e, gR_e, pI_e, pZ_e, pR_e, ldI_e, ldZ_e, ldL_e, ldR_e, stI_e, stZ_e, stL_e, stR_e, alN_e, nwA_e, nwO_e, dvI_e, rmI_e, oV_e, oN_e, lt_e, rZ_e, br_T, br_F, fR_sI, aI_sI, aL_sI, aR_sI, kd_sI, ln_sI, hn_sI, hm_sI, fI_sI_n, fI_sR, aI_sR, aL_sR, aR_sR, kd_sR, ln_sR, hn_sR, hm_sR, fR_sR_n, fI_tI, fR_tI, aL_tI, aR_tI, kd_tI, ln_tI, hn_tI, hm_tI, aI_tI_n, fI_tL, fR_tL, aI_tL, aR_tL, kd_tL, ln_tL, hn_tL, hm_tL, aL_tL_n, fI_tR, fR_tR, aI_tR, aL_tR, kd_tR, ln_tR, hn_tR, hm_tR, aR_tR_n, hn_nw, hm_nw, rc400, rc403, rc404, rc405, rc407, rc409, rc420, rc440, bI_0, bI_1, bI_T, bI_F, iF_T, iF_F, br_not, le_nlt, not_true_eq_false, not_false_eq_true, and_self, and_true, true_and, and_false, false_and, or_true, true_or, or_false, false_or, ne_eq, reduceCtorEq, Nat.reduceLeDiff, Nat.reduceEqDiff, Nat.reduceLT, Nat.reduceAdd, Nat.reduceSub, Nat.reduceMul, Int32.reduceLT, Int32.reduceLE, Int32.reduceToNatClampNeg, Int32.reduceAdd, Int32.reduceSub, implies_true, forall_const, isIn_e, bit_e, lits, w7, q6]
    exact hN nz h6 (cr h6 R6.1.1)
  have w7' : grN L z (b + 1 + 1, -1) = 58 := w7
  have l7 : b + 3 ≤ z := (grN_c w7 (by decide)).2
  rw [grW_y w7'] at hN hY
  have R7 := R6.at l7
  simp (config := {decide := true}) only [gI_e, gR_e, pI_e, pZ_e, pR_e, ldI_e, ldZ_e, ldL_e, ldR_e, stI_e, stZ_e, stL_e, stR_e, alN_e, nwA_e, nwO_e, dvI_e, rmI_e, oV_e, oN_e, lt_e, rZ_e, br_T, br_F, fR_sI, aI_sI, aL_sI, aR_sI, kd_sI, ln_sI, hn_sI, hm_sI, fI_sI_n, fI_sR, aI_sR, aL_sR, aR_sR, kd_sR, ln_sR, hn_sR, hm_sR, fR_sR_n, fI_tI, fR_tI, aL_tI, aR_tI, kd_tI, ln_tI, hn_tI, hm_tI, aI_tI_n, fI_tL, fR_tL, aI_tL, aR_tL, kd_tL, ln_tL, hn_tL, hm_tL, aL_tL_n, fI_tR, fR_tR, aI_tR, aL_tR, kd_tR, ln_tR, hn_tR, hm_tR, aR_tR_n, hn_nw, hm_nw, rc400, rc403, rc404, rc405, rc407, rc409, rc420, rc440, bI_0, bI_1, bI_T, bI_F, iF_T, iF_F, br_not, le_nlt, not_true_eq_false, not_false_eq_true, and_self, and_true, true_and, and_false, false_and, or_true, true_or, or_false, false_or, ne_eq, reduceCtorEq, Nat.reduceLeDiff, Nat.reduceEqDiff, Nat.reduceLT, Nat.reduceAdd, Nat.reduceSub, Nat.reduceMul, Int32.reduceLT, Int32.reduceLE, Int32.reduceToNatClampNeg, Int32.reduceAdd, Int32.reduceSub, implies_true, forall_const, isIn_e, bit_e, lits, w7, F61, hM1, q6, n1]
  have e7 : nI (b + 2 + 1) = nI (b + 3) := rfl
  rw [e7]
  generalize sI h6 1468 y (nI (b + 3)) = h7 at *
  obtain ⟨F71, F72, F73, F74, f79, f70⟩ := R7.1.f hB
  have q7 := R7.1.2.2
  have c7 := R7.2.2.2.1
  have e8 : ((b + 1 + 1 + 1, -1) : RS) = (b + 3, -1) := rfl
  rw [e8] at hN hY
  have cr13 := cnF hr (Nat.le_refl 13) (by decide)
  -- its join is named
  have fin : ∀ d, d < 3 → grN L z (b + 3, -1) = jnV d → n_X11_compiles_515 (some y) (nI r) (nI (d + 1)) (nI r) (some (m 152)) h7 Q := by
    intro d hd ej
    have jo : grJo (grN L z (b + 3, -1)) := by
      rw [ej]
      obtain rfl | rfl | rfl : d = 0 ∨ d = 1 ∨ d = 2 := by omega
      · exact Or.inl rfl
      · exact Or.inr (Or.inl rfl)
      · exact Or.inr (Or.inr rfl)
    have nm : ¬ jnV d = -1 := by
      obtain rfl | rfl | rfl : d = 0 ∨ d = 1 ∨ d = 2 := by omega
      all_goals decide
    have l8 : b + 3 < z := (grN_c ej nm).2
    have gp : grP (grJo (grN L z (b + 3, -1))) (b + 3, -1) = (b + 4, -1) := iF_y jo _ _
    rw [gp] at hN hY
    unfold n_X11_compiles_515 n_X11_compiles_555
    have x1 : fI (sI (tI h7 152 (m 152) r (nI (d + 1))) 1468 y (nI (b + 4))) 1471 y = nI G.2.1.length := by
      rw [fI_sI_n _ _ _ _ _ (by decide), fI_tI]; exact c7
    have cr8 : CR m r h (tI (sI (tI h7 152 (m 152) r (nI (d + 1))) 1468 y (nI (b + 4))) 151 (m 151) r (nI G.2.1.length)) := by
      obtain ⟨k1, k2, k3, k4⟩ := cr h7 R7.1.1
      refine ⟨((k1.tI rfl _ _ _).sI rfl _ _).tI rfl _ _ _, ?_, ?_, fun j hj => ?_⟩
      · simp (config := {decide := true}) only [fR_sI, aI_sI, aL_sI, aR_sI, kd_sI, ln_sI, hn_sI, hm_sI, fI_sI_n, fI_sR, aI_sR, aL_sR, aR_sR, kd_sR, ln_sR, hn_sR, hm_sR, fR_sR_n, fI_tI, fR_tI, aL_tI, aR_tI, kd_tI, ln_tI, hn_tI, hm_tI, aI_tI_n, fI_tL, fR_tL, aI_tL, aR_tL, kd_tL, ln_tL, hn_tL, hm_tL, aL_tL_n, fI_tR, fR_tR, aI_tR, aL_tR, kd_tR, ln_tR, hn_tR, hm_tR, aR_tR_n, hn_nw, hm_nw]
        exact k2
      · simp (config := {decide := true}) only [fR_sI, aI_sI, aL_sI, aR_sI, kd_sI, ln_sI, hn_sI, hm_sI, fI_sI_n, fI_sR, aI_sR, aL_sR, aR_sR, kd_sR, ln_sR, hn_sR, hm_sR, fR_sR_n, fI_tI, fR_tI, aL_tI, aR_tI, kd_tI, ln_tI, hn_tI, hm_tI, aI_tI_n, fI_tL, fR_tL, aI_tL, aR_tL, kd_tL, ln_tL, hn_tL, hm_tL, aL_tL_n, fI_tR, fR_tR, aI_tR, aL_tR, kd_tR, ln_tR, hn_tR, hm_tR, aR_tR_n, hn_nw, hm_nw]
        exact k3
      · simp (config := {decide := true}) only [fR_sI, aI_sI, aL_sI, aR_sI, kd_sI, ln_sI, hn_sI, hm_sI, fI_sI_n, fI_sR, aI_sR, aL_sR, aR_sR, kd_sR, ln_sR, hn_sR, hm_sR, fR_sR_n, fI_tI, fR_tI, aL_tI, aR_tI, kd_tI, ln_tI, hn_tI, hm_tI, aI_tI_n, fI_tL, fR_tL, aI_tL, aR_tL, kd_tL, ln_tL, hn_tL, hm_tL, aL_tL_n, fI_tR, fR_tR, aI_tR, aL_tR, kd_tR, ln_tR, hn_tR, hm_tR, aR_tR_n, hn_nw, hm_nw, fI_sI_e, fR_sR_e, aI_tI_e, aL_tL_e, aR_tR_e, true_and]
        rw [if_neg (by omega), if_neg (by omega)]
        exact k4 j hj
    have v53 : ∀ i, i < G.2.1.length → aI (tI (sI (tI h7 152 (m 152) r (nI (d + 1))) 1468 y (nI (b + 4))) 151 (m 151) r (nI G.2.1.length)) 153 (m 153) (100 * r + i) = G.2.1.getD i 0 := by
      simp (config := {decide := true}) only [fR_sI, aI_sI, aL_sI, aR_sI, kd_sI, ln_sI, hn_sI, hm_sI, fI_sI_n, fI_sR, aI_sR, aL_sR, aR_sR, kd_sR, ln_sR, hn_sR, hm_sR, fR_sR_n, fI_tI, fR_tI, aL_tI, aR_tI, kd_tI, ln_tI, hn_tI, hm_tI, aI_tI_n, fI_tL, fR_tL, aI_tL, aR_tL, kd_tL, ln_tL, hn_tL, hm_tL, aL_tL_n, fI_tR, fR_tR, aI_tR, aL_tR, kd_tR, ln_tR, hn_tR, hm_tR, aR_tR_n, hn_nw, hm_nw]
      exact R7.2.2.2.2.2.2.1
    have v54 : ∀ i, i < G.2.2.1.length → tTT (tI (sI (tI h7 152 (m 152) r (nI (d + 1))) 1468 y (nI (b + 4))) 151 (m 151) r (nI G.2.1.length)) m (40 * r + i) = G.2.2.1.getD i (0, 0, 0, 0, 0) := by
      have := R7.2.2.2.2.2.2.2
      unfold tTT at this ⊢
      simp (config := {decide := true}) only [fR_sI, aI_sI, aL_sI, aR_sI, kd_sI, ln_sI, hn_sI, hm_sI, fI_sI_n, fI_sR, aI_sR, aL_sR, aR_sR, kd_sR, ln_sR, hn_sR, hm_sR, fR_sR_n, fI_tI, fR_tI, aL_tI, aR_tI, kd_tI, ln_tI, hn_tI, hm_tI, aI_tI_n, fI_tL, fR_tL, aI_tL, aR_tL, kd_tL, ln_tL, hn_tL, hm_tL, aL_tL_n, fI_tR, fR_tR, aI_tR, aL_tR, kd_tR, ln_tR, hn_tR, hm_tR, aR_tR_n, hn_nw, hm_nw]
      exact this
    have v51 : aI (tI (sI (tI h7 152 (m 152) r (nI (d + 1))) 1468 y (nI (b + 4))) 151 (m 151) r (nI G.2.1.length)) 151 (m 151) r = nI G.2.1.length := by
      simp (config := {decide := true}) only [fI_sI_e, fR_sR_e, aI_tI_e, aL_tL_e, aR_tR_e, true_and, if_true]
    have v52 : aI (tI (sI (tI h7 152 (m 152) r (nI (d + 1))) 1468 y (nI (b + 4))) 151 (m 151) r (nI G.2.1.length)) 152 (m 152) r = nI (d + 1) := by
      simp (config := {decide := true}) only [fR_sI, aI_sI, aL_sI, aR_sI, kd_sI, ln_sI, hn_sI, hm_sI, fI_sI_n, fI_sR, aI_sR, aL_sR, aR_sR, kd_sR, ln_sR, hn_sR, hm_sR, fR_sR_n, fI_tI, fR_tI, aL_tI, aR_tI, kd_tI, ln_tI, hn_tI, hm_tI, aI_tI_n, fI_tL, fR_tL, aI_tL, aR_tL, kd_tL, ln_tL, hn_tL, hm_tL, aL_tL_n, fI_tR, fR_tR, aI_tR, aL_tR, kd_tR, ln_tR, hn_tR, hm_tR, aR_tR_n, hn_nw, hm_nw, fI_sI_e, fR_sR_e, aI_tI_e, aL_tL_e, aR_tR_e, true_and, if_true]
    have q8 : nI (b + 3) + 1 = nI (b + 4) := n1 _
    have x2 : fI (sI (tI h7 152 (m 152) r (nI (d + 1))) 1468 y (nI (b + 4))) 1468 y = nI (b + 4) := by rw [fI_sI_e, if_pos rfl]
    by_cases l9 : b + 4 < z
    · have cc := cnF l9 hz (by decide)
      have ge : grE2 z (b + 4, -1) = (b + 4, nI (b + 4)) := by
        unfold grE2
        rw [iF_y l9]
        exact if_pos rfl
      rw [ge] at hN
      simp (config := {decide := true}) only [gI_e, gR_e, pI_e, pZ_e, pR_e, ldI_e, ldZ_e, ldL_e, ldR_e, stI_e, stZ_e, stL_e, stR_e, alN_e, nwA_e, nwO_e, dvI_e, rmI_e, oV_e, oN_e, lt_e, rZ_e, br_T, br_F, fR_sI, aI_sI, aL_sI, aR_sI, kd_sI, ln_sI, hn_sI, hm_sI, fI_sI_n, fI_sR, aI_sR, aL_sR, aR_sR, kd_sR, ln_sR, hn_sR, hm_sR, fR_sR_n, fI_tI, fR_tI, aL_tI, aR_tI, kd_tI, ln_tI, hn_tI, hm_tI, aI_tI_n, fI_tL, fR_tL, aI_tL, aR_tL, kd_tL, ln_tL, hn_tL, hm_tL, aL_tL_n, fI_tR, fR_tR, aI_tR, aL_tR, kd_tR, ln_tR, hn_tR, hm_tR, aR_tR_n, hn_nw, hm_nw, rc400, rc403, rc404, rc405, rc407, rc409, rc420, rc440, bI_0, bI_1, bI_T, bI_F, iF_T, iF_F, br_not, le_nlt, not_true_eq_false, not_false_eq_true, and_self, and_true, true_and, and_false, false_and, or_true, true_or, or_false, false_or, ne_eq, reduceCtorEq, Nat.reduceLeDiff, Nat.reduceEqDiff, Nat.reduceLT, Nat.reduceAdd, Nat.reduceSub, Nat.reduceMul, Int32.reduceLT, Int32.reduceLE, Int32.reduceToNatClampNeg, Int32.reduceAdd, Int32.reduceSub, implies_true, forall_const, isIn_e, bit_e, lits, F71, F72, F73, hM1, cr13, q7, q8, x2, c7, f79, cc]
      exact hN (nI_m1 (by omega)) _ cr8
    · have eq4 : b + 4 = z := by omega
      have ge : grE2 z (b + 4, -1) = (b + 4, -1) := iF_n l9 _ _
      rw [ge] at hY
      have cc : ¬ nI (b + 4) < nI z := by rw [eq4]; exact Int32.lt_irrefl
      simp (config := {decide := true}) only [gI_e, gR_e, pI_e, pZ_e, pR_e, ldI_e, ldZ_e, ldL_e, ldR_e, stI_e, stZ_e, stL_e, stR_e, alN_e, nwA_e, nwO_e, dvI_e, rmI_e, oV_e, oN_e, lt_e, rZ_e, br_T, br_F, fR_sI, aI_sI, aL_sI, aR_sI, kd_sI, ln_sI, hn_sI, hm_sI, fI_sI_n, fI_sR, aI_sR, aL_sR, aR_sR, kd_sR, ln_sR, hn_sR, hm_sR, fR_sR_n, fI_tI, fR_tI, aL_tI, aR_tI, kd_tI, ln_tI, hn_tI, hm_tI, aI_tI_n, fI_tL, fR_tL, aI_tL, aR_tL, kd_tL, ln_tL, hn_tL, hm_tL, aL_tL_n, fI_tR, fR_tR, aI_tR, aL_tR, kd_tR, ln_tR, hn_tR, hm_tR, aR_tR_n, hn_nw, hm_nw, rc400, rc403, rc404, rc405, rc407, rc409, rc420, rc440, bI_0, bI_1, bI_T, bI_F, iF_T, iF_F, br_not, le_nlt, not_true_eq_false, not_false_eq_true, and_self, and_true, true_and, and_false, false_and, or_true, true_or, or_false, false_or, ne_eq, reduceCtorEq, Nat.reduceLeDiff, Nat.reduceEqDiff, Nat.reduceLT, Nat.reduceAdd, Nat.reduceSub, Nat.reduceMul, Int32.reduceLT, Int32.reduceLE, Int32.reduceToNatClampNeg, Int32.reduceAdd, Int32.reduceSub, implies_true, forall_const, isIn_e, bit_e, lits, F71, F72, F73, hM1, cr13, q7, q8, x2, c7, f79, cc]
      exact hY rfl _ cr8 bd v53 v54 v51 ⟨d, hd, v52, ej⟩
  unfold n_X11_compiles_483
  simp (config := {decide := true}) only [gI_e, gR_e, pI_e, pZ_e, pR_e, ldI_e, ldZ_e, ldL_e, ldR_e, stI_e, stZ_e, stL_e, stR_e, alN_e, nwA_e, nwO_e, dvI_e, rmI_e, oV_e, oN_e, lt_e, rZ_e, br_T, br_F, fR_sI, aI_sI, aL_sI, aR_sI, kd_sI, ln_sI, hn_sI, hm_sI, fI_sI_n, fI_sR, aI_sR, aL_sR, aR_sR, kd_sR, ln_sR, hn_sR, hm_sR, fR_sR_n, fI_tI, fR_tI, aL_tI, aR_tI, kd_tI, ln_tI, hn_tI, hm_tI, aI_tI_n, fI_tL, fR_tL, aI_tL, aR_tL, kd_tL, ln_tL, hn_tL, hm_tL, aL_tL_n, fI_tR, fR_tR, aI_tR, aL_tR, kd_tR, ln_tR, hn_tR, hm_tR, aR_tR_n, hn_nw, hm_nw, rc400, rc403, rc404, rc405, rc407, rc409, rc420, rc440, bI_0, bI_1, bI_T, bI_F, iF_T, iF_F, br_not, le_nlt, not_true_eq_false, not_false_eq_true, and_self, and_true, true_and, and_false, false_and, or_true, true_or, or_false, false_or, ne_eq, reduceCtorEq, Nat.reduceLeDiff, Nat.reduceEqDiff, Nat.reduceLT, Nat.reduceAdd, Nat.reduceSub, Nat.reduceMul, Int32.reduceLT, Int32.reduceLE, Int32.reduceToNatClampNeg, Int32.reduceAdd, Int32.reduceSub, implies_true, forall_const, isIn_e, bit_e, lits, F71, F72, F73, hM1, isR_q hB R7.1]
  by_cases s1 : grN L z (b + 3, -1) = 120
  · have := fin 0 (by decide) s1
    simp (config := {decide := true}) only [gI_e, gR_e, pI_e, pZ_e, pR_e, ldI_e, ldZ_e, ldL_e, ldR_e, stI_e, stZ_e, stL_e, stR_e, alN_e, nwA_e, nwO_e, dvI_e, rmI_e, oV_e, oN_e, lt_e, rZ_e, br_T, br_F, fR_sI, aI_sI, aL_sI, aR_sI, kd_sI, ln_sI, hn_sI, hm_sI, fI_sI_n, fI_sR, aI_sR, aL_sR, aR_sR, kd_sR, ln_sR, hn_sR, hm_sR, fR_sR_n, fI_tI, fR_tI, aL_tI, aR_tI, kd_tI, ln_tI, hn_tI, hm_tI, aI_tI_n, fI_tL, fR_tL, aI_tL, aR_tL, kd_tL, ln_tL, hn_tL, hm_tL, aL_tL_n, fI_tR, fR_tR, aI_tR, aL_tR, kd_tR, ln_tR, hn_tR, hm_tR, aR_tR_n, hn_nw, hm_nw, rc400, rc403, rc404, rc405, rc407, rc409, rc420, rc440, bI_0, bI_1, bI_T, bI_F, iF_T, iF_F, br_not, le_nlt, not_true_eq_false, not_false_eq_true, and_self, and_true, true_and, and_false, false_and, or_true, true_or, or_false, false_or, ne_eq, reduceCtorEq, Nat.reduceLeDiff, Nat.reduceEqDiff, Nat.reduceLT, Nat.reduceAdd, Nat.reduceSub, Nat.reduceMul, Int32.reduceLT, Int32.reduceLE, Int32.reduceToNatClampNeg, Int32.reduceAdd, Int32.reduceSub, implies_true, forall_const, isIn_e, bit_e, lits, s1]
    exact this
  · by_cases s2 : grN L z (b + 3, -1) = 108
    · have := fin 1 (by decide) s2
      simp (config := {decide := true}) only [gI_e, gR_e, pI_e, pZ_e, pR_e, ldI_e, ldZ_e, ldL_e, ldR_e, stI_e, stZ_e, stL_e, stR_e, alN_e, nwA_e, nwO_e, dvI_e, rmI_e, oV_e, oN_e, lt_e, rZ_e, br_T, br_F, fR_sI, aI_sI, aL_sI, aR_sI, kd_sI, ln_sI, hn_sI, hm_sI, fI_sI_n, fI_sR, aI_sR, aL_sR, aR_sR, kd_sR, ln_sR, hn_sR, hm_sR, fR_sR_n, fI_tI, fR_tI, aL_tI, aR_tI, kd_tI, ln_tI, hn_tI, hm_tI, aI_tI_n, fI_tL, fR_tL, aI_tL, aR_tL, kd_tL, ln_tL, hn_tL, hm_tL, aL_tL_n, fI_tR, fR_tR, aI_tR, aL_tR, kd_tR, ln_tR, hn_tR, hm_tR, aR_tR_n, hn_nw, hm_nw, rc400, rc403, rc404, rc405, rc407, rc409, rc420, rc440, bI_0, bI_1, bI_T, bI_F, iF_T, iF_F, br_not, le_nlt, not_true_eq_false, not_false_eq_true, and_self, and_true, true_and, and_false, false_and, or_true, true_or, or_false, false_or, ne_eq, reduceCtorEq, Nat.reduceLeDiff, Nat.reduceEqDiff, Nat.reduceLT, Nat.reduceAdd, Nat.reduceSub, Nat.reduceMul, Int32.reduceLT, Int32.reduceLE, Int32.reduceToNatClampNeg, Int32.reduceAdd, Int32.reduceSub, implies_true, forall_const, isIn_e, bit_e, lits, s2]
      exact this
    · by_cases s3 : grN L z (b + 3, -1) = 99
      · have := fin 2 (by decide) s3
        simp (config := {decide := true}) only [gI_e, gR_e, pI_e, pZ_e, pR_e, ldI_e, ldZ_e, ldL_e, ldR_e, stI_e, stZ_e, stL_e, stR_e, alN_e, nwA_e, nwO_e, dvI_e, rmI_e, oV_e, oN_e, lt_e, rZ_e, br_T, br_F, fR_sI, aI_sI, aL_sI, aR_sI, kd_sI, ln_sI, hn_sI, hm_sI, fI_sI_n, fI_sR, aI_sR, aL_sR, aR_sR, kd_sR, ln_sR, hn_sR, hm_sR, fR_sR_n, fI_tI, fR_tI, aL_tI, aR_tI, kd_tI, ln_tI, hn_tI, hm_tI, aI_tI_n, fI_tL, fR_tL, aI_tL, aR_tL, kd_tL, ln_tL, hn_tL, hm_tL, aL_tL_n, fI_tR, fR_tR, aI_tR, aL_tR, kd_tR, ln_tR, hn_tR, hm_tR, aR_tR_n, hn_nw, hm_nw, rc400, rc403, rc404, rc405, rc407, rc409, rc420, rc440, bI_0, bI_1, bI_T, bI_F, iF_T, iF_F, br_not, le_nlt, not_true_eq_false, not_false_eq_true, and_self, and_true, true_and, and_false, false_and, or_true, true_or, or_false, false_or, ne_eq, reduceCtorEq, Nat.reduceLeDiff, Nat.reduceEqDiff, Nat.reduceLT, Nat.reduceAdd, Nat.reduceSub, Nat.reduceMul, Int32.reduceLT, Int32.reduceLE, Int32.reduceToNatClampNeg, Int32.reduceAdd, Int32.reduceSub, implies_true, forall_const, isIn_e, bit_e, lits, s3]
        exact this
      · have no : ¬ grJo (grN L z (b + 3, -1)) := fun q => q.elim s1 (fun q => q.elim s2 s3)
        have nz : ¬ ((b + 3, nI (b + 3)) : RS).2 = -1 := nI_m1 (by omega)
        have gp : grE2 z (grP (grJo (grN L z (b + 3, -1))) (b + 3, -1)) = (b + 3, nI (b + 3)) := by
          unfold grP
          rw [iF_n no, show grF (b + 3, -1) = (b + 3, nI (b + 3)) from if_pos rfl]
          unfold grE2
          rw [grF_z nz]
          by_cases c : b + 3 < z
          · rw [iF_y c]
          · rw [iF_n c]
        rw [gp] at hN
        simp (config := {decide := true}) only [gI_e, gR_e, pI_e, pZ_e, pR_e, ldI_e, ldZ_e, ldL_e, ldR_e, stI_e, stZ_e, stL_e, stR_e, alN_e, nwA_e, nwO_e, dvI_e, rmI_e, oV_e, oN_e, lt_e, rZ_e, br_T, br_F, fR_sI, aI_sI, aL_sI, aR_sI, kd_sI, ln_sI, hn_sI, hm_sI, fI_sI_n, fI_sR, aI_sR, aL_sR, aR_sR, kd_sR, ln_sR, hn_sR, hm_sR, fR_sR_n, fI_tI, fR_tI, aL_tI, aR_tI, kd_tI, ln_tI, hn_tI, hm_tI, aI_tI_n, fI_tL, fR_tL, aI_tL, aR_tL, kd_tL, ln_tL, hn_tL, hm_tL, aL_tL_n, fI_tR, fR_tR, aI_tR, aL_tR, kd_tR, ln_tR, hn_tR, hm_tR, aR_tR_n, hn_nw, hm_nw, rc400, rc403, rc404, rc405, rc407, rc409, rc420, rc440, bI_0, bI_1, bI_T, bI_F, iF_T, iF_F, br_not, le_nlt, not_true_eq_false, not_false_eq_true, and_self, and_true, true_and, and_false, false_and, or_true, true_or, or_false, false_or, ne_eq, reduceCtorEq, Nat.reduceLeDiff, Nat.reduceEqDiff, Nat.reduceLT, Nat.reduceAdd, Nat.reduceSub, Nat.reduceMul, Int32.reduceLT, Int32.reduceLE, Int32.reduceToNatClampNeg, Int32.reduceAdd, Int32.reduceSub, implies_true, forall_const, isIn_e, bit_e, lits, s1, s2, s3, q7]
        exact hN nz h7 (cr h7 R7.1.1)
end COMP
