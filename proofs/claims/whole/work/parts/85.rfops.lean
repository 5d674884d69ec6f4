/-- what the reference writes for a new merged book -/
def psR (m : Nat → Nat) (y n p : Nat) (c d v now : Int32) (h : Hp) : Hp := sI (tI (tI (tI (tI (tI (tI (tI (tI (tI (tI (tI (tI h 132 (m 132) n (nI p)) 133 (m 133) n c) 134 (m 134) n d) 135 (m 135) n v) 136 (m 136) n now) 137 (m 137) n 2) 138 (m 138) n (-1)) 139 (m 139) n (-1)) 140 (m 140) n (-1)) 141 (m 141) n (-1)) 142 (m 142) n (-1)) 201 (m 201) n 0) 1410 y (nI (n + 1))
/-- the reference's links of a group -/
def lkR (k a : Nat) (v : Int32) (L : List Nat) : Nat → Hp → Hp
  | 0, h => h
  | i + 1, h => tI (lkR k a v L i h) k a (L.getD i 0) v
theorem lkR_o (k a : Nat) (v : Int32) (L : List Nat) (h : Hp) : ∀ i, kd (lkR k a v L i h) = kd h ∧ ln (lkR k a v L i h) = ln h ∧ fI (lkR k a v L i h) = fI h ∧ fR (lkR k a v L i h) = fR h ∧ hn (lkR k a v L i h) = hn h ∧ hm (lkR k a v L i h) = hm h ∧ aL (lkR k a v L i h) = aL h ∧ aR (lkR k a v L i h) = aR h ∧ ∀ q, ¬ q = k → aI (lkR k a v L i h) q = aI h q := by
  intro i
  induction i with
  | zero => exact ⟨rfl, rfl, rfl, rfl, rfl, rfl, rfl, rfl, fun _ _ => rfl⟩
  | succ i ih =>
    obtain ⟨i1, i2, i3, i4, i5, i6, i7, i8, i9⟩ := ih
    exact ⟨i1, i2, i3, i4, i5, i6, i7, i8, fun q hq => (aI_tI_n _ _ _ _ _ _ hq).trans (i9 q hq)⟩
/-- the reference's turn for a group -/
noncomputable def rfT (m : Nat → Nat) (y p : Nat) (kp : Prop) (v : Int32) (L : List Nat) (k n : Nat) (h : Hp) : Hp := iF kp (lkR 139 (m 139) (nI n) L L.length (psR m y n p (nI (k / 8)) (nI (k % 8)) v (fI h 1408 y) h)) (lkR 140 (m 140) (nI p) L L.length h)
section RFOP
variable {x y b0 s0 np na nm nr ne : Nat} {g : Nat → Nat → Nat} {m : Nat → Nat} {h h1 : Hp}
theorem putsR_e (hR : RJ y np na nm nr ne m h) (n160 : na < 160) (p : Nat) (c d v : Int32) (Q : Int32 → Hp → Prop) (hQ : Q (nI na) (psR m y na p c d v (fI h 1408 y) h)) : w_X11_puts_ (some y) (nI p) c d v 2 0 h Q := by
  have hA := hR.1
  unfold JM at hA
  have hC := hR.2.1
  have cn := cnF n160 (Nat.le_refl 160) (by decide)
  unfold w_X11_puts_ n_X11_puts__0
  simp (config := {decide := true}) only [gI_e, gR_e, pI_e, pZ_e, pR_e, ldI_e, ldZ_e, ldL_e, ldR_e, stI_e, stZ_e, stL_e, stR_e, alN_e, nwA_e, nwO_e, dvI_e, rmI_e, oV_e, oN_e, lt_e, rZ_e, br_T, br_F, fR_sI, aI_sI, aL_sI, aR_sI, kd_sI, ln_sI, hn_sI, hm_sI, fI_sI_n, fI_sR, aI_sR, aL_sR, aR_sR, kd_sR, ln_sR, hn_sR, hm_sR, fR_sR_n, fI_tI, fR_tI, aL_tI, aR_tI, kd_tI, ln_tI, hn_tI, hm_tI, aI_tI_n, fI_tL, fR_tL, aI_tL, aR_tL, kd_tL, ln_tL, hn_tL, hm_tL, aL_tL_n, fI_tR, fR_tR, aI_tR, aL_tR, kd_tR, ln_tR, hn_tR, hm_tR, aR_tR_n, hn_nw, hm_nw, rc400, rc403, rc404, rc405, rc407, rc409, rc420, rc440, bI_0, bI_1, bI_T, bI_F, iF_T, iF_F, br_not, le_nlt, not_true_eq_false, not_false_eq_true, and_self, and_true, true_and, and_false, false_and, or_true, true_or, or_false, false_or, ne_eq, reduceCtorEq, Nat.reduceLeDiff, Nat.reduceEqDiff, Nat.reduceLT, Nat.reduceAdd, Nat.reduceSub, Nat.reduceMul, Int32.reduceLT, Int32.reduceLE, Int32.reduceToNatClampNeg, Int32.reduceAdd, Int32.reduceSub, implies_true, forall_const, isIn_e, bit_e, lits, hA, hC, cn]
  exact hQ
theorem linkR_e (hM : JM y m h) {L : List Nat} (hG : GG h m y L) (l24 : L.length ≤ 24) (hL : ∀ i, i < L.length → L.getD i 0 < 160) {p : Nat} (kp : Prop) (v l2 l3 l4 : Int32) (Q : Int32 → Hp → Prop) (K : Int32 → Hp → Prop) (hQ : n_X11_make_268 (some y) (nI p) l2 l3 l4 (iF kp (lkR 139 (m 139) v L L.length h) (lkR 140 (m 140) (nI p) L L.length h)) Q K) : l_X11_make_218 (some y) (nI p) l2 l3 l4 (bI kp) v 0 h Q K := by
  have hA := hM
  unfold JM at hA
  obtain ⟨g1, g2⟩ := hG
  unfold l_X11_make_218
  refine Lo.run L.length (fun t => nI t) (fun t => iF kp (lkR 139 (m 139) v L t h) (lkR 140 (m 140) (nI p) L t h)) ?_ ?_ rfl (by
    by_cases w : kp
    · rw [iF_y w]; rfl
    · rw [iF_n w]; rfl)
  · intro t ht K1 hK1
    have c := cnF ht (show L.length ≤ 160 by omega) (by decide)
    have c160 := cnF (show t < 160 by omega) (Nat.le_refl 160) (by decide)
    have cb := cnF (hL t ht) (Nat.le_refl 160) (by decide)
    have g2t := g2 t ht
    unfold b_X11_make_218 n_X11_make_262
    by_cases w : kp
    · rw [iF_y w] at hK1 ⊢
      obtain ⟨o1, o2, o3, o4, o5, o6, o7, o8, o9⟩ := lkR_o 139 (m 139) v L h t
      have o164 := o9 164 (by decide)
      have hK2 : K1 (nI (t + 1)) (tI (lkR 139 (m 139) v L t h) 139 (m 139) (L.getD t 0) v) := hK1
      clear hK1
      generalize lkR 139 (m 139) v L t h = H at *
      rw [bI_y w]
      simp (config := {decide := true}) only [gI_e, gR_e, pI_e, pZ_e, pR_e, ldI_e, ldZ_e, ldL_e, ldR_e, stI_e, stZ_e, stL_e, stR_e, alN_e, nwA_e, nwO_e, dvI_e, rmI_e, oV_e, oN_e, lt_e, rZ_e, br_T, br_F, fR_sI, aI_sI, aL_sI, aR_sI, kd_sI, ln_sI, hn_sI, hm_sI, fI_sI_n, fI_sR, aI_sR, aL_sR, aR_sR, kd_sR, ln_sR, hn_sR, hm_sR, fR_sR_n, fI_tI, fR_tI, aL_tI, aR_tI, kd_tI, ln_tI, hn_tI, hm_tI, aI_tI_n, fI_tL, fR_tL, aI_tL, aR_tL, kd_tL, ln_tL, hn_tL, hm_tL, aL_tL_n, fI_tR, fR_tR, aI_tR, aL_tR, kd_tR, ln_tR, hn_tR, hm_tR, aR_tR_n, hn_nw, hm_nw, rc400, rc403, rc404, rc405, rc407, rc409, rc420, rc440, bI_0, bI_1, bI_T, bI_F, iF_T, iF_F, br_not, le_nlt, not_true_eq_false, not_false_eq_true, and_self, and_true, true_and, and_false, false_and, or_true, true_or, or_false, false_or, ne_eq, reduceCtorEq, Nat.reduceLeDiff, Nat.reduceEqDiff, Nat.reduceLT, Nat.reduceAdd, Nat.reduceSub, Nat.reduceMul, Int32.reduceLT, Int32.reduceLE, Int32.reduceToNatClampNeg, Int32.reduceAdd, Int32.reduceSub, implies_true, forall_const, isIn_e, bit_e, lits, o1, o2, o3, o4, o164, hA, g1, g2t, c, c160, cb]
      exact hK2
    · rw [iF_n w] at hK1 ⊢
      obtain ⟨o1, o2, o3, o4, o5, o6, o7, o8, o9⟩ := lkR_o 140 (m 140) (nI p) L h t
      have o164 := o9 164 (by decide)
      have hK2 : K1 (nI (t + 1)) (tI (lkR 140 (m 140) (nI p) L t h) 140 (m 140) (L.getD t 0) (nI p)) := hK1
      clear hK1
      generalize lkR 140 (m 140) (nI p) L t h = H at *
      rw [bI_n w]
      simp (config := {decide := true}) only [gI_e, gR_e, pI_e, pZ_e, pR_e, ldI_e, ldZ_e, ldL_e, ldR_e, stI_e, stZ_e, stL_e, stR_e, alN_e, nwA_e, nwO_e, dvI_e, rmI_e, oV_e, oN_e, lt_e, rZ_e, br_T, br_F, fR_sI, aI_sI, aL_sI, aR_sI, kd_sI, ln_sI, hn_sI, hm_sI, fI_sI_n, fI_sR, aI_sR, aL_sR, aR_sR, kd_sR, ln_sR, hn_sR, hm_sR, fR_sR_n, fI_tI, fR_tI, aL_tI, aR_tI, kd_tI, ln_tI, hn_tI, hm_tI, aI_tI_n, fI_tL, fR_tL, aI_tL, aR_tL, kd_tL, ln_tL, hn_tL, hm_tL, aL_tL_n, fI_tR, fR_tR, aI_tR, aL_tR, kd_tR, ln_tR, hn_tR, hm_tR, aR_tR_n, hn_nw, hm_nw, rc400, rc403, rc404, rc405, rc407, rc409, rc420, rc440, bI_0, bI_1, bI_T, bI_F, iF_T, iF_F, br_not, le_nlt, not_true_eq_false, not_false_eq_true, and_self, and_true, true_and, and_false, false_and, or_true, true_or, or_false, false_or, ne_eq, reduceCtorEq, Nat.reduceLeDiff, Nat.reduceEqDiff, Nat.reduceLT, Nat.reduceAdd, Nat.reduceSub, Nat.reduceMul, Int32.reduceLT, Int32.reduceLE, Int32.reduceToNatClampNeg, Int32.reduceAdd, Int32.reduceSub, implies_true, forall_const, isIn_e, bit_e, lits, o1, o2, o3, o4, o164, hA, g1, g2t, c, c160, cb]
      exact hK2
  · intro K1
    unfold b_X11_make_218
    by_cases w : kp
    · rw [iF_y w] at hQ ⊢
      obtain ⟨o1, o2, o3, o4, o5, o6, o7, o8, o9⟩ := lkR_o 139 (m 139) v L h L.length
      generalize lkR 139 (m 139) v L L.length h = H at *
      simp (config := {decide := true}) only [gI_e, gR_e, pI_e, pZ_e, pR_e, ldI_e, ldZ_e, ldL_e, ldR_e, stI_e, stZ_e, stL_e, stR_e, alN_e, nwA_e, nwO_e, dvI_e, rmI_e, oV_e, oN_e, lt_e, rZ_e, br_T, br_F, fR_sI, aI_sI, aL_sI, aR_sI, kd_sI, ln_sI, hn_sI, hm_sI, fI_sI_n, fI_sR, aI_sR, aL_sR, aR_sR, kd_sR, ln_sR, hn_sR, hm_sR, fR_sR_n, fI_tI, fR_tI, aL_tI, aR_tI, kd_tI, ln_tI, hn_tI, hm_tI, aI_tI_n, fI_tL, fR_tL, aI_tL, aR_tL, kd_tL, ln_tL, hn_tL, hm_tL, aL_tL_n, fI_tR, fR_tR, aI_tR, aL_tR, kd_tR, ln_tR, hn_tR, hm_tR, aR_tR_n, hn_nw, hm_nw, rc400, rc403, rc404, rc405, rc407, rc409, rc420, rc440, bI_0, bI_1, bI_T, bI_F, iF_T, iF_F, br_not, le_nlt, not_true_eq_false, not_false_eq_true, and_self, and_true, true_and, and_false, false_and, or_true, true_or, or_false, false_or, ne_eq, reduceCtorEq, Nat.reduceLeDiff, Nat.reduceEqDiff, Nat.reduceLT, Nat.reduceAdd, Nat.reduceSub, Nat.reduceMul, Int32.reduceLT, Int32.reduceLE, Int32.reduceToNatClampNeg, Int32.reduceAdd, Int32.reduceSub, implies_true, forall_const, isIn_e, bit_e, lits, o1, o2, o3, o4, hA, g1, lt_irr]
      exact hQ
    · rw [iF_n w] at hQ ⊢
      obtain ⟨o1, o2, o3, o4, o5, o6, o7, o8, o9⟩ := lkR_o 140 (m 140) (nI p) L h L.length
      generalize lkR 140 (m 140) (nI p) L L.length h = H at *
      simp (config := {decide := true}) only [gI_e, gR_e, pI_e, pZ_e, pR_e, ldI_e, ldZ_e, ldL_e, ldR_e, stI_e, stZ_e, stL_e, stR_e, alN_e, nwA_e, nwO_e, dvI_e, rmI_e, oV_e, oN_e, lt_e, rZ_e, br_T, br_F, fR_sI, aI_sI, aL_sI, aR_sI, kd_sI, ln_sI, hn_sI, hm_sI, fI_sI_n, fI_sR, aI_sR, aL_sR, aR_sR, kd_sR, ln_sR, hn_sR, hm_sR, fR_sR_n, fI_tI, fR_tI, aL_tI, aR_tI, kd_tI, ln_tI, hn_tI, hm_tI, aI_tI_n, fI_tL, fR_tL, aI_tL, aR_tL, kd_tL, ln_tL, hn_tL, hm_tL, aL_tL_n, fI_tR, fR_tR, aI_tR, aL_tR, kd_tR, ln_tR, hn_tR, hm_tR, aR_tR_n, hn_nw, hm_nw, rc400, rc403, rc404, rc405, rc407, rc409, rc420, rc440, bI_0, bI_1, bI_T, bI_F, iF_T, iF_F, br_not, le_nlt, not_true_eq_false, not_false_eq_true, and_self, and_true, true_and, and_false, false_and, or_true, true_or, or_false, false_or, ne_eq, reduceCtorEq, Nat.reduceLeDiff, Nat.reduceEqDiff, Nat.reduceLT, Nat.reduceAdd, Nat.reduceSub, Nat.reduceMul, Int32.reduceLT, Int32.reduceLE, Int32.reduceToNatClampNeg, Int32.reduceAdd, Int32.reduceSub, implies_true, forall_const, isIn_e, bit_e, lits, o1, o2, o3, o4, hA, g1, lt_irr]
      exact hQ
end RFOP
