theorem tI_idq (h : Hp) (k a j : Nat) : tI h k a j (aI h k a j) = h := by
  show (h.1, h.2.1, u3 h.2.2.1 k a j (h.2.2.1 k a j), h.2.2.2) = h
  have : u3 h.2.2.1 k a j (h.2.2.1 k a j) = h.2.2.1 := by
    funext x y z
    unfold u3
    by_cases c : x = k ∧ y = a ∧ z = j
    · rw [if_pos c, c.1, c.2.1, c.2.2]
    · rw [if_neg c]
  rw [this]
/-- kind and model of one ask, as the reference holds them -/
def rfH (G : Hp) (m : Nat → Nat) (n : Nat) (r : Option Nat) : Hp := tI (tI G 137 (m 137) n (kO r)) 138 (m 138) n (onI r)
theorem rfH_id {G : Hp} {m : Nat → Nat} {n : Nat} (h1 : aI G 137 (m 137) n = 0) (h2 : aI G 138 (m 138) n = -1) : rfH G m n none = G := by
  unfold rfH
  have e1 : kO none = aI G 137 (m 137) n := h1.symm
  have e2 : onI none = aI G 138 (m 138) n := h2.symm
  rw [e1, tI_idq, e2, tI_idq]
theorem rfH_up (G : Hp) (m : Nat → Nat) (n : Nat) (r : Option Nat) (k : Nat) : tI (tI (rfH G m n r) 137 (m 137) n 1) 138 (m 138) n (nI k) = rfH G m n (some k) := by
  have e : u3 (u3 (u3 (u3 G.2.2.1 137 (m 137) n (kO r)) 138 (m 138) n (onI r)) 137 (m 137) n 1) 138 (m 138) n (nI k) = u3 (u3 G.2.2.1 137 (m 137) n 1) 138 (m 138) n (nI k) := by
    funext x y z
    unfold u3
    by_cases p1 : x = 138 ∧ y = m 138 ∧ z = n
    · simp only [if_pos p1]
    · by_cases p2 : x = 137 ∧ y = m 137 ∧ z = n
      · simp only [if_neg p1, if_pos p2]
      · simp only [if_neg p1, if_neg p2]
  show (G.1, G.2.1, u3 (u3 (u3 (u3 G.2.2.1 137 (m 137) n (kO r)) 138 (m 138) n (onI r)) 137 (m 137) n 1) 138 (m 138) n (nI k), G.2.2.2) = (G.1, G.2.1, u3 (u3 G.2.2.1 137 (m 137) n 1) 138 (m 138) n (nI k), G.2.2.2)
  rw [e]
section WRI5
variable {x y b0 s0 np na nm nr ne : Nat} {g : Nat → Nat → Nat} {m : Nat → Nat} {h : Hp}
theorem borrowR_e {G : Hp} {p z : Nat} {c : Int32} {L : Nat → Nat} (hna : na < 160) (hpp : p < np) (hz : z ≤ 20) (hRJ : ∀ r : Option Nat, (∀ b, r = some b → b < nm) → RJ y np (na + 1) nm nr ne m (rfH G m na r)) (hL : ∀ k, k < nm → lkV G m na k = L k) (L20 : ∀ k, L k ≤ z) (hw : aI G 143 (m 143) na = nI z) (i1 : aI G 137 (m 137) na = 0) (i2 : aI G 138 (m 138) na = -1) (Q : Int32 → Hp → Prop) (hQ : ∀ h', eqS (rfH G m na (bst (mayB G m y p z c L) L nm)) h' → Q (nI na) h') : l_X11_write_276 (some y) (nI p) c (nI na) 2 0 G Q := by
  generalize hP : mayB G m y p z c L = P at hQ
  unfold l_X11_write_276
  have bn : ∀ k b, k ≤ nm → bst P L k = some b → b < nm := fun k b hk e => by have := bst_lt e; omega
  refine Lo.count nm (fun k s h' => eqS (rfH G m na (bst P L k)) h' ∧ s = (nI (l2O L (bst P L k)), nI k)) ?_ 0 (Nat.zero_le _) _ _ ⟨by rw [show bst P L 0 = none from rfl, rfH_id i1 i2]; exact eqS.rf G, rfl⟩
  rintro k s h' hk ⟨hS, rfl⟩ K hK
  have hR := RJ.ofS (hRJ (bst P L k) (fun b e => bn k b hk e)) hS
  have hA := hR.1
  unfold JM at hA
  have hC := hR.2.1
  have hbd := hR.2.2.1
  have hW := hR.2.2.2
  have o1 : aI h' 144 (m 144) = aI G 144 (m 144) := by rw [hS.2.2.2.2.2.2.1 144 rfl]; rfl
  have o2 : aI h' 145 (m 145) = aI G 145 (m 145) := by rw [hS.2.2.2.2.2.2.1 145 rfl]; rfl
  have o3 : aI h' 146 (m 146) = aI G 146 (m 146) := by rw [hS.2.2.2.2.2.2.1 146 rfl]; rfl
  have o4 : aI h' 143 (m 143) na = nI z := by rw [hS.2.2.2.2.2.2.1 143 rfl]; exact hw
  have o7 : fI h' 1408 y = fI G 1408 y := by rw [hS.2.2.2.2.2.1 1408 rfl]; rfl
  have cna := cnF (show na < na + 1 by omega) (show na + 1 ≤ 160 by omega) (by decide)
  unfold b_X11_write_276 n_X11_write_368
  by_cases e : k < nm
  · have cc := cnF e (show nm ≤ 8 by omega) (by decide)
    obtain ⟨pl, hpl, epl⟩ := vp_ex (hW.w_mpl k e)
    have epl2 : (nI pl).toNatClampNeg = pl := nI_clamp (by omega)
    have skip : ∀ h2, eqS h' h2 → ¬ (P k ∧ 3 ≤ L k ∧ ∀ b, bst P L k = some b → L b < L k) → K (nI (l2O L (bst P L k)), nI (k + 1)) h2 := by
      intro h2 e2 c2
      have : bst P L (k + 1) = bst P L k := by
        show iF (P k ∧ 3 ≤ L k ∧ ∀ b, bst P L k = some b → L b < L k) (some k) (bst P L k) = _
        exact iF_n c2 _ _
      refine hK _ _ e ⟨?_, by rw [this]⟩
      rw [this]
      exact hS.tr e2
    have wyG : wy (rfH G m na (bst P L k)) m pl p = wy G m pl p := rfl
    have pk : P k = (aI h' 144 (m 144) k = c ∧ ¬ fI h' 1408 y < aI h' 146 (m 146) k + wy h' m pl p ∧ z ≤ 2 * L k) := by
      rw [← hP]
      unfold mayB
      rw [o1, o3, o7, wy_same hS, wyG, ← o2, epl, epl2]
    by_cases d1 : aI h' 144 (m 144) k = c
    rotate_left
    · have := skip h' (eqS.rf h') (fun w => d1 (by have w2 := w.1; rw [pk] at w2; exact w2.1))
      simp only [gI_e, gR_e, pI_e, pZ_e, pR_e, ldI_e, ldZ_e, ldL_e, ldR_e, stI_e, stZ_e, stL_e, stR_e, alN_e, nwA_e, nwO_e, dvI_e, rmI_e, oV_e, oN_e, lt_e, rZ_e, br_T, br_F, fR_sI, aI_sI, aL_sI, aR_sI, kd_sI, ln_sI, hn_sI, hm_sI, fI_sI_n, fI_sR, aI_sR, aL_sR, aR_sR, kd_sR, ln_sR, hn_sR, hm_sR, fR_sR_n, fI_tI, fR_tI, aL_tI, aR_tI, kd_tI, ln_tI, hn_tI, hm_tI, aI_tI_n, fI_tL, fR_tL, aI_tL, aR_tL, kd_tL, ln_tL, hn_tL, hm_tL, aL_tL_n, fI_tR, fR_tR, aI_tR, aL_tR, kd_tR, ln_tR, hn_tR, hm_tR, aR_tR_n, hn_nw, hm_nw, rc400, rc403, rc404, rc405, rc407, rc409, rc420, rc440, bI_0, bI_1, bI_T, bI_F, iF_T, iF_F, br_not, le_nlt, not_true_eq_false, not_false_eq_true, and_self, and_true, true_and, and_false, false_and, or_true, true_or, or_false, false_or, ne_eq, reduceCtorEq, Nat.reduceLeDiff, Nat.reduceEqDiff, Nat.reduceLT, Nat.reduceAdd, Nat.reduceSub, Nat.reduceMul, Int32.reduceLT, Int32.reduceLE, Int32.reduceToNatClampNeg, Int32.reduceAdd, Int32.reduceSub, implies_true, forall_const, isIn_e, bit_e, lits, hA, hC, cc, d1]
      exact this
    simp only [gI_e, gR_e, pI_e, pZ_e, pR_e, ldI_e, ldZ_e, ldL_e, ldR_e, stI_e, stZ_e, stL_e, stR_e, alN_e, nwA_e, nwO_e, dvI_e, rmI_e, oV_e, oN_e, lt_e, rZ_e, br_T, br_F, fR_sI, aI_sI, aL_sI, aR_sI, kd_sI, ln_sI, hn_sI, hm_sI, fI_sI_n, fI_sR, aI_sR, aL_sR, aR_sR, kd_sR, ln_sR, hn_sR, hm_sR, fR_sR_n, fI_tI, fR_tI, aL_tI, aR_tI, kd_tI, ln_tI, hn_tI, hm_tI, aI_tI_n, fI_tL, fR_tL, aI_tL, aR_tL, kd_tL, ln_tL, hn_tL, hm_tL, aL_tL_n, fI_tR, fR_tR, aI_tR, aL_tR, kd_tR, ln_tR, hn_tR, hm_tR, aR_tR_n, hn_nw, hm_nw, rc400, rc403, rc404, rc405, rc407, rc409, rc420, rc440, bI_0, bI_1, bI_T, bI_F, iF_T, iF_F, br_not, le_nlt, not_true_eq_false, not_false_eq_true, and_self, and_true, true_and, and_false, false_and, or_true, true_or, or_false, false_or, ne_eq, reduceCtorEq, Nat.reduceLeDiff, Nat.reduceEqDiff, Nat.reduceLT, Nat.reduceAdd, Nat.reduceSub, Nat.reduceMul, Int32.reduceLT, Int32.reduceLE, Int32.reduceToNatClampNeg, Int32.reduceAdd, Int32.reduceSub, implies_true, forall_const, isIn_e, bit_e, lits, hA, hC, cc, d1, w_X11_reached, n_X11_reached_0, epl]
    refine pathOf_e hR hpl hpp _ ?_
    by_cases d2 : fI h' 1408 y < aI h' 146 (m 146) k + wy h' m pl p
    · have := skip h' (eqS.rf h') (fun w => absurd d2 (by have w2 := w.1; rw [pk] at w2; exact w2.2.1))
      simp only [gI_e, gR_e, pI_e, pZ_e, pR_e, ldI_e, ldZ_e, ldL_e, ldR_e, stI_e, stZ_e, stL_e, stR_e, alN_e, nwA_e, nwO_e, dvI_e, rmI_e, oV_e, oN_e, lt_e, rZ_e, br_T, br_F, fR_sI, aI_sI, aL_sI, aR_sI, kd_sI, ln_sI, hn_sI, hm_sI, fI_sI_n, fI_sR, aI_sR, aL_sR, aR_sR, kd_sR, ln_sR, hn_sR, hm_sR, fR_sR_n, fI_tI, fR_tI, aL_tI, aR_tI, kd_tI, ln_tI, hn_tI, hm_tI, aI_tI_n, fI_tL, fR_tL, aI_tL, aR_tL, kd_tL, ln_tL, hn_tL, hm_tL, aL_tL_n, fI_tR, fR_tR, aI_tR, aL_tR, kd_tR, ln_tR, hn_tR, hm_tR, aR_tR_n, hn_nw, hm_nw, rc400, rc403, rc404, rc405, rc407, rc409, rc420, rc440, bI_0, bI_1, bI_T, bI_F, iF_T, iF_F, br_not, le_nlt, not_true_eq_false, not_false_eq_true, and_self, and_true, true_and, and_false, false_and, or_true, true_or, or_false, false_or, ne_eq, reduceCtorEq, Nat.reduceLeDiff, Nat.reduceEqDiff, Nat.reduceLT, Nat.reduceAdd, Nat.reduceSub, Nat.reduceMul, Int32.reduceLT, Int32.reduceLE, Int32.reduceToNatClampNeg, Int32.reduceAdd, Int32.reduceSub, implies_true, forall_const, isIn_e, bit_e, lits, hA, hC, cc, d2]
      exact this
    simp only [gI_e, gR_e, pI_e, pZ_e, pR_e, ldI_e, ldZ_e, ldL_e, ldR_e, stI_e, stZ_e, stL_e, stR_e, alN_e, nwA_e, nwO_e, dvI_e, rmI_e, oV_e, oN_e, lt_e, rZ_e, br_T, br_F, fR_sI, aI_sI, aL_sI, aR_sI, kd_sI, ln_sI, hn_sI, hm_sI, fI_sI_n, fI_sR, aI_sR, aL_sR, aR_sR, kd_sR, ln_sR, hn_sR, hm_sR, fR_sR_n, fI_tI, fR_tI, aL_tI, aR_tI, kd_tI, ln_tI, hn_tI, hm_tI, aI_tI_n, fI_tL, fR_tL, aI_tL, aR_tL, kd_tL, ln_tL, hn_tL, hm_tL, aL_tL_n, fI_tR, fR_tR, aI_tR, aL_tR, kd_tR, ln_tR, hn_tR, hm_tR, aR_tR_n, hn_nw, hm_nw, rc400, rc403, rc404, rc405, rc407, rc409, rc420, rc440, bI_0, bI_1, bI_T, bI_F, iF_T, iF_F, br_not, le_nlt, not_true_eq_false, not_false_eq_true, and_self, and_true, true_and, and_false, false_and, or_true, true_or, or_false, false_or, ne_eq, reduceCtorEq, Nat.reduceLeDiff, Nat.reduceEqDiff, Nat.reduceLT, Nat.reduceAdd, Nat.reduceSub, Nat.reduceMul, Int32.reduceLT, Int32.reduceLE, Int32.reduceToNatClampNeg, Int32.reduceAdd, Int32.reduceSub, implies_true, forall_const, isIn_e, bit_e, lits, hA, hC, cc, d2]
    refine lkR_e hR (show na < na + 1 by omega) e _ ?_
    intro h2 s2
    have lG : lkV (rfH G m na (bst P L k)) m na k = lkV G m na k := rfl
    rw [lkV_same hS, lG, hL k e]
    have E2 := eqS_l s2
    have z1 := L20 k
    have lo : l2O L (bst P L k) ≤ 20 := by
      cases bst P L k with
      | none => exact (by decide : 2 ≤ 20)
      | some b => exact Nat.le_trans (L20 b) hz
    have t3 : (nI (l2O L (bst P L k)) < nI (L k)) = (l2O L (bst P L k) < L k) := propext (nI_ltI (by omega) (by omega))
    have bq : (3 ≤ L k ∧ ∀ b, bst P L k = some b → L b < L k) ↔ l2O L (bst P L k) < L k := by
      cases eb : bst P L k with
      | none =>
        show _ ↔ 2 < L k
        exact ⟨fun w => by omega, fun w => ⟨by omega, fun _ w => by cases w⟩⟩
      | some b =>
        show _ ↔ L b < L k
        have := bst_3 eb
        exact ⟨fun w => w.2 b rfl, fun w => ⟨by omega, fun b2 e2 => by cases e2; exact w⟩⟩
    by_cases d5 : l2O L (bst P L k) < L k
    rotate_left
    · have := skip h2 s2 (fun w => d5 (bq.mp w.2))
      simp only [gI_e, gR_e, pI_e, pZ_e, pR_e, ldI_e, ldZ_e, ldL_e, ldR_e, stI_e, stZ_e, stL_e, stR_e, alN_e, nwA_e, nwO_e, dvI_e, rmI_e, oV_e, oN_e, lt_e, rZ_e, br_T, br_F, fR_sI, aI_sI, aL_sI, aR_sI, kd_sI, ln_sI, hn_sI, hm_sI, fI_sI_n, fI_sR, aI_sR, aL_sR, aR_sR, kd_sR, ln_sR, hn_sR, hm_sR, fR_sR_n, fI_tI, fR_tI, aL_tI, aR_tI, kd_tI, ln_tI, hn_tI, hm_tI, aI_tI_n, fI_tL, fR_tL, aI_tL, aR_tL, kd_tL, ln_tL, hn_tL, hm_tL, aL_tL_n, fI_tR, fR_tR, aI_tR, aL_tR, kd_tR, ln_tR, hn_tR, hm_tR, aR_tR_n, hn_nw, hm_nw, rc400, rc403, rc404, rc405, rc407, rc409, rc420, rc440, bI_0, bI_1, bI_T, bI_F, iF_T, iF_F, br_not, le_nlt, not_true_eq_false, not_false_eq_true, and_self, and_true, true_and, and_false, false_and, or_true, true_or, or_false, false_or, ne_eq, reduceCtorEq, Nat.reduceLeDiff, Nat.reduceEqDiff, Nat.reduceLT, Nat.reduceAdd, Nat.reduceSub, Nat.reduceMul, Int32.reduceLT, Int32.reduceLE, Int32.reduceToNatClampNeg, Int32.reduceAdd, Int32.reduceSub, implies_true, forall_const, isIn_e, bit_e, lits, t3, d5, cc]
      exact this
    have t2 : (2 * nI (L k) < nI z) = (2 * L k < z) := by
      rw [show (2 : Int32) = nI 2 from rfl, pk_mul]
      exact propext (nI_ltI (by omega) (by omega))
    by_cases d4 : 2 * L k < z
    · have := skip h2 s2 (fun w => by have w2 := w.1; rw [pk] at w2; have := w2.2.2; omega)
      simp only [gI_e, gR_e, pI_e, pZ_e, pR_e, ldI_e, ldZ_e, ldL_e, ldR_e, stI_e, stZ_e, stL_e, stR_e, alN_e, nwA_e, nwO_e, dvI_e, rmI_e, oV_e, oN_e, lt_e, rZ_e, br_T, br_F, fR_sI, aI_sI, aL_sI, aR_sI, kd_sI, ln_sI, hn_sI, hm_sI, fI_sI_n, fI_sR, aI_sR, aL_sR, aR_sR, kd_sR, ln_sR, hn_sR, hm_sR, fR_sR_n, fI_tI, fR_tI, aL_tI, aR_tI, kd_tI, ln_tI, hn_tI, hm_tI, aI_tI_n, fI_tL, fR_tL, aI_tL, aR_tL, kd_tL, ln_tL, hn_tL, hm_tL, aL_tL_n, fI_tR, fR_tR, aI_tR, aL_tR, kd_tR, ln_tR, hn_tR, hm_tR, aR_tR_n, hn_nw, hm_nw, rc400, rc403, rc404, rc405, rc407, rc409, rc420, rc440, bI_0, bI_1, bI_T, bI_F, iF_T, iF_F, br_not, le_nlt, not_true_eq_false, not_false_eq_true, and_self, and_true, true_and, and_false, false_and, or_true, true_or, or_false, false_or, ne_eq, reduceCtorEq, Nat.reduceLeDiff, Nat.reduceEqDiff, Nat.reduceLT, Nat.reduceAdd, Nat.reduceSub, Nat.reduceMul, Int32.reduceLT, Int32.reduceLE, Int32.reduceToNatClampNeg, Int32.reduceAdd, Int32.reduceSub, implies_true, forall_const, isIn_e, bit_e, lits, E2, hA, t3, d5, t2, d4, cc, cna, o4]
      exact this
    have okP : P k := by rw [pk]; exact ⟨d1, d2, by omega⟩
    simp (config := {decide := true}) only [gI_e, gR_e, pI_e, pZ_e, pR_e, ldI_e, ldZ_e, ldL_e, ldR_e, stI_e, stZ_e, stL_e, stR_e, alN_e, nwA_e, nwO_e, dvI_e, rmI_e, oV_e, oN_e, lt_e, rZ_e, br_T, br_F, fR_sI, aI_sI, aL_sI, aR_sI, kd_sI, ln_sI, hn_sI, hm_sI, fI_sI_n, fI_sR, aI_sR, aL_sR, aR_sR, kd_sR, ln_sR, hn_sR, hm_sR, fR_sR_n, fI_tI, fR_tI, aL_tI, aR_tI, kd_tI, ln_tI, hn_tI, hm_tI, aI_tI_n, fI_tL, fR_tL, aI_tL, aR_tL, kd_tL, ln_tL, hn_tL, hm_tL, aL_tL_n, fI_tR, fR_tR, aI_tR, aL_tR, kd_tR, ln_tR, hn_tR, hm_tR, aR_tR_n, hn_nw, hm_nw, rc400, rc403, rc404, rc405, rc407, rc409, rc420, rc440, bI_0, bI_1, bI_T, bI_F, iF_T, iF_F, br_not, le_nlt, not_true_eq_false, not_false_eq_true, and_self, and_true, true_and, and_false, false_and, or_true, true_or, or_false, false_or, ne_eq, reduceCtorEq, Nat.reduceLeDiff, Nat.reduceEqDiff, Nat.reduceLT, Nat.reduceAdd, Nat.reduceSub, Nat.reduceMul, Int32.reduceLT, Int32.reduceLE, Int32.reduceToNatClampNeg, Int32.reduceAdd, Int32.reduceSub, implies_true, forall_const, isIn_e, bit_e, lits, E2, hA, t3, d5, t2, d4, cc, cna, o4]
    have yes : bst P L (k + 1) = some k := by
      show iF (P k ∧ 3 ≤ L k ∧ ∀ b, bst P L k = some b → L b < L k) (some k) (bst P L k) = _
      exact iF_y ⟨okP, bq.mpr d5⟩ _ _
    refine hK _ _ e ⟨?_, ?_⟩
    · rw [yes, ← rfH_up G m na (bst P L k) k]
      exact eqS_tIb (eqS_tIb (hS.tr s2) _ _ _ _) _ _ _ _
    · rw [yes]
      rfl
  · obtain rfl : k = nm := by omega
    simp only [gI_e, gR_e, pI_e, pZ_e, pR_e, ldI_e, ldZ_e, ldL_e, ldR_e, stI_e, stZ_e, stL_e, stR_e, alN_e, nwA_e, nwO_e, dvI_e, rmI_e, oV_e, oN_e, lt_e, rZ_e, br_T, br_F, fR_sI, aI_sI, aL_sI, aR_sI, kd_sI, ln_sI, hn_sI, hm_sI, fI_sI_n, fI_sR, aI_sR, aL_sR, aR_sR, kd_sR, ln_sR, hn_sR, hm_sR, fR_sR_n, fI_tI, fR_tI, aL_tI, aR_tI, kd_tI, ln_tI, hn_tI, hm_tI, aI_tI_n, fI_tL, fR_tL, aI_tL, aR_tL, kd_tL, ln_tL, hn_tL, hm_tL, aL_tL_n, fI_tR, fR_tR, aI_tR, aL_tR, kd_tR, ln_tR, hn_tR, hm_tR, aR_tR_n, hn_nw, hm_nw, rc400, rc403, rc404, rc405, rc407, rc409, rc420, rc440, bI_0, bI_1, bI_T, bI_F, iF_T, iF_F, br_not, le_nlt, not_true_eq_false, not_false_eq_true, and_self, and_true, true_and, and_false, false_and, or_true, true_or, or_false, false_or, ne_eq, reduceCtorEq, Nat.reduceLeDiff, Nat.reduceEqDiff, Nat.reduceLT, Nat.reduceAdd, Nat.reduceSub, Nat.reduceMul, Int32.reduceLT, Int32.reduceLE, Int32.reduceToNatClampNeg, Int32.reduceAdd, Int32.reduceSub, implies_true, forall_const, isIn_e, bit_e, lits, hA, hC, lt_irr]
    exact hQ h' hS
theorem wordsLoop (hA : JM y m h) {s n o : Nat} {p : Int32} {c : Int32} (hs : s < 8) (hn20 : n ≤ 20) (ho : o < 160) (e1 : aI h 130 (m 130) s = nI n) (Q : Int32 → Hp → Prop) (hQ : l_X11_write_276 (some y) p c (nI o) 2 0 (cfL h 312 (m 312) (20 * o) n (fun t => aL h 310 (m 310) (60 * s + t))) Q) : l_X11_write_226 (some y) p c (nI s) (nI o) 0 h Q := by
  unfold JM at hA
  unfold l_X11_write_226
  have cs := cnF hs (Nat.le_refl 8) (by decide)
  refine Lo.run n (fun k => nI k) (fun k => cfL h 312 (m 312) (20 * o) k (fun t => aL h 310 (m 310) (60 * s + t))) ?_ ?_ rfl (cfL_0 _ _ _ _ _).symm
  · intro k hk K hK
    unfold b_X11_write_226
    have cc : nI k < nI n := nI_lt hk (by omega)
    have i1 := idx60 hs (show k < 60 by omega)
    have i2 : (20 * nI o + nI k).toNatClampNeg = 20 * o + k ∧ vp_in (20 * nI o + nI k) 3200 := by
      have e : (20 : Int32) * nI o + nI k = nI (20 * o + k) := by
        rw [show (20 : Int32) = nI 20 from rfl, pk_mul, nI_add]
      rw [e]
      exact ⟨nI_clamp (by omega), vp_in_nI (by omega) (by decide)⟩
    simp (config := {decide := true}) only [gI_e, gR_e, pI_e, pZ_e, pR_e, ldI_e, ldZ_e, ldL_e, ldR_e, stI_e, stZ_e, stL_e, stR_e, alN_e, nwA_e, nwO_e, dvI_e, rmI_e, oV_e, oN_e, lt_e, rZ_e, br_T, br_F, fR_sI, aI_sI, aL_sI, aR_sI, kd_sI, ln_sI, hn_sI, hm_sI, fI_sI_n, fI_sR, aI_sR, aL_sR, aR_sR, kd_sR, ln_sR, hn_sR, hm_sR, fR_sR_n, fI_tI, fR_tI, aL_tI, aR_tI, kd_tI, ln_tI, hn_tI, hm_tI, aI_tI_n, fI_tL, fR_tL, aI_tL, aR_tL, kd_tL, ln_tL, hn_tL, hm_tL, aL_tL_n, fI_tR, fR_tR, aI_tR, aL_tR, kd_tR, ln_tR, hn_tR, hm_tR, aR_tR_n, hn_nw, hm_nw, rc400, rc403, rc404, rc405, rc407, rc409, rc420, rc440, bI_0, bI_1, bI_T, bI_F, iF_T, iF_F, br_not, le_nlt, not_true_eq_false, not_false_eq_true, and_self, and_true, true_and, and_false, false_and, or_true, true_or, or_false, false_or, ne_eq, reduceCtorEq, Nat.reduceLeDiff, Nat.reduceEqDiff, Nat.reduceLT, Nat.reduceAdd, Nat.reduceSub, Nat.reduceMul, Int32.reduceLT, Int32.reduceLE, Int32.reduceToNatClampNeg, Int32.reduceAdd, Int32.reduceSub, implies_true, forall_const, isIn_e, bit_e, lits, aL_cfL_n, fI_cfL, fR_cfL, aI_cfL, aR_cfL, kd_cfL, ln_cfL, hn_cfL, hm_cfL, hA, cs, e1, cc, i1, i2, n1]
    have st := cfL_s h 312 (m 312) (20 * o) k (fun t => aL h 310 (m 310) (60 * s + t))
    rw [st]
    exact hK
  · intro K
    unfold b_X11_write_226
    simp (config := {decide := true}) only [gI_e, gR_e, pI_e, pZ_e, pR_e, ldI_e, ldZ_e, ldL_e, ldR_e, stI_e, stZ_e, stL_e, stR_e, alN_e, nwA_e, nwO_e, dvI_e, rmI_e, oV_e, oN_e, lt_e, rZ_e, br_T, br_F, fR_sI, aI_sI, aL_sI, aR_sI, kd_sI, ln_sI, hn_sI, hm_sI, fI_sI_n, fI_sR, aI_sR, aL_sR, aR_sR, kd_sR, ln_sR, hn_sR, hm_sR, fR_sR_n, fI_tI, fR_tI, aL_tI, aR_tI, kd_tI, ln_tI, hn_tI, hm_tI, aI_tI_n, fI_tL, fR_tL, aI_tL, aR_tL, kd_tL, ln_tL, hn_tL, hm_tL, aL_tL_n, fI_tR, fR_tR, aI_tR, aL_tR, kd_tR, ln_tR, hn_tR, hm_tR, aR_tR_n, hn_nw, hm_nw, rc400, rc403, rc404, rc405, rc407, rc409, rc420, rc440, bI_0, bI_1, bI_T, bI_F, iF_T, iF_F, br_not, le_nlt, not_true_eq_false, not_false_eq_true, and_self, and_true, true_and, and_false, false_and, or_true, true_or, or_false, false_or, ne_eq, reduceCtorEq, Nat.reduceLeDiff, Nat.reduceEqDiff, Nat.reduceLT, Nat.reduceAdd, Nat.reduceSub, Nat.reduceMul, Int32.reduceLT, Int32.reduceLE, Int32.reduceToNatClampNeg, Int32.reduceAdd, Int32.reduceSub, implies_true, forall_const, isIn_e, bit_e, lits, aL_cfL_n, fI_cfL, fR_cfL, aI_cfL, aR_cfL, kd_cfL, ln_cfL, hn_cfL, hm_cfL, hA, cs, e1, lt_irr, n1]
    exact hQ
end WRI5
