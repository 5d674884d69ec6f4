def jrF (_ : Nat) : Bool := false
def jrK (k : Nat) : Bool := k == 165
theorem jr_sF : ∀ f, isSf f = false → jrF f = false := fun _ _ => rfl
theorem jr_sK : ∀ k, isSk k = false → jrK k = false := by
  intro k q
  unfold isSk at q
  unfold jrK
  simp at q ⊢
  omega
section JOINR
variable {x y b0 s0 np na nm nr ne : Nat} {g : Nat → Nat → Nat} {m : Nat → Nat} {h : Hp}
theorem joinR_e (hR : RJ y np na nm nr ne m h) {L : List Nat} (hG : GG h m y L) (l0 : 0 < L.length) (l24 : L.length ≤ 24) (hL : ∀ i, i < L.length → L.getD i 0 < na) {d : Nat} (hd : d < 3) (Q : Int32 → Hp → Prop) (hQ : ∀ h', eqX jrF jrK h h' → GG h' m y L → Q (nI (jvN (mgF h m L) L.length (rkN L.length d))) h') : w_X11_joined (some y) (nI (d + 1)) h Q := by
  have hW := hR.2.2.2
  have hbd := hR.2.2.1
  have fle := mgF_le hW.w_muc hL
  have fe : ∀ i, i < L.length → aI h 135 (m 135) (L.getD i 0) = nI (mgF h m L i) := fun i hi => (mc_e hW.w_muc (hL i hi)).1
  generalize hF : mgF h m L = F at *
  unfold w_X11_joined n_X11_joined_0 l_X11_joined_4
  refine Lo.count L.length (fun k s h' => eqX jrF jrK h h' ∧ s = (nI k, nI k) ∧ GG h' m y L ∧ ∃ sF, srtF sF k ∧ (∀ P : Nat → Prop, cN (fun i => P (sF i)) k = cN (fun i => P (F i)) k) ∧ (∀ i, i < k → aI h' 165 (m 165) i = nI (sF i) ∧ sF i ≤ 99)) ?_ 0 (Nat.zero_le _) _ _ ⟨eqX.rf h, rfl, hG, fun _ => 0, fun i j _ hj => absurd hj (Nat.not_lt_zero _), fun P => rfl, fun i hi => absurd hi (Nat.not_lt_zero _)⟩
  rintro k s h' hk ⟨hS, rfl, hG', sF, o1, o2, o3⟩ K hK
  have hR' := RJ.ofS hR (eqX.s jr_sF jr_sK hS)
  have hA := hR'.1
  unfold JM at hA
  have E := eqS_l (eqX.s jr_sF jr_sK hS)
  obtain ⟨g1, g2⟩ := hG'
  unfold b_X11_joined_4
  by_cases e : k < L.length
  · have c := cnF e (show L.length ≤ 160 by omega) (by decide)
    simp only [gI_e, gR_e, pI_e, pZ_e, pR_e, ldI_e, ldZ_e, ldL_e, ldR_e, stI_e, stZ_e, stL_e, stR_e, alN_e, nwA_e, nwO_e, dvI_e, rmI_e, oV_e, oN_e, lt_e, rZ_e, br_T, br_F, fR_sI, aI_sI, aL_sI, aR_sI, kd_sI, ln_sI, hn_sI, hm_sI, fI_sI_n, fI_sR, aI_sR, aL_sR, aR_sR, kd_sR, ln_sR, hn_sR, hm_sR, fR_sR_n, fI_tI, fR_tI, aL_tI, aR_tI, kd_tI, ln_tI, hn_tI, hm_tI, aI_tI_n, fI_tL, fR_tL, aI_tL, aR_tL, kd_tL, ln_tL, hn_tL, hm_tL, aL_tL_n, fI_tR, fR_tR, aI_tR, aL_tR, kd_tR, ln_tR, hn_tR, hm_tR, aR_tR_n, hn_nw, hm_nw, rc400, rc403, rc404, rc405, rc407, rc409, rc420, rc440, bI_0, bI_1, bI_T, bI_F, iF_T, iF_F, br_not, le_nlt, not_true_eq_false, not_false_eq_true, and_self, and_true, true_and, and_false, false_and, or_true, true_or, or_false, false_or, ne_eq, reduceCtorEq, Nat.reduceLeDiff, Nat.reduceEqDiff, Nat.reduceLT, Nat.reduceAdd, Nat.reduceSub, Nat.reduceMul, Int32.reduceLT, Int32.reduceLE, Int32.reduceToNatClampNeg, Int32.reduceAdd, Int32.reduceSub, implies_true, forall_const, isIn_e, bit_e, lits, hA, g1, c]
    unfold l_X11_joined_18
    refine Lo.count k (fun t s2 h2 => eqX jrF jrK h h2 ∧ s2 = nI (k - t) ∧ GG h2 m y L ∧ (∀ i, i < k - t → aI h2 165 (m 165) i = nI (sF i)) ∧ (∀ i, k - t < i → i ≤ k → aI h2 165 (m 165) i = nI (sF (i - 1))) ∧ (∀ i, k - t ≤ i → i < k → F k < sF i)) ?_ 0 (Nat.zero_le _) _ _ ⟨hS, rfl, ⟨g1, g2⟩, fun i hi => (o3 i hi).1, fun i h1 h2 => by omega, fun i h1 h2 => by omega⟩
    rintro t s2 h2 ht ⟨hS2, rfl, hG2, p1, p2, p3⟩ K2 hK2
    have hR2 := RJ.ofS hR (eqX.s jr_sF jr_sK hS2)
    have hA2 := hR2.1
    unfold JM at hA2
    have E2 := eqS_l (eqX.s jr_sF jr_sK hS2)
    obtain ⟨g3, g4⟩ := hG2
    have cl := cnF (hL k e) (show na ≤ 160 by omega) (by decide)
    have ck := cnF e l24 (by decide)
    have ct := cnF (show k - t < 24 by omega) (Nat.le_refl 24) (by decide)
    have fk := fle k e
    -- it is put down here
    have fin : (∀ i, i < k - t → sF i ≤ F k) → n_X11_joined_68 (some y) (nI (d + 1)) (nI (k + 1)) (nI k) (nI (k - t)) h2 Q (fun l2 l3 h => K (l2, l3) h) := by
      intro q
      unfold n_X11_joined_68
      simp (config := {decide := true}) only [gI_e, gR_e, pI_e, pZ_e, pR_e, ldI_e, ldZ_e, ldL_e, ldR_e, stI_e, stZ_e, stL_e, stR_e, alN_e, nwA_e, nwO_e, dvI_e, rmI_e, oV_e, oN_e, lt_e, rZ_e, br_T, br_F, fR_sI, aI_sI, aL_sI, aR_sI, kd_sI, ln_sI, hn_sI, hm_sI, fI_sI_n, fI_sR, aI_sR, aL_sR, aR_sR, kd_sR, ln_sR, hn_sR, hm_sR, fR_sR_n, fI_tI, fR_tI, aL_tI, aR_tI, kd_tI, ln_tI, hn_tI, hm_tI, aI_tI_n, fI_tL, fR_tL, aI_tL, aR_tL, kd_tL, ln_tL, hn_tL, hm_tL, aL_tL_n, fI_tR, fR_tR, aI_tR, aL_tR, kd_tR, ln_tR, hn_tR, hm_tR, aR_tR_n, hn_nw, hm_nw, rc400, rc403, rc404, rc405, rc407, rc409, rc420, rc440, bI_0, bI_1, bI_T, bI_F, iF_T, iF_F, br_not, le_nlt, not_true_eq_false, not_false_eq_true, and_self, and_true, true_and, and_false, false_and, or_true, true_or, or_false, false_or, ne_eq, reduceCtorEq, Nat.reduceLeDiff, Nat.reduceEqDiff, Nat.reduceLT, Nat.reduceAdd, Nat.reduceSub, Nat.reduceMul, Int32.reduceLT, Int32.reduceLE, Int32.reduceToNatClampNeg, Int32.reduceAdd, Int32.reduceSub, implies_true, forall_const, isIn_e, bit_e, lits, hA2, g4 k e, cl, c, ct, E2, fe k e]
      refine hK _ _ e ⟨hS2.tI rfl _ _ _, rfl, ⟨?_, ?_⟩, insF sF (k - t) (F k), insF_s o1 (by omega) q (fun i h1 h2 => Nat.le_of_lt (p3 i h1 h2)), ?_, ?_⟩
      · simp (config := {decide := true}) only [fR_sI, aI_sI, aL_sI, aR_sI, kd_sI, ln_sI, hn_sI, hm_sI, fI_sI_n, fI_sR, aI_sR, aL_sR, aR_sR, kd_sR, ln_sR, hn_sR, hm_sR, fR_sR_n, fI_tI, fR_tI, aL_tI, aR_tI, kd_tI, ln_tI, hn_tI, hm_tI, aI_tI_n, fI_tL, fR_tL, aI_tL, aR_tL, kd_tL, ln_tL, hn_tL, hm_tL, aL_tL_n, fI_tR, fR_tR, aI_tR, aL_tR, kd_tR, ln_tR, hn_tR, hm_tR, aR_tR_n, hn_nw, hm_nw]
        exact g3
      · simp (config := {decide := true}) only [fR_sI, aI_sI, aL_sI, aR_sI, kd_sI, ln_sI, hn_sI, hm_sI, fI_sI_n, fI_sR, aI_sR, aL_sR, aR_sR, kd_sR, ln_sR, hn_sR, hm_sR, fR_sR_n, fI_tI, fR_tI, aL_tI, aR_tI, kd_tI, ln_tI, hn_tI, hm_tI, aI_tI_n, fI_tL, fR_tL, aI_tL, aR_tL, kd_tL, ln_tL, hn_tL, hm_tL, aL_tL_n, fI_tR, fR_tR, aI_tR, aL_tR, kd_tR, ln_tR, hn_tR, hm_tR, aR_tR_n, hn_nw, hm_nw]
        exact g4
      · intro P
        have i1 := insF_c P sF (k - t) (F k) t
        rw [show k - t + t = k by omega] at i1
        rw [i1, o2 P]
        by_cases z : P (F k)
        · rw [iF_y z, cN_y (P := fun i => P (F i)) z]
        · rw [iF_n z, cN_n (P := fun i => P (F i)) z, Nat.add_zero]
      · intro i hi
        simp (config := {decide := true}) only [fI_sI_e, fR_sR_e, aI_tI_e, aL_tL_e, aR_tR_e, true_and]
        unfold insF
        by_cases z : i = k - t
        · rw [if_pos z, if_neg (by omega), if_pos z]
          exact ⟨rfl, fk⟩
        · rw [if_neg z]
          by_cases z2 : i < k - t
          · rw [if_pos z2]
            exact ⟨p1 i z2, (o3 i (by omega)).2⟩
          · rw [if_neg z2, if_neg z]
            exact ⟨p2 i (by omega) (by omega), (o3 (i - 1) (by omega)).2⟩
    unfold b_X11_joined_18
    by_cases z : k - t = 0
    · have z1 : ¬ (0 : Int32) < nI (k - t) := by rw [z]; decide
      have := fin (fun i hi => by omega)
      simp only [gI_e, gR_e, pI_e, pZ_e, pR_e, ldI_e, ldZ_e, ldL_e, ldR_e, stI_e, stZ_e, stL_e, stR_e, alN_e, nwA_e, nwO_e, dvI_e, rmI_e, oV_e, oN_e, lt_e, rZ_e, br_T, br_F, fR_sI, aI_sI, aL_sI, aR_sI, kd_sI, ln_sI, hn_sI, hm_sI, fI_sI_n, fI_sR, aI_sR, aL_sR, aR_sR, kd_sR, ln_sR, hn_sR, hm_sR, fR_sR_n, fI_tI, fR_tI, aL_tI, aR_tI, kd_tI, ln_tI, hn_tI, hm_tI, aI_tI_n, fI_tL, fR_tL, aI_tL, aR_tL, kd_tL, ln_tL, hn_tL, hm_tL, aL_tL_n, fI_tR, fR_tR, aI_tR, aL_tR, kd_tR, ln_tR, hn_tR, hm_tR, aR_tR_n, hn_nw, hm_nw, rc400, rc403, rc404, rc405, rc407, rc409, rc420, rc440, bI_0, bI_1, bI_T, bI_F, iF_T, iF_F, br_not, le_nlt, not_true_eq_false, not_false_eq_true, and_self, and_true, true_and, and_false, false_and, or_true, true_or, or_false, false_or, ne_eq, reduceCtorEq, Nat.reduceLeDiff, Nat.reduceEqDiff, Nat.reduceLT, Nat.reduceAdd, Nat.reduceSub, Nat.reduceMul, Int32.reduceLT, Int32.reduceLE, Int32.reduceToNatClampNeg, Int32.reduceAdd, Int32.reduceSub, implies_true, forall_const, isIn_e, bit_e, lits, z1]
      exact this
    · have z1 : (0 : Int32) < nI (k - t) := (nI_ltI (a := 0) (by omega) (by omega)).mpr (by omega)
      obtain ⟨r, hr⟩ : ∃ r, k - t = r + 1 := ⟨k - t - 1, by omega⟩
      have pr : nI (k - t) - 1 = nI r := by rw [hr, nI_pred]
      have pr2 : nI (k - t) + (-1) = nI (k - (t + 1)) := by
        rw [← Int32.sub_eq_add_neg, pr]
        exact congrArg nI (by omega)
      have cr := cnF (show r < 24 by omega) (Nat.le_refl 24) (by decide)
      have sr := (o3 r (by omega)).2
      have l1 : (nI (F k) < nI (sF r)) = (F k < sF r) := propext (nI_ltI (by omega) (by omega))
      by_cases w : F k < sF r
      · simp (config := {decide := true}) only [gI_e, gR_e, pI_e, pZ_e, pR_e, ldI_e, ldZ_e, ldL_e, ldR_e, stI_e, stZ_e, stL_e, stR_e, alN_e, nwA_e, nwO_e, dvI_e, rmI_e, oV_e, oN_e, lt_e, rZ_e, br_T, br_F, fR_sI, aI_sI, aL_sI, aR_sI, kd_sI, ln_sI, hn_sI, hm_sI, fI_sI_n, fI_sR, aI_sR, aL_sR, aR_sR, kd_sR, ln_sR, hn_sR, hm_sR, fR_sR_n, fI_tI, fR_tI, aL_tI, aR_tI, kd_tI, ln_tI, hn_tI, hm_tI, aI_tI_n, fI_tL, fR_tL, aI_tL, aR_tL, kd_tL, ln_tL, hn_tL, hm_tL, aL_tL_n, fI_tR, fR_tR, aI_tR, aL_tR, kd_tR, ln_tR, hn_tR, hm_tR, aR_tR_n, hn_nw, hm_nw, rc400, rc403, rc404, rc405, rc407, rc409, rc420, rc440, bI_0, bI_1, bI_T, bI_F, iF_T, iF_F, br_not, le_nlt, not_true_eq_false, not_false_eq_true, and_self, and_true, true_and, and_false, false_and, or_true, true_or, or_false, false_or, ne_eq, reduceCtorEq, Nat.reduceLeDiff, Nat.reduceEqDiff, Nat.reduceLT, Nat.reduceAdd, Nat.reduceSub, Nat.reduceMul, Int32.reduceLT, Int32.reduceLE, Int32.reduceToNatClampNeg, Int32.reduceAdd, Int32.reduceSub, implies_true, forall_const, isIn_e, bit_e, lits, z1, hA2, pr, pr2, cr, ct, c, p1 r (by omega), g4 k e, cl, E2, fe k e, l1, w]
        refine hK2 _ _ (by omega) ⟨hS2.tI rfl _ _ _, rfl, ⟨?_, ?_⟩, ?_, ?_, ?_⟩
        · simp (config := {decide := true}) only [fR_sI, aI_sI, aL_sI, aR_sI, kd_sI, ln_sI, hn_sI, hm_sI, fI_sI_n, fI_sR, aI_sR, aL_sR, aR_sR, kd_sR, ln_sR, hn_sR, hm_sR, fR_sR_n, fI_tI, fR_tI, aL_tI, aR_tI, kd_tI, ln_tI, hn_tI, hm_tI, aI_tI_n, fI_tL, fR_tL, aI_tL, aR_tL, kd_tL, ln_tL, hn_tL, hm_tL, aL_tL_n, fI_tR, fR_tR, aI_tR, aL_tR, kd_tR, ln_tR, hn_tR, hm_tR, aR_tR_n, hn_nw, hm_nw]
          exact g3
        · simp (config := {decide := true}) only [fR_sI, aI_sI, aL_sI, aR_sI, kd_sI, ln_sI, hn_sI, hm_sI, fI_sI_n, fI_sR, aI_sR, aL_sR, aR_sR, kd_sR, ln_sR, hn_sR, hm_sR, fR_sR_n, fI_tI, fR_tI, aL_tI, aR_tI, kd_tI, ln_tI, hn_tI, hm_tI, aI_tI_n, fI_tL, fR_tL, aI_tL, aR_tL, kd_tL, ln_tL, hn_tL, hm_tL, aL_tL_n, fI_tR, fR_tR, aI_tR, aL_tR, kd_tR, ln_tR, hn_tR, hm_tR, aR_tR_n, hn_nw, hm_nw]
          exact g4
        · intro i hi
          simp (config := {decide := true}) only [fI_sI_e, fR_sR_e, aI_tI_e, aL_tL_e, aR_tR_e, true_and]
          rw [if_neg (by omega)]
          exact p1 i (by omega)
        · intro i h1 h2
          simp (config := {decide := true}) only [fI_sI_e, fR_sR_e, aI_tI_e, aL_tL_e, aR_tR_e, true_and]
          by_cases v : i = k - t
          · rw [if_pos v, show i - 1 = r by omega]
          · rw [if_neg v]
            exact p2 i (by omega) h2
        · intro i h1 h2
          by_cases v : i = r
          · rw [v]; exact w
          · exact p3 i (by omega) h2
      · have := fin (fun i hi => by
          have := o1 i r (by omega) (by omega)
          omega)
        simp only [gI_e, gR_e, pI_e, pZ_e, pR_e, ldI_e, ldZ_e, ldL_e, ldR_e, stI_e, stZ_e, stL_e, stR_e, alN_e, nwA_e, nwO_e, dvI_e, rmI_e, oV_e, oN_e, lt_e, rZ_e, br_T, br_F, fR_sI, aI_sI, aL_sI, aR_sI, kd_sI, ln_sI, hn_sI, hm_sI, fI_sI_n, fI_sR, aI_sR, aL_sR, aR_sR, kd_sR, ln_sR, hn_sR, hm_sR, fR_sR_n, fI_tI, fR_tI, aL_tI, aR_tI, kd_tI, ln_tI, hn_tI, hm_tI, aI_tI_n, fI_tL, fR_tL, aI_tL, aR_tL, kd_tL, ln_tL, hn_tL, hm_tL, aL_tL_n, fI_tR, fR_tR, aI_tR, aL_tR, kd_tR, ln_tR, hn_tR, hm_tR, aR_tR_n, hn_nw, hm_nw, rc400, rc403, rc404, rc405, rc407, rc409, rc420, rc440, bI_0, bI_1, bI_T, bI_F, iF_T, iF_F, br_not, le_nlt, not_true_eq_false, not_false_eq_true, and_self, and_true, true_and, and_false, false_and, or_true, true_or, or_false, false_or, ne_eq, reduceCtorEq, Nat.reduceLeDiff, Nat.reduceEqDiff, Nat.reduceLT, Nat.reduceAdd, Nat.reduceSub, Nat.reduceMul, Int32.reduceLT, Int32.reduceLE, Int32.reduceToNatClampNeg, Int32.reduceAdd, Int32.reduceSub, implies_true, forall_const, isIn_e, bit_e, lits, z1, hA2, pr, cr, c, p1 r (by omega), g4 k e, cl, E2, fe k e, l1, w]
        exact this
  · obtain rfl : k = L.length := by omega
    have jr : ∀ r, r < L.length → jvN F L.length r = sF r := fun r hr => jvN_e (JV.srt o1 o2 hr)
    have rl := rkN_lt (d := d) l0
    have hq := hQ h' hS ⟨g1, g2⟩
    rw [jr _ rl, ← (o3 _ rl).1] at hq
    have cr := cnF (show rkN L.length d < 24 by omega) (Nat.le_refl 24) (by decide)
    obtain ⟨n, hn⟩ : ∃ n, L.length = n + 1 := ⟨L.length - 1, by omega⟩
    have pr : nI L.length - 1 = nI (L.length - 1) := by rw [hn, nI_pred, Nat.add_sub_cancel]
    have d2 := div2_e (L.length - 1) (by omega)
    unfold n_X11_joined_132
    obtain rfl | rfl | rfl : d = 0 ∨ d = 1 ∨ d = 2 := by omega
    · have e1 : nI (0 + 1) = 1 := rfl
      have rk : rkN L.length 0 = L.length - 1 := rfl
      rw [rk] at hq cr
      simp only [gI_e, gR_e, pI_e, pZ_e, pR_e, ldI_e, ldZ_e, ldL_e, ldR_e, stI_e, stZ_e, stL_e, stR_e, alN_e, nwA_e, nwO_e, dvI_e, rmI_e, oV_e, oN_e, lt_e, rZ_e, br_T, br_F, fR_sI, aI_sI, aL_sI, aR_sI, kd_sI, ln_sI, hn_sI, hm_sI, fI_sI_n, fI_sR, aI_sR, aL_sR, aR_sR, kd_sR, ln_sR, hn_sR, hm_sR, fR_sR_n, fI_tI, fR_tI, aL_tI, aR_tI, kd_tI, ln_tI, hn_tI, hm_tI, aI_tI_n, fI_tL, fR_tL, aI_tL, aR_tL, kd_tL, ln_tL, hn_tL, hm_tL, aL_tL_n, fI_tR, fR_tR, aI_tR, aL_tR, kd_tR, ln_tR, hn_tR, hm_tR, aR_tR_n, hn_nw, hm_nw, rc400, rc403, rc404, rc405, rc407, rc409, rc420, rc440, bI_0, bI_1, bI_T, bI_F, iF_T, iF_F, br_not, le_nlt, not_true_eq_false, not_false_eq_true, and_self, and_true, true_and, and_false, false_and, or_true, true_or, or_false, false_or, ne_eq, reduceCtorEq, Nat.reduceLeDiff, Nat.reduceEqDiff, Nat.reduceLT, Nat.reduceAdd, Nat.reduceSub, Nat.reduceMul, Int32.reduceLT, Int32.reduceLE, Int32.reduceToNatClampNeg, Int32.reduceAdd, Int32.reduceSub, implies_true, forall_const, isIn_e, bit_e, lits, hA, g1, lt_irr, e1, pr, cr]
      exact hq
    · have e1 : nI (1 + 1) = 2 := rfl
      have e2 : ¬ (2 : Int32) = 1 := by decide
      have rk : rkN L.length 1 = 0 := rfl
      have z0 : vp_in (0 : Int32) 24 ∧ (0 : Int32).toNatClampNeg = 0 := ⟨vp_lit 0 (by decide) (by decide), rfl⟩
      rw [rk] at hq
      simp only [gI_e, gR_e, pI_e, pZ_e, pR_e, ldI_e, ldZ_e, ldL_e, ldR_e, stI_e, stZ_e, stL_e, stR_e, alN_e, nwA_e, nwO_e, dvI_e, rmI_e, oV_e, oN_e, lt_e, rZ_e, br_T, br_F, fR_sI, aI_sI, aL_sI, aR_sI, kd_sI, ln_sI, hn_sI, hm_sI, fI_sI_n, fI_sR, aI_sR, aL_sR, aR_sR, kd_sR, ln_sR, hn_sR, hm_sR, fR_sR_n, fI_tI, fR_tI, aL_tI, aR_tI, kd_tI, ln_tI, hn_tI, hm_tI, aI_tI_n, fI_tL, fR_tL, aI_tL, aR_tL, kd_tL, ln_tL, hn_tL, hm_tL, aL_tL_n, fI_tR, fR_tR, aI_tR, aL_tR, kd_tR, ln_tR, hn_tR, hm_tR, aR_tR_n, hn_nw, hm_nw, rc400, rc403, rc404, rc405, rc407, rc409, rc420, rc440, bI_0, bI_1, bI_T, bI_F, iF_T, iF_F, br_not, le_nlt, not_true_eq_false, not_false_eq_true, and_self, and_true, true_and, and_false, false_and, or_true, true_or, or_false, false_or, ne_eq, reduceCtorEq, Nat.reduceLeDiff, Nat.reduceEqDiff, Nat.reduceLT, Nat.reduceAdd, Nat.reduceSub, Nat.reduceMul, Int32.reduceLT, Int32.reduceLE, Int32.reduceToNatClampNeg, Int32.reduceAdd, Int32.reduceSub, implies_true, forall_const, isIn_e, bit_e, lits, hA, g1, lt_irr, e1, e2, z0]
      exact hq
    · have e1 : nI (2 + 1) = 3 := rfl
      have e2 : ¬ (3 : Int32) = 1 := by decide
      have e3 : ¬ (3 : Int32) = 2 := by decide
      have z2 : ¬ (2 : Int32) = 0 := by decide
      have rk : rkN L.length 2 = (L.length - 1) / 2 := rfl
      rw [rk] at hq cr
      simp only [gI_e, gR_e, pI_e, pZ_e, pR_e, ldI_e, ldZ_e, ldL_e, ldR_e, stI_e, stZ_e, stL_e, stR_e, alN_e, nwA_e, nwO_e, dvI_e, rmI_e, oV_e, oN_e, lt_e, rZ_e, br_T, br_F, fR_sI, aI_sI, aL_sI, aR_sI, kd_sI, ln_sI, hn_sI, hm_sI, fI_sI_n, fI_sR, aI_sR, aL_sR, aR_sR, kd_sR, ln_sR, hn_sR, hm_sR, fR_sR_n, fI_tI, fR_tI, aL_tI, aR_tI, kd_tI, ln_tI, hn_tI, hm_tI, aI_tI_n, fI_tL, fR_tL, aI_tL, aR_tL, kd_tL, ln_tL, hn_tL, hm_tL, aL_tL_n, fI_tR, fR_tR, aI_tR, aL_tR, kd_tR, ln_tR, hn_tR, hm_tR, aR_tR_n, hn_nw, hm_nw, rc400, rc403, rc404, rc405, rc407, rc409, rc420, rc440, bI_0, bI_1, bI_T, bI_F, iF_T, iF_F, br_not, le_nlt, not_true_eq_false, not_false_eq_true, and_self, and_true, true_and, and_false, false_and, or_true, true_or, or_false, false_or, ne_eq, reduceCtorEq, Nat.reduceLeDiff, Nat.reduceEqDiff, Nat.reduceLT, Nat.reduceAdd, Nat.reduceSub, Nat.reduceMul, Int32.reduceLT, Int32.reduceLE, Int32.reduceToNatClampNeg, Int32.reduceAdd, Int32.reduceSub, implies_true, forall_const, isIn_e, bit_e, lits, hA, g1, lt_irr, e1, e2, e3, z2, pr, d2, cr]
      exact hq
end JOINR
