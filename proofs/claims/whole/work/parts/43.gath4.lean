theorem fL_mem {P : Nat → Prop} {n b : Nat} (h : b ∈ fL P n) : b < n ∧ P b := by
  unfold fL at h
  rw [List.mem_filter] at h
  exact ⟨List.mem_range.mp h.1, @of_decide_eq_true _ (Classical.propDecidable _) h.2⟩
section GATE
variable {x y b0 s0 np na nm nr ne : Nat} {g : Nat → Nat → Nat} {m : Nat → Nat} {h : Hp}
/-- a standing book of a place below u, of one key -/
def gsP (h : Hp) (m : Nat → Nat) (u key b : Nat) : Prop := aI h 121 (m 121) (atN h m b) = nI u ∧ stN h m b ∧ kyN h m b = key
noncomputable def gsT (h : Hp) (m : Nat → Nat) (u k : Nat) : List Nat := bkL (fun key => fL (gsP h m u key) k) 3072
theorem ky_e (hW : JW y np na nm nr ne m h) (hb : np ≤ 24) {b : Nat} (h1 : b < na) : ∃ w v p, w < 16 ∧ v < 8 ∧ p < 24 ∧ aI h 133 (m 133) b = nI w ∧ aI h 134 (m 134) b = nI v ∧ aI h 132 (m 132) b = nI p ∧ kyN h m b = 24 * (8 * w + v) + p := by
  obtain ⟨w, w1, w2⟩ := vp_ex (hW.w_wha b h1)
  obtain ⟨v, v1, v2⟩ := vp_ex (hW.w_who b h1)
  obtain ⟨p, p1, p2⟩ := vp_ex (hW.w_at b h1)
  refine ⟨w, v, p, w1, v1, by omega, w2, v2, p2, ?_⟩
  unfold kyN whN wmN atN
  rw [w2, v2, p2, nI_clamp (by omega), nI_clamp (by omega), nI_clamp (by omega)]
theorem gsP_one (hW : JW y np na nm nr ne m h) (hb : np ≤ 24) {u key i j : Nat} (hi : i < na) (hj : j < na) (a : gsP h m u key i) (b : gsP h m u key j) : i = j := by
  obtain ⟨w, v, p, w1, v1, p1, e1, e2, e3, e4⟩ := ky_e hW hb hi
  obtain ⟨w', v', p', w1', v1', p1', e1', e2', e3', e4'⟩ := ky_e hW hb hj
  have k1 := a.2.2
  have k2 := b.2.2
  have ew : w = w' := by omega
  have ev : v = v' := by omega
  have ep : p = p' := by omega
  exact hW.w_one i j hi hj (by rw [e3, e3', ep]) (by rw [e1, e1', ew]) (by rw [e2, e2', ev]) a.2.1.1 b.2.1.1
theorem gatherC_e (hJ : JA x y b0 s0 np na nm nr ne g m h) {u : Nat} (hu : u < np) (Q : Hp → Prop) (hQ : ∀ h', eqS h h' → GC h' g (gsT h m u na) → (gsT h m u na).length ≤ na → w_X2_findStarts (some (g 0 9)) h' Q) : w_X10_gather (some x) (some (g 1 u)) h Q := by
  have hB0 := hJ.2.1
  unfold JS at hB0
  have hbd := hJ.2.2.1.2
  have hW := hJ.2.2.2.2.2.1
  have hG := hJ.2.2.2.1
  have inj := hG.pl_in (show np ≤ 24 by omega)
  have em : gsT h m u 0 = [] := by
    unfold gsT
    have : ∀ n, bkL (fun key => fL (gsP h m u key) 0) n = [] := by
      intro n
      induction n with
      | zero => rfl
      | succ n ih =>
        show bkL (fun key => fL (gsP h m u key) 0) n ++ [] = []
        rw [ih]
        rfl
    exact this 3072
  unfold w_X10_gather n_X10_gather_0 w_X2_clear n_X2_clear_0
  simp only [gI_e, gR_e, pI_e, pZ_e, pR_e, ldI_e, ldZ_e, ldL_e, ldR_e, stI_e, stZ_e, stL_e, stR_e, alN_e, nwA_e, nwO_e, dvI_e, rmI_e, oV_e, oN_e, lt_e, rZ_e, br_T, br_F, fR_sI, aI_sI, aL_sI, aR_sI, kd_sI, ln_sI, hn_sI, hm_sI, fI_sI_n, fI_sR, aI_sR, aL_sR, aR_sR, kd_sR, ln_sR, hn_sR, hm_sR, fR_sR_n, fI_tI, fR_tI, aL_tI, aR_tI, kd_tI, ln_tI, hn_tI, hm_tI, aI_tI_n, fI_tL, fR_tL, aI_tL, aR_tL, kd_tL, ln_tL, hn_tL, hm_tL, aL_tL_n, fI_tR, fR_tR, aI_tR, aL_tR, kd_tR, ln_tR, hn_tR, hm_tR, aR_tR_n, hn_nw, hm_nw, rc400, rc403, rc404, rc405, rc407, rc409, rc420, rc440, bI_0, bI_1, bI_T, bI_F, iF_T, iF_F, br_not, le_nlt, not_true_eq_false, not_false_eq_true, and_self, and_true, true_and, and_false, false_and, or_true, true_or, or_false, false_or, ne_eq, reduceCtorEq, Nat.reduceLeDiff, Nat.reduceEqDiff, Nat.reduceLT, Nat.reduceAdd, Nat.reduceSub, Nat.reduceMul, Int32.reduceLT, Int32.reduceLE, Int32.reduceToNatClampNeg, Int32.reduceAdd, Int32.reduceSub, implies_true, forall_const, isIn_e, bit_e, lits, hB0]
  unfold l_X10_gather_9
  refine Lo.count na (fun k s h' => eqS h h' ∧ s = nI k ∧ GC h' g (gsT h m u k) ∧ (gsT h m u k).length ≤ k) ?_ 0 (Nat.zero_le _) _ _ ⟨((eqS.rf h).sI rfl _ _).sI rfl _ _, rfl, ?_, by rw [em]; exact Nat.le_refl 0⟩
  rotate_left
  · rw [em]
    refine ⟨?_, fun j hj => absurd hj (Nat.not_lt_zero _)⟩
    simp (config := {decide := true}) only [fI_sI_e, fR_sR_e, aI_tI_e, aL_tL_e, aR_tR_e, fR_sI, aI_sI, aL_sI, aR_sI, kd_sI, ln_sI, hn_sI, hm_sI, fI_sI_n, fI_sR, aI_sR, aL_sR, aR_sR, kd_sR, ln_sR, hn_sR, hm_sR, fR_sR_n, fI_tI, fR_tI, aL_tI, aR_tI, kd_tI, ln_tI, hn_tI, hm_tI, aI_tI_n, fI_tL, fR_tL, aI_tL, aR_tL, kd_tL, ln_tL, hn_tL, hm_tL, aL_tL_n, fI_tR, fR_tR, aI_tR, aL_tR, kd_tR, ln_tR, hn_tR, hm_tR, aR_tR_n, hn_nw, hm_nw, if_true]
    first | done | rfl
  rintro k s h' hk ⟨hS, rfl, hGC, hlen⟩ K hK
  have hJ' := hJ.same hS
  have hB1 := hJ'.2.1
  unfold JS at hB1
  have hC1 := hJ'.2.2.1.1
  have E := eqS_l hS
  unfold b_X10_gather_9 n_X10_gather_58
  by_cases e : k < na
  · have c := cnF e (show na ≤ 160 by omega) (by decide)
    have q := asF hJ' e
    obtain ⟨a1, a2⟩ := at_e hW e
    have a3 : (aI h' 132 (m 132) k).toNatClampNeg = atN h m k := by unfold atN; simp only [E]
    have qp := plF hJ' a1
    have un : (dec (g 1) (aI h' 121 (m 121) (atN h m k)) = some (g 1 u)) = (aI h 121 (m 121) (atN h m k) = nI u) := by
      have : aI h' 121 (m 121) (atN h m k) = aI h 121 (m 121) (atN h m k) := by simp only [E]
      rw [this]
      rcases und_c hW (by omega) _ a1 with z | ⟨j, j1, j2⟩
      · rw [z, dec_1]
        exact propext ⟨fun w => absurd w (fun z => by cases z), fun w => absurd w.symm (nI_m1 (by omega))⟩
      · rw [j2, dec_s _ (nI_m1 (by omega)), nI_clamp (by omega)]
        refine propext ⟨fun w => ?_, fun w => ?_⟩
        · rw [inj j u j1 hu (Option.some.inj w)]
        · rw [(nI_eq (by omega) (by omega)).mp w]
    have st : stN h' m k = stN h m k := by unfold stN; simp only [E]
    have skip : ¬ (aI h 121 (m 121) (atN h m k) = nI u ∧ stN h m k) → K (nI (k + 1)) h' := by
      intro no
      have : gsT h m u (k + 1) = gsT h m u k := by
        unfold gsT
        exact bkL_cg (fun key _ => fL_n (fun w => no ⟨w.1, w.2.1⟩))
      exact hK _ _ e ⟨hS, rfl, by rw [this]; exact hGC, by rw [this]; omega⟩
    by_cases d1 : aI h 121 (m 121) (atN h m k) = nI u
    rotate_left
    · have := skip (fun w => d1 w.1)
      have u1 := eq_false d1
      rw [← un] at u1
      simp only [gI_e, gR_e, pI_e, pZ_e, pR_e, ldI_e, ldZ_e, ldL_e, ldR_e, stI_e, stZ_e, stL_e, stR_e, alN_e, nwA_e, nwO_e, dvI_e, rmI_e, oV_e, oN_e, lt_e, rZ_e, br_T, br_F, fR_sI, aI_sI, aL_sI, aR_sI, kd_sI, ln_sI, hn_sI, hm_sI, fI_sI_n, fI_sR, aI_sR, aL_sR, aR_sR, kd_sR, ln_sR, hn_sR, hm_sR, fR_sR_n, fI_tI, fR_tI, aL_tI, aR_tI, kd_tI, ln_tI, hn_tI, hm_tI, aI_tI_n, fI_tL, fR_tL, aI_tL, aR_tL, kd_tL, ln_tL, hn_tL, hm_tL, aL_tL_n, fI_tR, fR_tR, aI_tR, aL_tR, kd_tR, ln_tR, hn_tR, hm_tR, aR_tR_n, hn_nw, hm_nw, rc400, rc403, rc404, rc405, rc407, rc409, rc420, rc440, bI_0, bI_1, bI_T, bI_F, iF_T, iF_F, br_not, le_nlt, not_true_eq_false, not_false_eq_true, and_self, and_true, true_and, and_false, false_and, or_true, true_or, or_false, false_or, ne_eq, reduceCtorEq, Nat.reduceLeDiff, Nat.reduceEqDiff, Nat.reduceLT, Nat.reduceAdd, Nat.reduceSub, Nat.reduceMul, Int32.reduceLT, Int32.reduceLE, Int32.reduceToNatClampNeg, Int32.reduceAdd, Int32.reduceSub, implies_true, forall_const, isIn_e, bit_e, lits, bI_T, bI_F, bI_0, bI_1, Int32.add_zero, Int32.zero_add, if_true, if_false, Option.some.injEq, lt_irr, iF_T, iF_F, hB1, hC1, c, q, a3, qp, u1]
      exact this
    have u1 := eq_true d1
    rw [← un] at u1
    by_cases d2 : stN h m k
    rotate_left
    · have := skip (fun w => d2 w.2)
      simp only [gI_e, gR_e, pI_e, pZ_e, pR_e, ldI_e, ldZ_e, ldL_e, ldR_e, stI_e, stZ_e, stL_e, stR_e, alN_e, nwA_e, nwO_e, dvI_e, rmI_e, oV_e, oN_e, lt_e, rZ_e, br_T, br_F, fR_sI, aI_sI, aL_sI, aR_sI, kd_sI, ln_sI, hn_sI, hm_sI, fI_sI_n, fI_sR, aI_sR, aL_sR, aR_sR, kd_sR, ln_sR, hn_sR, hm_sR, fR_sR_n, fI_tI, fR_tI, aL_tI, aR_tI, kd_tI, ln_tI, hn_tI, hm_tI, aI_tI_n, fI_tL, fR_tL, aI_tL, aR_tL, kd_tL, ln_tL, hn_tL, hm_tL, aL_tL_n, fI_tR, fR_tR, aI_tR, aL_tR, kd_tR, ln_tR, hn_tR, hm_tR, aR_tR_n, hn_nw, hm_nw, rc400, rc403, rc404, rc405, rc407, rc409, rc420, rc440, bI_0, bI_1, bI_T, bI_F, iF_T, iF_F, br_not, le_nlt, not_true_eq_false, not_false_eq_true, and_self, and_true, true_and, and_false, false_and, or_true, true_or, or_false, false_or, ne_eq, reduceCtorEq, Nat.reduceLeDiff, Nat.reduceEqDiff, Nat.reduceLT, Nat.reduceAdd, Nat.reduceSub, Nat.reduceMul, Int32.reduceLT, Int32.reduceLE, Int32.reduceToNatClampNeg, Int32.reduceAdd, Int32.reduceSub, implies_true, forall_const, isIn_e, bit_e, lits, bI_T, bI_F, bI_0, bI_1, Int32.add_zero, Int32.zero_add, if_true, if_false, Option.some.injEq, lt_irr, iF_T, iF_F, hB1, hC1, c, q, a3, qp, u1, standsC_e hJ' e, st, d2]
      exact this
    simp only [gI_e, gR_e, pI_e, pZ_e, pR_e, ldI_e, ldZ_e, ldL_e, ldR_e, stI_e, stZ_e, stL_e, stR_e, alN_e, nwA_e, nwO_e, dvI_e, rmI_e, oV_e, oN_e, lt_e, rZ_e, br_T, br_F, fR_sI, aI_sI, aL_sI, aR_sI, kd_sI, ln_sI, hn_sI, hm_sI, fI_sI_n, fI_sR, aI_sR, aL_sR, aR_sR, kd_sR, ln_sR, hn_sR, hm_sR, fR_sR_n, fI_tI, fR_tI, aL_tI, aR_tI, kd_tI, ln_tI, hn_tI, hm_tI, aI_tI_n, fI_tL, fR_tL, aI_tL, aR_tL, kd_tL, ln_tL, hn_tL, hm_tL, aL_tL_n, fI_tR, fR_tR, aI_tR, aL_tR, kd_tR, ln_tR, hn_tR, hm_tR, aR_tR_n, hn_nw, hm_nw, rc400, rc403, rc404, rc405, rc407, rc409, rc420, rc440, bI_0, bI_1, bI_T, bI_F, iF_T, iF_F, br_not, le_nlt, not_true_eq_false, not_false_eq_true, and_self, and_true, true_and, and_false, false_and, or_true, true_or, or_false, false_or, ne_eq, reduceCtorEq, Nat.reduceLeDiff, Nat.reduceEqDiff, Nat.reduceLT, Nat.reduceAdd, Nat.reduceSub, Nat.reduceMul, Int32.reduceLT, Int32.reduceLE, Int32.reduceToNatClampNeg, Int32.reduceAdd, Int32.reduceSub, implies_true, forall_const, isIn_e, bit_e, lits, bI_T, bI_F, bI_0, bI_1, Int32.add_zero, Int32.zero_add, if_true, if_false, Option.some.injEq, lt_irr, iF_T, iF_F, hB1, hC1, c, q, a3, qp, u1, standsC_e hJ' e, st, d2]
    have kc : kyN h m k < 3072 := by
      obtain ⟨w, v, p, w1, v1, p1, -, -, -, e4⟩ := ky_e hW (by omega) e
      omega
    have yes : gsP h m u (kyN h m k) k := ⟨d1, d2, rfl⟩
    have f0 : fL (gsP h m u (kyN h m k)) k = [] := fL_0 (fun i hi w => by have := gsP_one hW (by omega) (by omega) e w yes; omega)
    obtain ⟨t1, t2⟩ := bkL_ins (F := fun key => fL (gsP h m u key) k) (F' := fun key => fL (gsP h m u key) (k + 1)) (i := k) kc f0 (by show fL _ (k + 1) = _; rw [fL_y yes, f0]; rfl) (fun key hk2 => fL_n (fun w => hk2 w.2.2.symm))
    have t1' : gsT h m u k = _ := t1
    have t2' : gsT h m u (k + 1) = _ := t2
    have ky : ∀ a, kyN h' m a = kyN h m a := fun a => by unfold kyN whN wmN atN; simp only [E]
    rw [t1'] at hGC hlen
    refine insC_e hJ' hGC e (fun b hb => ?_) (fun b hb => ?_) (by omega) _ ?_
    · obtain ⟨key, k1, k2⟩ := bkL_mem hb
      obtain ⟨k3, k4⟩ := fL_mem k2
      have := k4.2.2
      rw [ky, ky]
      exact ⟨by omega, by omega⟩
    · obtain ⟨key, k1, -, k2⟩ := bkR_mem hb
      obtain ⟨k3, k4⟩ := fL_mem k2
      have := k4.2.2
      rw [ky, ky]
      exact ⟨by omega, by omega⟩
    · intro h2 e2 g2
      refine hK _ _ e ⟨hS.tr e2, rfl, by rw [t2']; exact g2, ?_⟩
      rw [t2', List.length_append, List.length_cons]
      rw [List.length_append] at hlen
      omega
  · obtain rfl : k = na := by omega
    simp only [gI_e, gR_e, pI_e, pZ_e, pR_e, ldI_e, ldZ_e, ldL_e, ldR_e, stI_e, stZ_e, stL_e, stR_e, alN_e, nwA_e, nwO_e, dvI_e, rmI_e, oV_e, oN_e, lt_e, rZ_e, br_T, br_F, fR_sI, aI_sI, aL_sI, aR_sI, kd_sI, ln_sI, hn_sI, hm_sI, fI_sI_n, fI_sR, aI_sR, aL_sR, aR_sR, kd_sR, ln_sR, hn_sR, hm_sR, fR_sR_n, fI_tI, fR_tI, aL_tI, aR_tI, kd_tI, ln_tI, hn_tI, hm_tI, aI_tI_n, fI_tL, fR_tL, aI_tL, aR_tL, kd_tL, ln_tL, hn_tL, hm_tL, aL_tL_n, fI_tR, fR_tR, aI_tR, aL_tR, kd_tR, ln_tR, hn_tR, hm_tR, aR_tR_n, hn_nw, hm_nw, rc400, rc403, rc404, rc405, rc407, rc409, rc420, rc440, bI_0, bI_1, bI_T, bI_F, iF_T, iF_F, br_not, le_nlt, not_true_eq_false, not_false_eq_true, and_self, and_true, true_and, and_false, false_and, or_true, true_or, or_false, false_or, ne_eq, reduceCtorEq, Nat.reduceLeDiff, Nat.reduceEqDiff, Nat.reduceLT, Nat.reduceAdd, Nat.reduceSub, Nat.reduceMul, Int32.reduceLT, Int32.reduceLE, Int32.reduceToNatClampNeg, Int32.reduceAdd, Int32.reduceSub, implies_true, forall_const, isIn_e, bit_e, lits, hB1, hC1, lt_irr]
    exact hQ h' hS hGC hlen
end GATE
