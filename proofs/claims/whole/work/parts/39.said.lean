/-- those of the first so many that something holds of -/
noncomputable def fL (P : Nat → Prop) (k : Nat) : List Nat := (List.range k).filter (fun a => @decide (P a) (Classical.propDecidable _))
theorem fL_len (P : Nat → Prop) (k : Nat) : (fL P k).length = cN P k := filt_len P (fun a => Classical.propDecidable _) k
theorem fL_y {P : Nat → Prop} {k : Nat} (c : P k) : fL P (k + 1) = fL P k ++ [k] := by
  unfold fL
  rw [List.range_succ, List.filter_append]
  congr 1
  exact List.filter_cons_of_pos (by exact @decide_eq_true _ (Classical.propDecidable _) c)
theorem fL_n {P : Nat → Prop} {k : Nat} (c : ¬ P k) : fL P (k + 1) = fL P k := by
  unfold fL
  rw [List.range_succ, List.filter_append]
  have : [k].filter (fun a => @decide (P a) (Classical.propDecidable _)) = [] := by
    rw [List.filter_cons_of_neg]
    · rfl
    · intro w
      exact c (@of_decide_eq_true _ (Classical.propDecidable _) w)
  rw [this, List.append_nil]
theorem fL_lt {P : Nat → Prop} {k i : Nat} (hi : i < (fL P k).length) : (fL P k).getD i 0 < k ∧ P ((fL P k).getD i 0) := by
  have e : (fL P k).getD i 0 = (fL P k)[i] := by
    rw [List.getD_eq_getElem?_getD, List.getElem?_eq_getElem hi]
    rfl
  rw [e]
  have hm := List.getElem_mem hi
  unfold fL at hm
  rw [List.mem_filter] at hm
  exact ⟨List.mem_range.mp hm.1, @of_decide_eq_true _ (Classical.propDecidable _) hm.2⟩
theorem fL_le (P : Nat → Prop) (k : Nat) : (fL P k).length ≤ k := by
  rw [fL_len]
  exact cN_le P k
theorem acI_fL (P : Nat → Prop) (f : Nat → Int32) : ∀ k, acI (fun i => f ((fL P k).getD i 0)) (fL P k).length = acI (fun b => iF (P b) (f b) 0) k := by
  intro k
  induction k with
  | zero => rfl
  | succ k ih =>
    rw [acI]
    by_cases c : P k
    · rw [iF_y c, fL_y c, List.length_append, ← ih]
      show acI _ ((fL P k).length + 1) = _
      rw [acI, gD_r]
      congr 1
      exact acI_congr (fun i hi => by rw [gD_l hi])
    · rw [iF_n c, fL_n c, ih, Int32.add_zero]
theorem acI_swap (G : Nat → Nat → Int32) (k : Nat) : ∀ n, acI (fun a => acI (fun b => G a b) n) k = acI (fun b => acI (fun a => G a b) k) n := by
  intro n
  induction n with
  | zero => exact acI_0 (fun _ _ => rfl)
  | succ n ih =>
    rw [acI, ← ih, ← acI_p]
    rfl
def abI (v : Int32) : Int32 := if 0 ≤ v then v else 0 - v
section SAID
variable {x y b0 s0 np na nm nr ne : Nat} {g : Nat → Nat → Nat} {m : Nat → Nat} {h : Hp}
noncomputable def saV (h : Hp) (m : Nat → Nat) (na b : Nat) (v : Int32) : Int32 := hbA (aI h 120 (m 120)) (aI h 124 (m 124)) (aI h 132 (m 132)) (aI h 139 (m 139)) na b * (100 - abI (aI h 135 (m 135) b - v))
theorem saV_same {h h1 : Hp} (e : eqS h h1) (m : Nat → Nat) : saV h1 m = saV h m := by
  have E := eqS_l e
  funext na b v
  unfold saV
  simp only [E]
theorem saysAt_e (hJ : JA x y b0 s0 np na nm nr ne g m h) {b : Nat} (hb : b < na) (v : Int32) (Q : Int32 → Hp → Prop) (hQ : Q (saV h m na b v) h) : w_X0_saysAt (some (g 3 b)) v h Q := by
  have q := asF hJ hb
  have e7 := hJ.2.2.2.2.2.2.1.e_hb b hb
  unfold w_X0_saysAt n_X0_saysAt_0
  simp only [gI_e, lt_e, q, e7]
  exact hQ
theorem saidAt_e (hR : RJ y np na nm nr ne m h) {L : List Nat} (h160 : L.length ≤ 160) (hL : ∀ i, i < L.length → L.getD i 0 < na) (hn : fI h 1479 y = nI L.length) (hT : ∀ i, i < L.length → aI h 164 (m 164) i = nI (L.getD i 0)) (v : Int32) (Q : Int32 → Hp → Prop) (hQ : Q (acI (fun i => saV h m na (L.getD i 0) v) L.length) h) : w_X11_saidAt (some y) v h Q := by
  have hA := hR.1
  unfold JM at hA
  have hbd := hR.2.2.1
  unfold w_X11_saidAt n_X11_saidAt_0 l_X11_saidAt_4
  refine Lo.run L.length (fun k => (acI (fun i => saV h m na (L.getD i 0) v) k, nI k)) (fun _ => h) ?_ ?_ rfl rfl
  · intro k hk K hK
    have c := cnF hk h160 (by decide)
    have l := hL k hk
    have cl := cnF l (show na ≤ 160 by omega) (by decide)
    unfold b_X11_saidAt_4
    simp only [gI_e, gR_e, pI_e, pZ_e, pR_e, ldI_e, ldZ_e, ldL_e, ldR_e, stI_e, stZ_e, stL_e, stR_e, alN_e, nwA_e, nwO_e, dvI_e, rmI_e, oV_e, oN_e, lt_e, rZ_e, br_T, br_F, fR_sI, aI_sI, aL_sI, aR_sI, kd_sI, ln_sI, hn_sI, hm_sI, fI_sI_n, fI_sR, aI_sR, aL_sR, aR_sR, kd_sR, ln_sR, hn_sR, hm_sR, fR_sR_n, fI_tI, fR_tI, aL_tI, aR_tI, kd_tI, ln_tI, hn_tI, hm_tI, aI_tI_n, fI_tL, fR_tL, aI_tL, aR_tL, kd_tL, ln_tL, hn_tL, hm_tL, aL_tL_n, fI_tR, fR_tR, aI_tR, aL_tR, kd_tR, ln_tR, hn_tR, hm_tR, aR_tR_n, hn_nw, hm_nw, rc400, rc403, rc404, rc405, rc407, rc409, rc420, rc440, bI_0, bI_1, bI_T, bI_F, iF_T, iF_F, br_not, le_nlt, not_true_eq_false, not_false_eq_true, and_self, and_true, true_and, and_false, false_and, or_true, true_or, or_false, false_or, ne_eq, reduceCtorEq, Nat.reduceLeDiff, Nat.reduceEqDiff, Nat.reduceLT, Nat.reduceAdd, Nat.reduceSub, Nat.reduceMul, Int32.reduceLT, Int32.reduceLE, Int32.reduceToNatClampNeg, Int32.reduceAdd, Int32.reduceSub, implies_true, forall_const, isIn_e, bit_e, lits, hA, hn, c, hT k hk, cl]
    refine hearthsBehind_e hR l _ ?_
    unfold n_X11_saidAt_53
    have fin : ∀ w, abI (aI h 135 (m 135) (L.getD k 0) - v) = w → K (acI (fun i => saV h m na (L.getD i 0) v) k + hbA (aI h 120 (m 120)) (aI h 124 (m 124)) (aI h 132 (m 132)) (aI h 139 (m 139)) na (L.getD k 0) * (100 - w), nI (k + 1)) h := by
      intro w ew
      rw [← ew]
      exact hK
    simp only [lt_e, c]
    by_cases d : (0 : Int32) ≤ aI h 135 (m 135) (L.getD k 0) - v
    · have := fin _ (if_pos d)
      have d2 : ¬ aI h 135 (m 135) (L.getD k 0) - v < 0 := Int32.not_lt.mpr d
      simp only [bI_0, bI_1, bI_T, bI_F, iF_T, iF_F, br_not, le_nlt, not_true_eq_false, not_false_eq_true, and_self, and_true, true_and, and_false, false_and, or_true, true_or, or_false, false_or, ne_eq, reduceCtorEq, Nat.reduceLeDiff, Nat.reduceEqDiff, Nat.reduceLT, Nat.reduceAdd, Nat.reduceSub, Nat.reduceMul, Int32.reduceLT, Int32.reduceLE, Int32.reduceToNatClampNeg, Int32.reduceAdd, Int32.reduceSub, implies_true, forall_const, d, d2, br_T, br_F]
      exact this
    · have := fin _ (if_neg d)
      have d2 : aI h 135 (m 135) (L.getD k 0) - v < 0 := Int32.not_le.mp d
      rw [Int32.zero_sub] at this
      simp only [bI_0, bI_1, bI_T, bI_F, iF_T, iF_F, br_not, le_nlt, not_true_eq_false, not_false_eq_true, and_self, and_true, true_and, and_false, false_and, or_true, true_or, or_false, false_or, ne_eq, reduceCtorEq, Nat.reduceLeDiff, Nat.reduceEqDiff, Nat.reduceLT, Nat.reduceAdd, Nat.reduceSub, Nat.reduceMul, Int32.reduceLT, Int32.reduceLE, Int32.reduceToNatClampNeg, Int32.reduceAdd, Int32.reduceSub, implies_true, forall_const, d, d2, br_T, br_F]
      exact this
  · intro K
    unfold b_X11_saidAt_4
    simp only [gI_e, gR_e, pI_e, pZ_e, pR_e, ldI_e, ldZ_e, ldL_e, ldR_e, stI_e, stZ_e, stL_e, stR_e, alN_e, nwA_e, nwO_e, dvI_e, rmI_e, oV_e, oN_e, lt_e, rZ_e, br_T, br_F, fR_sI, aI_sI, aL_sI, aR_sI, kd_sI, ln_sI, hn_sI, hm_sI, fI_sI_n, fI_sR, aI_sR, aL_sR, aR_sR, kd_sR, ln_sR, hn_sR, hm_sR, fR_sR_n, fI_tI, fR_tI, aL_tI, aR_tI, kd_tI, ln_tI, hn_tI, hm_tI, aI_tI_n, fI_tL, fR_tL, aI_tL, aR_tL, kd_tL, ln_tL, hn_tL, hm_tL, aL_tL_n, fI_tR, fR_tR, aI_tR, aL_tR, kd_tR, ln_tR, hn_tR, hm_tR, aR_tR_n, hn_nw, hm_nw, rc400, rc403, rc404, rc405, rc407, rc409, rc420, rc440, bI_0, bI_1, bI_T, bI_F, iF_T, iF_F, br_not, le_nlt, not_true_eq_false, not_false_eq_true, and_self, and_true, true_and, and_false, false_and, or_true, true_or, or_false, false_or, ne_eq, reduceCtorEq, Nat.reduceLeDiff, Nat.reduceEqDiff, Nat.reduceLT, Nat.reduceAdd, Nat.reduceSub, Nat.reduceMul, Int32.reduceLT, Int32.reduceLE, Int32.reduceToNatClampNeg, Int32.reduceAdd, Int32.reduceSub, implies_true, forall_const, isIn_e, bit_e, lits, hA, hn, lt_irr]
    exact hQ
def inP (h : Hp) (m : Nat → Nat) (a b : Nat) : Prop := aI h 139 (m 139) b = nI a
/-- what all books that went into those of a place are said to have said -/
noncomputable def sdV (h : Hp) (m : Nat → Nat) (na p k : Nat) : Int32 := acI (fun a => iF (aI h 132 (m 132) a = nI p) (acI (fun b => iF (inP h m a b) (saV h m na b (aI h 135 (m 135) a)) 0) na) 0) k
theorem saidR_e (hR : RJ y np na nm nr ne m h) {p : Nat} (Q : Int32 → Hp → Prop) (hQ : ∀ h', eqS h h' → Q (sdV h m na p na) h') : l_X11_said_23 (some y) (nI p) 0 0 h Q := by
  unfold l_X11_said_23
  refine Lo.count na (fun k s h' => eqS h h' ∧ s = (sdV h m na p k, nI k)) ?_ 0 (Nat.zero_le _) _ _ ⟨eqS.rf h, rfl⟩
  rintro k s h' hk ⟨hS, rfl⟩ K hK
  have hR' := RJ.ofS hR hS
  have hA := hR'.1
  unfold JM at hA
  have hC := hR'.2.1
  have hbd := hR'.2.2.1
  have E := eqS_l hS
  unfold b_X11_said_23 n_X11_said_109
  by_cases e : k < na
  · have c := cnF e (show na ≤ 160 by omega) (by decide)
    have sv : sdV h m na p (k + 1) = sdV h m na p k + iF (aI h 132 (m 132) k = nI p) (acI (fun b => iF (inP h m k b) (saV h m na b (aI h 135 (m 135) k)) 0) na) 0 := rfl
    by_cases d : aI h 132 (m 132) k = nI p
    rotate_left
    · rw [iF_n d, Int32.add_zero] at sv
      simp only [gI_e, gR_e, pI_e, pZ_e, pR_e, ldI_e, ldZ_e, ldL_e, ldR_e, stI_e, stZ_e, stL_e, stR_e, alN_e, nwA_e, nwO_e, dvI_e, rmI_e, oV_e, oN_e, lt_e, rZ_e, br_T, br_F, fR_sI, aI_sI, aL_sI, aR_sI, kd_sI, ln_sI, hn_sI, hm_sI, fI_sI_n, fI_sR, aI_sR, aL_sR, aR_sR, kd_sR, ln_sR, hn_sR, hm_sR, fR_sR_n, fI_tI, fR_tI, aL_tI, aR_tI, kd_tI, ln_tI, hn_tI, hm_tI, aI_tI_n, fI_tL, fR_tL, aI_tL, aR_tL, kd_tL, ln_tL, hn_tL, hm_tL, aL_tL_n, fI_tR, fR_tR, aI_tR, aL_tR, kd_tR, ln_tR, hn_tR, hm_tR, aR_tR_n, hn_nw, hm_nw, rc400, rc403, rc404, rc405, rc407, rc409, rc420, rc440, bI_0, bI_1, bI_T, bI_F, iF_T, iF_F, br_not, le_nlt, not_true_eq_false, not_false_eq_true, and_self, and_true, true_and, and_false, false_and, or_true, true_or, or_false, false_or, ne_eq, reduceCtorEq, Nat.reduceLeDiff, Nat.reduceEqDiff, Nat.reduceLT, Nat.reduceAdd, Nat.reduceSub, Nat.reduceMul, Int32.reduceLT, Int32.reduceLE, Int32.reduceToNatClampNeg, Int32.reduceAdd, Int32.reduceSub, implies_true, forall_const, isIn_e, bit_e, lits, hA, hC, c, E, d]
      exact hK _ _ e ⟨hS, by rw [sv]⟩
    rw [iF_y d] at sv
    simp only [gI_e, gR_e, pI_e, pZ_e, pR_e, ldI_e, ldZ_e, ldL_e, ldR_e, stI_e, stZ_e, stL_e, stR_e, alN_e, nwA_e, nwO_e, dvI_e, rmI_e, oV_e, oN_e, lt_e, rZ_e, br_T, br_F, fR_sI, aI_sI, aL_sI, aR_sI, kd_sI, ln_sI, hn_sI, hm_sI, fI_sI_n, fI_sR, aI_sR, aL_sR, aR_sR, kd_sR, ln_sR, hn_sR, hm_sR, fR_sR_n, fI_tI, fR_tI, aL_tI, aR_tI, kd_tI, ln_tI, hn_tI, hm_tI, aI_tI_n, fI_tL, fR_tL, aI_tL, aR_tL, kd_tL, ln_tL, hn_tL, hm_tL, aL_tL_n, fI_tR, fR_tR, aI_tR, aL_tR, kd_tR, ln_tR, hn_tR, hm_tR, aR_tR_n, hn_nw, hm_nw, rc400, rc403, rc404, rc405, rc407, rc409, rc420, rc440, bI_0, bI_1, bI_T, bI_F, iF_T, iF_F, br_not, le_nlt, not_true_eq_false, not_false_eq_true, and_self, and_true, true_and, and_false, false_and, or_true, true_or, or_false, false_or, ne_eq, reduceCtorEq, Nat.reduceLeDiff, Nat.reduceEqDiff, Nat.reduceLT, Nat.reduceAdd, Nat.reduceSub, Nat.reduceMul, Int32.reduceLT, Int32.reduceLE, Int32.reduceToNatClampNeg, Int32.reduceAdd, Int32.reduceSub, implies_true, forall_const, isIn_e, bit_e, lits, hA, hC, c, E, d]
    unfold l_X11_said_52
    refine Lo.count na (fun i s2 h2 => eqS h h2 ∧ s2 = nI i ∧ fI h2 1479 y = nI (fL (inP h m k) i).length ∧ ∀ j, j < (fL (inP h m k) i).length → aI h2 164 (m 164) j = nI ((fL (inP h m k) i).getD j 0)) ?_ 0 (Nat.zero_le _) _ _ ⟨hS.sI rfl _ _, rfl, by rw [fI_sI_e, if_pos rfl]; rfl, fun j hj => absurd hj (Nat.not_lt_zero _)⟩
    rintro i s2 h2 hi ⟨hS2, rfl, hn, hT⟩ K2 hK2
    have hR2 := RJ.ofS hR hS2
    have hA2 := hR2.1
    unfold JM at hA2
    have hC2 := hR2.2.1
    have E2 := eqS_l hS2
    have hle := fL_le (inP h m k) i
    unfold b_X11_said_52 n_X11_said_90
    by_cases e2 : i < na
    · have c2 := cnF e2 (show na ≤ 160 by omega) (by decide)
      by_cases d2 : aI h 139 (m 139) i = nI k
      · have cl := cnF (show (fL (inP h m k) i).length < 160 by omega) (Nat.le_refl 160) (by decide)
        have yes : inP h m k i := d2
        simp (config := {decide := true}) only [gI_e, gR_e, pI_e, pZ_e, pR_e, ldI_e, ldZ_e, ldL_e, ldR_e, stI_e, stZ_e, stL_e, stR_e, alN_e, nwA_e, nwO_e, dvI_e, rmI_e, oV_e, oN_e, lt_e, rZ_e, br_T, br_F, fR_sI, aI_sI, aL_sI, aR_sI, kd_sI, ln_sI, hn_sI, hm_sI, fI_sI_n, fI_sR, aI_sR, aL_sR, aR_sR, kd_sR, ln_sR, hn_sR, hm_sR, fR_sR_n, fI_tI, fR_tI, aL_tI, aR_tI, kd_tI, ln_tI, hn_tI, hm_tI, aI_tI_n, fI_tL, fR_tL, aI_tL, aR_tL, kd_tL, ln_tL, hn_tL, hm_tL, aL_tL_n, fI_tR, fR_tR, aI_tR, aL_tR, kd_tR, ln_tR, hn_tR, hm_tR, aR_tR_n, hn_nw, hm_nw, rc400, rc403, rc404, rc405, rc407, rc409, rc420, rc440, bI_0, bI_1, bI_T, bI_F, iF_T, iF_F, br_not, le_nlt, not_true_eq_false, not_false_eq_true, and_self, and_true, true_and, and_false, false_and, or_true, true_or, or_false, false_or, ne_eq, reduceCtorEq, Nat.reduceLeDiff, Nat.reduceEqDiff, Nat.reduceLT, Nat.reduceAdd, Nat.reduceSub, Nat.reduceMul, Int32.reduceLT, Int32.reduceLE, Int32.reduceToNatClampNeg, Int32.reduceAdd, Int32.reduceSub, implies_true, forall_const, isIn_e, bit_e, lits, hA2, hC2, c2, cl, E2, d2, hn]
        refine hK2 _ _ e2 ⟨(hS2.sI rfl _ _).tI rfl _ _ _, rfl, ?_, ?_⟩
        · rw [fL_y yes, List.length_append]
          simp (config := {decide := true}) only [fR_sI, aI_sI, aL_sI, aR_sI, kd_sI, ln_sI, hn_sI, hm_sI, fI_sI_n, fI_sR, aI_sR, aL_sR, aR_sR, kd_sR, ln_sR, hn_sR, hm_sR, fR_sR_n, fI_tI, fR_tI, aL_tI, aR_tI, kd_tI, ln_tI, hn_tI, hm_tI, aI_tI_n, fI_tL, fR_tL, aI_tL, aR_tL, kd_tL, ln_tL, hn_tL, hm_tL, aL_tL_n, fI_tR, fR_tR, aI_tR, aL_tR, kd_tR, ln_tR, hn_tR, hm_tR, aR_tR_n, hn_nw, hm_nw, fI_sI_e, fR_sR_e, aI_tI_e, aL_tL_e, aR_tR_e, if_true]
          rfl
        · rw [fL_y yes]
          intro j hj
          rw [List.length_append] at hj
          have hj2 : j < (fL (inP h m k) i).length + 1 := hj
          rw [aI_tI_e]
          by_cases z : j = (fL (inP h m k) i).length
          · rw [if_pos ⟨rfl, z⟩, z, gD_r]
          · rw [if_neg (fun w => z w.2), gD_l (by omega)]
            exact hT j (by omega)
      · have no : ¬ inP h m k i := d2
        simp (config := {decide := true}) only [gI_e, gR_e, pI_e, pZ_e, pR_e, ldI_e, ldZ_e, ldL_e, ldR_e, stI_e, stZ_e, stL_e, stR_e, alN_e, nwA_e, nwO_e, dvI_e, rmI_e, oV_e, oN_e, lt_e, rZ_e, br_T, br_F, fR_sI, aI_sI, aL_sI, aR_sI, kd_sI, ln_sI, hn_sI, hm_sI, fI_sI_n, fI_sR, aI_sR, aL_sR, aR_sR, kd_sR, ln_sR, hn_sR, hm_sR, fR_sR_n, fI_tI, fR_tI, aL_tI, aR_tI, kd_tI, ln_tI, hn_tI, hm_tI, aI_tI_n, fI_tL, fR_tL, aI_tL, aR_tL, kd_tL, ln_tL, hn_tL, hm_tL, aL_tL_n, fI_tR, fR_tR, aI_tR, aL_tR, kd_tR, ln_tR, hn_tR, hm_tR, aR_tR_n, hn_nw, hm_nw, rc400, rc403, rc404, rc405, rc407, rc409, rc420, rc440, bI_0, bI_1, bI_T, bI_F, iF_T, iF_F, br_not, le_nlt, not_true_eq_false, not_false_eq_true, and_self, and_true, true_and, and_false, false_and, or_true, true_or, or_false, false_or, ne_eq, reduceCtorEq, Nat.reduceLeDiff, Nat.reduceEqDiff, Nat.reduceLT, Nat.reduceAdd, Nat.reduceSub, Nat.reduceMul, Int32.reduceLT, Int32.reduceLE, Int32.reduceToNatClampNeg, Int32.reduceAdd, Int32.reduceSub, implies_true, forall_const, isIn_e, bit_e, lits, hA2, hC2, c2, E2, d2]
        refine hK2 _ _ e2 ⟨hS2, rfl, ?_, ?_⟩
        · rw [fL_n no]; exact hn
        · rw [fL_n no]; exact hT
    · obtain rfl : i = na := by omega
      simp (config := {decide := true}) only [gI_e, gR_e, pI_e, pZ_e, pR_e, ldI_e, ldZ_e, ldL_e, ldR_e, stI_e, stZ_e, stL_e, stR_e, alN_e, nwA_e, nwO_e, dvI_e, rmI_e, oV_e, oN_e, lt_e, rZ_e, br_T, br_F, fR_sI, aI_sI, aL_sI, aR_sI, kd_sI, ln_sI, hn_sI, hm_sI, fI_sI_n, fI_sR, aI_sR, aL_sR, aR_sR, kd_sR, ln_sR, hn_sR, hm_sR, fR_sR_n, fI_tI, fR_tI, aL_tI, aR_tI, kd_tI, ln_tI, hn_tI, hm_tI, aI_tI_n, fI_tL, fR_tL, aI_tL, aR_tL, kd_tL, ln_tL, hn_tL, hm_tL, aL_tL_n, fI_tR, fR_tR, aI_tR, aL_tR, kd_tR, ln_tR, hn_tR, hm_tR, aR_tR_n, hn_nw, hm_nw, rc400, rc403, rc404, rc405, rc407, rc409, rc420, rc440, bI_0, bI_1, bI_T, bI_F, iF_T, iF_F, br_not, le_nlt, not_true_eq_false, not_false_eq_true, and_self, and_true, true_and, and_false, false_and, or_true, true_or, or_false, false_or, ne_eq, reduceCtorEq, Nat.reduceLeDiff, Nat.reduceEqDiff, Nat.reduceLT, Nat.reduceAdd, Nat.reduceSub, Nat.reduceMul, Int32.reduceLT, Int32.reduceLE, Int32.reduceToNatClampNeg, Int32.reduceAdd, Int32.reduceSub, implies_true, forall_const, isIn_e, bit_e, lits, hA2, hC2, lt_irr, c]
      refine saidAt_e hR2 (by omega) (fun j hj => (fL_lt hj).1) hn hT _ _ ?_
      rw [saV_same hS2]
      rw [acI_fL (inP h m k) (fun b => saV h m i b (aI h2 135 (m 135) k)), show aI h2 135 (m 135) k = aI h 135 (m 135) k by simp only [E2], ← sv]
      simp only [n_X11_said_109, lt_e, c]
      exact hK _ _ e ⟨hS2, rfl⟩
  · obtain rfl : k = na := by omega
    simp only [gI_e, gR_e, pI_e, pZ_e, pR_e, ldI_e, ldZ_e, ldL_e, ldR_e, stI_e, stZ_e, stL_e, stR_e, alN_e, nwA_e, nwO_e, dvI_e, rmI_e, oV_e, oN_e, lt_e, rZ_e, br_T, br_F, fR_sI, aI_sI, aL_sI, aR_sI, kd_sI, ln_sI, hn_sI, hm_sI, fI_sI_n, fI_sR, aI_sR, aL_sR, aR_sR, kd_sR, ln_sR, hn_sR, hm_sR, fR_sR_n, fI_tI, fR_tI, aL_tI, aR_tI, kd_tI, ln_tI, hn_tI, hm_tI, aI_tI_n, fI_tL, fR_tL, aI_tL, aR_tL, kd_tL, ln_tL, hn_tL, hm_tL, aL_tL_n, fI_tR, fR_tR, aI_tR, aL_tR, kd_tR, ln_tR, hn_tR, hm_tR, aR_tR_n, hn_nw, hm_nw, rc400, rc403, rc404, rc405, rc407, rc409, rc420, rc440, bI_0, bI_1, bI_T, bI_F, iF_T, iF_F, br_not, le_nlt, not_true_eq_false, not_false_eq_true, and_self, and_true, true_and, and_false, false_and, or_true, true_or, or_false, false_or, ne_eq, reduceCtorEq, Nat.reduceLeDiff, Nat.reduceEqDiff, Nat.reduceLT, Nat.reduceAdd, Nat.reduceSub, Nat.reduceMul, Int32.reduceLT, Int32.reduceLE, Int32.reduceToNatClampNeg, Int32.reduceAdd, Int32.reduceSub, implies_true, forall_const, isIn_e, bit_e, lits, hA, hC, lt_irr]
    exact hQ h' hS
/-- a book that went into one of a place -/
def toP (h : Hp) (m : Nat → Nat) (p b : Nat) : Prop := ¬ aI h 139 (m 139) b = -1 ∧ aI h 132 (m 132) (aI h 139 (m 139) b).toNatClampNeg = nI p
noncomputable def sdC (h : Hp) (m : Nat → Nat) (na p k : Nat) : Int32 := acI (fun b => iF (toP h m p b) (saV h m na b (aI h 135 (m 135) (aI h 139 (m 139) b).toNatClampNeg)) 0) k
theorem sd_eq (hW : JW y np na nm nr ne m h) (hna : na ≤ 160) (p : Nat) : sdV h m na p na = sdC h m na p na := by
  have e1 : sdV h m na p na = acI (fun a => acI (fun b => iF (aI h 132 (m 132) a = nI p ∧ inP h m a b) (saV h m na b (aI h 135 (m 135) a)) 0) na) na := by
    unfold sdV
    apply acI_congr
    intro a _
    by_cases c : aI h 132 (m 132) a = nI p
    · rw [iF_y c]
      apply acI_congr
      intro b _
      by_cases c2 : inP h m a b
      · rw [iF_y c2, iF_y ⟨c, c2⟩]
      · rw [iF_n c2, iF_n (fun w => c2 w.2)]
    · rw [iF_n c]
      exact (acI_0 (fun b _ => iF_n (fun w => c w.1) _ _)).symm
  rw [e1, acI_swap]
  unfold sdC
  apply acI_congr
  intro b hb
  rcases int_c hW b hb with e | ⟨j, j1, j2⟩
  · rw [iF_n (fun w => w.1 e)]
    apply acI_0
    intro a ha
    refine iF_n (fun w => ?_) _ _
    have w2 : aI h 139 (m 139) b = nI a := w.2
    rw [e] at w2
    exact nI_m1 (by omega) w2.symm
  · have n1 : ¬ aI h 139 (m 139) b = -1 := by rw [j2]; exact nI_m1 (by omega)
    have ej : (aI h 139 (m 139) b).toNatClampNeg = j := by rw [j2]; exact nI_clamp (by omega)
    rw [acI_one (p := j) j1 (fun a ha na' => iF_n (fun w => na' (by
      have w2 : aI h 139 (m 139) b = nI a := w.2
      rw [j2] at w2
      exact ((nI_eq (by omega) (by omega)).mp w2).symm)) _ _), ej]
    by_cases c : aI h 132 (m 132) j = nI p
    · rw [iF_y ⟨c, j2⟩, iF_y ⟨n1, by rw [ej]; exact c⟩]
    · rw [iF_n (fun w => c w.1), iF_n (fun w => c (by have := w.2; rw [ej] at this; exact this))]
theorem saidC_e (hJ : JA x y b0 s0 np na nm nr ne g m h) {p : Nat} (hpp : p < np) (Q : Int32 → Hp → Prop) (hQ : Q (sdC h m na p na) h) : l_X10_said_24 (some x) (some (g 1 p)) 0 0 h Q := by
  have hB := hJ.2.1
  unfold JS at hB
  have hC := hJ.2.2.1.1
  have hbd := hJ.2.2.1.2
  have hW := hJ.2.2.2.2.2.1
  unfold l_X10_said_24
  refine Lo.run na (fun k => (sdC h m na p k, nI k)) (fun _ => h) ?_ ?_ rfl rfl
  · intro k hk K hK
    have c := cnF hk (show na ≤ 160 by omega) (by decide)
    have q := asF hJ hk
    have sv : sdC h m na p (k + 1) = sdC h m na p k + iF (toP h m p k) (saV h m na k (aI h 135 (m 135) (aI h 139 (m 139) k).toNatClampNeg)) 0 := rfl
    rw [sv] at hK
    unfold b_X10_said_24 n_X10_said_78
    rcases int_c hW k hk with e | ⟨j, j1, j2⟩
    · rw [iF_n (fun w => w.1 e), Int32.add_zero] at hK
      simp only [gI_e, gR_e, pI_e, pZ_e, pR_e, ldI_e, ldZ_e, ldL_e, ldR_e, stI_e, stZ_e, stL_e, stR_e, alN_e, nwA_e, nwO_e, dvI_e, rmI_e, oV_e, oN_e, lt_e, rZ_e, br_T, br_F, fR_sI, aI_sI, aL_sI, aR_sI, kd_sI, ln_sI, hn_sI, hm_sI, fI_sI_n, fI_sR, aI_sR, aL_sR, aR_sR, kd_sR, ln_sR, hn_sR, hm_sR, fR_sR_n, fI_tI, fR_tI, aL_tI, aR_tI, kd_tI, ln_tI, hn_tI, hm_tI, aI_tI_n, fI_tL, fR_tL, aI_tL, aR_tL, kd_tL, ln_tL, hn_tL, hm_tL, aL_tL_n, fI_tR, fR_tR, aI_tR, aL_tR, kd_tR, ln_tR, hn_tR, hm_tR, aR_tR_n, hn_nw, hm_nw, rc400, rc403, rc404, rc405, rc407, rc409, rc420, rc440, bI_0, bI_1, bI_T, bI_F, iF_T, iF_F, br_not, le_nlt, not_true_eq_false, not_false_eq_true, and_self, and_true, true_and, and_false, false_and, or_true, true_or, or_false, false_or, ne_eq, reduceCtorEq, Nat.reduceLeDiff, Nat.reduceEqDiff, Nat.reduceLT, Nat.reduceAdd, Nat.reduceSub, Nat.reduceMul, Int32.reduceLT, Int32.reduceLE, Int32.reduceToNatClampNeg, Int32.reduceAdd, Int32.reduceSub, implies_true, forall_const, isIn_e, bit_e, lits, hB, hC, c, q, e, dec_1]
      exact hK
    · have n1 : ¬ nI j = -1 := nI_m1 (by omega)
      have ej : (nI j).toNatClampNeg = j := nI_clamp (by omega)
      have qj := asF hJ j1
      have r := at_g hJ j1 hpp
      rw [j2, ej] at hK
      by_cases d : aI h 132 (m 132) j = nI p
      · have e1 := eq_true d
        rw [← r] at e1
        rw [iF_y ⟨by rw [j2]; exact n1, by rw [j2, ej]; exact d⟩] at hK
        simp only [gI_e, gR_e, pI_e, pZ_e, pR_e, ldI_e, ldZ_e, ldL_e, ldR_e, stI_e, stZ_e, stL_e, stR_e, alN_e, nwA_e, nwO_e, dvI_e, rmI_e, oV_e, oN_e, lt_e, rZ_e, br_T, br_F, fR_sI, aI_sI, aL_sI, aR_sI, kd_sI, ln_sI, hn_sI, hm_sI, fI_sI_n, fI_sR, aI_sR, aL_sR, aR_sR, kd_sR, ln_sR, hn_sR, hm_sR, fR_sR_n, fI_tI, fR_tI, aL_tI, aR_tI, kd_tI, ln_tI, hn_tI, hm_tI, aI_tI_n, fI_tL, fR_tL, aI_tL, aR_tL, kd_tL, ln_tL, hn_tL, hm_tL, aL_tL_n, fI_tR, fR_tR, aI_tR, aL_tR, kd_tR, ln_tR, hn_tR, hm_tR, aR_tR_n, hn_nw, hm_nw, rc400, rc403, rc404, rc405, rc407, rc409, rc420, rc440, bI_0, bI_1, bI_T, bI_F, iF_T, iF_F, br_not, le_nlt, not_true_eq_false, not_false_eq_true, and_self, and_true, true_and, and_false, false_and, or_true, true_or, or_false, false_or, ne_eq, reduceCtorEq, Nat.reduceLeDiff, Nat.reduceEqDiff, Nat.reduceLT, Nat.reduceAdd, Nat.reduceSub, Nat.reduceMul, Int32.reduceLT, Int32.reduceLE, Int32.reduceToNatClampNeg, Int32.reduceAdd, Int32.reduceSub, implies_true, forall_const, isIn_e, bit_e, lits, bI_T, bI_F, bI_0, bI_1, Int32.add_zero, Int32.zero_add, if_true, if_false, Option.some.injEq, lt_irr, iF_T, iF_F, hB, hC, c, q, qj, j2, dec_s _ n1, ej, e1]
        refine saysAt_e hJ hk _ _ ?_
        exact hK
      · have e1 := eq_false d
        rw [← r] at e1
        rw [iF_n (fun w => d (by have := w.2; rw [j2, ej] at this; exact this)), Int32.add_zero] at hK
        simp only [gI_e, gR_e, pI_e, pZ_e, pR_e, ldI_e, ldZ_e, ldL_e, ldR_e, stI_e, stZ_e, stL_e, stR_e, alN_e, nwA_e, nwO_e, dvI_e, rmI_e, oV_e, oN_e, lt_e, rZ_e, br_T, br_F, fR_sI, aI_sI, aL_sI, aR_sI, kd_sI, ln_sI, hn_sI, hm_sI, fI_sI_n, fI_sR, aI_sR, aL_sR, aR_sR, kd_sR, ln_sR, hn_sR, hm_sR, fR_sR_n, fI_tI, fR_tI, aL_tI, aR_tI, kd_tI, ln_tI, hn_tI, hm_tI, aI_tI_n, fI_tL, fR_tL, aI_tL, aR_tL, kd_tL, ln_tL, hn_tL, hm_tL, aL_tL_n, fI_tR, fR_tR, aI_tR, aL_tR, kd_tR, ln_tR, hn_tR, hm_tR, aR_tR_n, hn_nw, hm_nw, rc400, rc403, rc404, rc405, rc407, rc409, rc420, rc440, bI_0, bI_1, bI_T, bI_F, iF_T, iF_F, br_not, le_nlt, not_true_eq_false, not_false_eq_true, and_self, and_true, true_and, and_false, false_and, or_true, true_or, or_false, false_or, ne_eq, reduceCtorEq, Nat.reduceLeDiff, Nat.reduceEqDiff, Nat.reduceLT, Nat.reduceAdd, Nat.reduceSub, Nat.reduceMul, Int32.reduceLT, Int32.reduceLE, Int32.reduceToNatClampNeg, Int32.reduceAdd, Int32.reduceSub, implies_true, forall_const, isIn_e, bit_e, lits, bI_T, bI_F, bI_0, bI_1, Int32.add_zero, Int32.zero_add, if_true, if_false, Option.some.injEq, lt_irr, iF_T, iF_F, hB, hC, c, q, qj, j2, dec_s _ n1, ej, e1]
        exact hK
  · intro K
    unfold b_X10_said_24
    simp only [gI_e, gR_e, pI_e, pZ_e, pR_e, ldI_e, ldZ_e, ldL_e, ldR_e, stI_e, stZ_e, stL_e, stR_e, alN_e, nwA_e, nwO_e, dvI_e, rmI_e, oV_e, oN_e, lt_e, rZ_e, br_T, br_F, fR_sI, aI_sI, aL_sI, aR_sI, kd_sI, ln_sI, hn_sI, hm_sI, fI_sI_n, fI_sR, aI_sR, aL_sR, aR_sR, kd_sR, ln_sR, hn_sR, hm_sR, fR_sR_n, fI_tI, fR_tI, aL_tI, aR_tI, kd_tI, ln_tI, hn_tI, hm_tI, aI_tI_n, fI_tL, fR_tL, aI_tL, aR_tL, kd_tL, ln_tL, hn_tL, hm_tL, aL_tL_n, fI_tR, fR_tR, aI_tR, aL_tR, kd_tR, ln_tR, hn_tR, hm_tR, aR_tR_n, hn_nw, hm_nw, rc400, rc403, rc404, rc405, rc407, rc409, rc420, rc440, bI_0, bI_1, bI_T, bI_F, iF_T, iF_F, br_not, le_nlt, not_true_eq_false, not_false_eq_true, and_self, and_true, true_and, and_false, false_and, or_true, true_or, or_false, false_or, ne_eq, reduceCtorEq, Nat.reduceLeDiff, Nat.reduceEqDiff, Nat.reduceLT, Nat.reduceAdd, Nat.reduceSub, Nat.reduceMul, Int32.reduceLT, Int32.reduceLE, Int32.reduceToNatClampNeg, Int32.reduceAdd, Int32.reduceSub, implies_true, forall_const, isIn_e, bit_e, lits, hB, hC, lt_irr]
    exact hQ
theorem K_said (hJ : JA x y b0 s0 np na nm nr ne g m h) (a : Int32) (Q : Hp → Prop) (hQ : ∀ h2, JJ x y b0 s0 m h2 → Q h2) : w_X10_said (some x) a h (fun r h1 => w_X11_said (some y) a h1 (fun r2 h2 => r = r2 ∧ Q h2)) := by
  have hA := hJ.1; unfold JM at hA; have hB := hJ.2.1; unfold JS at hB; have hC := hJ.2.2.1.1; have hR := hJ.rj; have hf := rf_l hJ; have hno := no_l hR; have hno1 := fun k v => no_l (hJ.rj1 k v); have hp := isPlace_e hR; have ha := isAsk_e hR; have hp1 := fun k v => isPlace_e (hJ.rj1 k v); have ha1 := fun k v => isAsk_e (hJ.rj1 k v)
  have hbd := hJ.2.2.1.2
  have hW := hJ.2.2.2.2.2.1
  unfold w_X10_said n_X10_said_0 n_X10_said_17 w_X11_said n_X11_said_0 n_X11_said_17
  by_cases c : vp_in a np
  rotate_left
  · simp only [gI_e, gR_e, pI_e, pZ_e, pR_e, ldI_e, ldZ_e, ldL_e, ldR_e, stI_e, stZ_e, stL_e, stR_e, alN_e, nwA_e, nwO_e, dvI_e, rmI_e, oV_e, oN_e, lt_e, rZ_e, br_T, br_F, fR_sI, aI_sI, aL_sI, aR_sI, kd_sI, ln_sI, hn_sI, hm_sI, fI_sI_n, fI_sR, aI_sR, aL_sR, aR_sR, kd_sR, ln_sR, hn_sR, hm_sR, fR_sR_n, fI_tI, fR_tI, aL_tI, aR_tI, kd_tI, ln_tI, hn_tI, hm_tI, aI_tI_n, fI_tL, fR_tL, aI_tL, aR_tL, kd_tL, ln_tL, hn_tL, hm_tL, aL_tL_n, fI_tR, fR_tR, aI_tR, aL_tR, kd_tR, ln_tR, hn_tR, hm_tR, aR_tR_n, hn_nw, hm_nw, rc400, rc403, rc404, rc405, rc407, rc409, rc420, rc440, bI_0, bI_1, bI_T, bI_F, iF_T, iF_F, br_not, le_nlt, not_true_eq_false, not_false_eq_true, and_self, and_true, true_and, and_false, false_and, or_true, true_or, or_false, false_or, ne_eq, reduceCtorEq, Nat.reduceLeDiff, Nat.reduceEqDiff, Nat.reduceLT, Nat.reduceAdd, Nat.reduceSub, Nat.reduceMul, Int32.reduceLT, Int32.reduceLE, Int32.reduceToNatClampNeg, Int32.reduceAdd, Int32.reduceSub, implies_true, forall_const, isIn_e, bit_e, lits, hA, hB, hC, hf, hno, hno1, hp, ha, hp1, ha1, placeAt_e hJ, askAt_e hJ, modelAt_e hJ, shelfAt_e hJ, isShelf_e, isGroup_e, isAsked_e, rZ_bI, dec_none, dec_s, dec_1, lt_e, c]
    exact hQ _ hJ.jj
  obtain ⟨p, hpp, rfl⟩ := vp_ex c
  have cp := cnF hpp (show np ≤ 24 by omega) (by decide)
  have qp := plF hJ hpp
  by_cases d : aI h 200 (m 200) p = 0
  · simp only [gI_e, gR_e, pI_e, pZ_e, pR_e, ldI_e, ldZ_e, ldL_e, ldR_e, stI_e, stZ_e, stL_e, stR_e, alN_e, nwA_e, nwO_e, dvI_e, rmI_e, oV_e, oN_e, lt_e, rZ_e, br_T, br_F, fR_sI, aI_sI, aL_sI, aR_sI, kd_sI, ln_sI, hn_sI, hm_sI, fI_sI_n, fI_sR, aI_sR, aL_sR, aR_sR, kd_sR, ln_sR, hn_sR, hm_sR, fR_sR_n, fI_tI, fR_tI, aL_tI, aR_tI, kd_tI, ln_tI, hn_tI, hm_tI, aI_tI_n, fI_tL, fR_tL, aI_tL, aR_tL, kd_tL, ln_tL, hn_tL, hm_tL, aL_tL_n, fI_tR, fR_tR, aI_tR, aL_tR, kd_tR, ln_tR, hn_tR, hm_tR, aR_tR_n, hn_nw, hm_nw, rc400, rc403, rc404, rc405, rc407, rc409, rc420, rc440, bI_0, bI_1, bI_T, bI_F, iF_T, iF_F, br_not, le_nlt, not_true_eq_false, not_false_eq_true, and_self, and_true, true_and, and_false, false_and, or_true, true_or, or_false, false_or, ne_eq, reduceCtorEq, Nat.reduceLeDiff, Nat.reduceEqDiff, Nat.reduceLT, Nat.reduceAdd, Nat.reduceSub, Nat.reduceMul, Int32.reduceLT, Int32.reduceLE, Int32.reduceToNatClampNeg, Int32.reduceAdd, Int32.reduceSub, implies_true, forall_const, isIn_e, bit_e, lits, hA, hB, hC, hf, hno, hno1, hp, ha, hp1, ha1, placeAt_e hJ, askAt_e hJ, modelAt_e hJ, shelfAt_e hJ, isShelf_e, isGroup_e, isAsked_e, rZ_bI, dec_none, dec_s, dec_1, lt_e, c, cp, qp, d]
    exact hQ _ hJ.jj
  simp only [gI_e, gR_e, pI_e, pZ_e, pR_e, ldI_e, ldZ_e, ldL_e, ldR_e, stI_e, stZ_e, stL_e, stR_e, alN_e, nwA_e, nwO_e, dvI_e, rmI_e, oV_e, oN_e, lt_e, rZ_e, br_T, br_F, fR_sI, aI_sI, aL_sI, aR_sI, kd_sI, ln_sI, hn_sI, hm_sI, fI_sI_n, fI_sR, aI_sR, aL_sR, aR_sR, kd_sR, ln_sR, hn_sR, hm_sR, fR_sR_n, fI_tI, fR_tI, aL_tI, aR_tI, kd_tI, ln_tI, hn_tI, hm_tI, aI_tI_n, fI_tL, fR_tL, aI_tL, aR_tL, kd_tL, ln_tL, hn_tL, hm_tL, aL_tL_n, fI_tR, fR_tR, aI_tR, aL_tR, kd_tR, ln_tR, hn_tR, hm_tR, aR_tR_n, hn_nw, hm_nw, rc400, rc403, rc404, rc405, rc407, rc409, rc420, rc440, bI_0, bI_1, bI_T, bI_F, iF_T, iF_F, br_not, le_nlt, not_true_eq_false, not_false_eq_true, and_self, and_true, true_and, and_false, false_and, or_true, true_or, or_false, false_or, ne_eq, reduceCtorEq, Nat.reduceLeDiff, Nat.reduceEqDiff, Nat.reduceLT, Nat.reduceAdd, Nat.reduceSub, Nat.reduceMul, Int32.reduceLT, Int32.reduceLE, Int32.reduceToNatClampNeg, Int32.reduceAdd, Int32.reduceSub, implies_true, forall_const, isIn_e, bit_e, lits, hA, hB, hC, hf, hno, hno1, hp, ha, hp1, ha1, placeAt_e hJ, askAt_e hJ, modelAt_e hJ, shelfAt_e hJ, isShelf_e, isGroup_e, isAsked_e, rZ_bI, dec_none, dec_s, dec_1, lt_e, c, cp, qp, d]
  refine saidC_e hJ hpp _ ?_
  simp only [gI_e, gR_e, pI_e, pZ_e, pR_e, ldI_e, ldZ_e, ldL_e, ldR_e, stI_e, stZ_e, stL_e, stR_e, alN_e, nwA_e, nwO_e, dvI_e, rmI_e, oV_e, oN_e, lt_e, rZ_e, br_T, br_F, fR_sI, aI_sI, aL_sI, aR_sI, kd_sI, ln_sI, hn_sI, hm_sI, fI_sI_n, fI_sR, aI_sR, aL_sR, aR_sR, kd_sR, ln_sR, hn_sR, hm_sR, fR_sR_n, fI_tI, fR_tI, aL_tI, aR_tI, kd_tI, ln_tI, hn_tI, hm_tI, aI_tI_n, fI_tL, fR_tL, aI_tL, aR_tL, kd_tL, ln_tL, hn_tL, hm_tL, aL_tL_n, fI_tR, fR_tR, aI_tR, aL_tR, kd_tR, ln_tR, hn_tR, hm_tR, aR_tR_n, hn_nw, hm_nw, rc400, rc403, rc404, rc405, rc407, rc409, rc420, rc440, bI_0, bI_1, bI_T, bI_F, iF_T, iF_F, br_not, le_nlt, not_true_eq_false, not_false_eq_true, and_self, and_true, true_and, and_false, false_and, or_true, true_or, or_false, false_or, ne_eq, reduceCtorEq, Nat.reduceLeDiff, Nat.reduceEqDiff, Nat.reduceLT, Nat.reduceAdd, Nat.reduceSub, Nat.reduceMul, Int32.reduceLT, Int32.reduceLE, Int32.reduceToNatClampNeg, Int32.reduceAdd, Int32.reduceSub, implies_true, forall_const, isIn_e, bit_e, lits, hA, hB, hC, hf, hno, hno1, hp, ha, hp1, ha1, placeAt_e hJ, askAt_e hJ, modelAt_e hJ, shelfAt_e hJ, isShelf_e, isGroup_e, isAsked_e, rZ_bI, dec_none, dec_s, dec_1, lt_e, c, cp, d]
  refine saidR_e hJ.rj _ ?_
  intro h' e
  exact ⟨(sd_eq hW (by omega) p).symm, hQ _ (hJ.same e).jj⟩
end SAID
