theorem cN_fL {P X : Nat → Prop} : ∀ n, cN (fun j => X ((fL P n).getD j 0)) (fL P n).length = cN (fun i => P i ∧ X i) n := by
  intro n
  induction n with
  | zero => rfl
  | succ n ih =>
    by_cases c : P n
    · have cg : cN (fun j => X ((fL P n ++ [n]).getD j 0)) (fL P n).length = cN (fun j => X ((fL P n).getD j 0)) (fL P n).length := cN_cg (fun i hi => by
        show X ((fL P n ++ [n]).getD i 0) ↔ X ((fL P n).getD i 0)
        rw [gD_l hi])
      rw [fL_y c, List.length_append]
      show cN (fun j => X ((fL P n ++ [n]).getD j 0)) ((fL P n).length + 1) = _
      by_cases d : X n
      · rw [cN_y (P := fun j => X ((fL P n ++ [n]).getD j 0)) (show X ((fL P n ++ [n]).getD (fL P n).length 0) by rw [gD_r]; exact d), cg, ih, cN_y (P := fun i => P i ∧ X i) ⟨c, d⟩]
      · rw [cN_n (P := fun j => X ((fL P n ++ [n]).getD j 0)) (show ¬ X ((fL P n ++ [n]).getD (fL P n).length 0) by rw [gD_r]; exact d), cg, ih, cN_n (P := fun i => P i ∧ X i) (fun z => d z.2)]
    · rw [fL_n c, ih, cN_n (P := fun i => P i ∧ X i) (fun z => c z.1)]
section PASM
variable {x y b0 s0 np na nm nr ne : Nat} {g : Nat → Nat → Nat} {m : Nat → Nat} {h h1 : Hp}
/-- the steps and tests that the reference keeps of a rule -/
def RKq (h : Hp) (m : Nat → Nat) (r : Nat) (C : List Int32) (T : List RT) : Prop := aI h 151 (m 151) r = nI C.length ∧ (∀ i, i < C.length → aI h 153 (m 153) (100 * r + i) = C.getD i 0) ∧ (∀ i, i < T.length → tTT h m (40 * r + i) = T.getD i (0, 0, 0, 0, 0)) ∧ C.length ≤ 60 ∧ T.length ≤ 30
/-- the reference can tell whether a group is kept -/
def KEq (h : Hp) (m : Nat → Nat) (y np na p : Nat) (ro : Option Nat) (KP : List Nat → Nat → Prop) : Prop := (ro = none → ∀ L k, KP L k) ∧ ∀ r, ro = some r → r < 12 ∧ ∃ C T, RKq h m r C T ∧ ∀ L k, rS T.length (fun i => gtE (vaF h m y np na L p k) (T.getD i (0, 0, 0, 0, 0))) C [] = some [KP L k]
theorem KEq_same {KP : List Nat → Nat → Prop} {p : Nat} {ro : Option Nat} (hK : KEq h m y np na p ro KP) (e : eqS h h1) : KEq h1 m y np na p ro KP := by
  have E := eqS_l e
  unfold KEq RKq tTT at hK ⊢
  rw [vaF_S e]
  simp only [E]
  exact hK
theorem ruleR_e (hJ : JA x y b0 s0 np na nm nr ne g m h) {p r : Nat} (hr : r < nr) : ∃ C T, RKq h m r C T ∧ ∀ L k, rS T.length (fun i => gtE (vaF h m y np na L p k) (T.getD i (0, 0, 0, 0, 0))) C [] = some [KPr h m y np na p g (some r) L k] := by
  have ok := hJ.2.2.2.2.2.2.1.e_ru r hr
  unfold ruleOK at ok
  obtain ⟨z60, o2, o3, o4, o5, o6, d, hd, o7, o8⟩ := ok
  generalize hL : (fun j => (aL h 399 (g 12 r) j).toInt32) = L0 at *
  generalize hZ : ln h (g 12 r) = z at *
  refine ⟨(grA (grN L0 z)).2.1, (grA (grN L0 z)).2.2.1, ⟨o4, o5, o6, by omega, by omega⟩, fun L k => ?_⟩
  have fa : (grA (grN L0 z)).1.2 = -1 := Classical.byContradiction (fun w => by
    unfold grE grZ at o2
    rw [gz0 w] at o2
    exact w o2)
  have at2 : (grW (grN L0 z) 58 (grW (grN L0 z) 107 (0, -1))).1 ≤ z := grW_at (by decide) (grW_at (by decide) (Nat.zero_le _))
  have key := rOKs_G (B := (grA (grN L0 z)).2.2.1.length) (T := fun i => gtE (vaF h m y np na L p k) ((grA (grN L0 z)).2.2.1.getD i (0, 0, 0, 0, 0))) (E := gtE (vaF h m y np na L p k)) z60 (by omega) 70 0 0 0 _ (by decide) (by decide) (by decide) at2 fa
  have k2 := key (by
    show 0 + (grA (grN L0 z)).2.2.1.length ≤ (grA (grN L0 z)).2.2.1.length
    omega) (fun i _ => by
    show gtE _ ((grA (grN L0 z)).2.2.1.getD (0 + i) (0, 0, 0, 0, 0)) = gtE _ ((grA (grN L0 z)).2.2.1.getD i (0, 0, 0, 0, 0))
    rw [Nat.zero_add]) [] []
  rw [List.append_nil] at k2
  have e : KPr h m y np na p g (some r) L k = (grA (grN L0 z)).2.2.2 (gtE (vaF h m y np na L p k)) := by
    unfold KPr
    refine propext ⟨fun w => ?_, fun w r2 e => ?_⟩
    · have := w r rfl
      rw [hL, hZ] at this
      exact this
    · cases e
      rw [hL, hZ]
      exact w
  rw [e]
  exact k2
theorem KEq_i (hJ : JA x y b0 s0 np na nm nr ne g m h) {p : Nat} {ro : Option Nat} (hro : ∀ r, ro = some r → r < nr) : KEq h m y np na p ro (KPr h m y np na p g ro) := by
  refine ⟨fun e L k r w => (by rw [e] at w; cases w), fun r e => ?_⟩
  have hr := hro r e
  have hbd := hJ.2.2.1.2
  subst e
  exact ⟨by omega, ruleR_e hJ hr⟩
theorem passM_e (hR : RJ y np na nm nr ne m h) (hx : np ≤ m 0) {u : Nat} (hu : u < np) {ro : Option Nat} {KP : List Nat → Nat → Prop} (hK : KEq h m y np na u ro KP) (Q : Int32 → Hp → Prop) (hY : na + cN (fun j => KP (cdM h m na u np j) ((cdL h m na u np).getD j 0)) (cdL h m na u np).length ≤ 160 → ∀ h', eqS h h' → l_X11_make_124 (some y) (nI u) (onI ro) (nI (cN (fun j => KP (cdM h m na u np j) ((cdL h m na u np).getD j 0)) (cdL h m na u np).length)) 0 h' Q) (hN : ¬ na + cN (fun j => KP (cdM h m na u np j) ((cdL h m na u np).getD j 0)) (cdL h m na u np).length ≤ 160 → ∀ h', eqS h h' → Q (-7) (tI h' 161 (m 161) 7 (aI h' 161 (m 161) 7 + 1))) : l_X11_make_59 (some y) (nI u) (onI ro) 0 0 h Q := by
  have hW := hR.2.2.2
  have bd := hR.2.2.1
  have ce := cN_fL (P := gnP h m na u np) (X := fun i => KP (gaL h m na u i np) i) 128
  have ce2 : cN (fun j => KP (cdM h m na u np j) ((cdL h m na u np).getD j 0)) (cdL h m na u np).length = cN (fun i => gnP h m na u np i ∧ KP (gaL h m na u i np) i) 128 := ce
  rw [ce2] at hY hN
  unfold l_X11_make_59
  refine Lo.count 128 (fun k s h' => eqS h h' ∧ s = (nI (cN (fun i => gnP h m na u np i ∧ KP (gaL h m na u i np) i) k), nI k)) ?_ 0 (Nat.zero_le _) _ _ ⟨eqS.rf h, rfl⟩
  rintro k s h' hk ⟨hS, rfl⟩ K1 hK1
  have hR' := RJ.ofS hR hS
  have hA := hR'.1
  unfold JM at hA
  have hC' := hR'.2.1
  unfold b_X11_make_59 n_X11_make_93 n_X11_make_96
  by_cases e : k < 128
  · have c := cnF e (Nat.le_refl 128) (by decide)
    have c128 : nI k < 128 := c.1
    simp (config := {decide := true}) only [gI_e, gR_e, pI_e, pZ_e, pR_e, ldI_e, ldZ_e, ldL_e, ldR_e, stI_e, stZ_e, stL_e, stR_e, alN_e, nwA_e, nwO_e, dvI_e, rmI_e, oV_e, oN_e, lt_e, rZ_e, br_T, br_F, fR_sI, aI_sI, aL_sI, aR_sI, kd_sI, ln_sI, hn_sI, hm_sI, fI_sI_n, fI_sR, aI_sR, aL_sR, aR_sR, kd_sR, ln_sR, hn_sR, hm_sR, fR_sR_n, fI_tI, fR_tI, aL_tI, aR_tI, kd_tI, ln_tI, hn_tI, hm_tI, aI_tI_n, fI_tL, fR_tL, aI_tL, aR_tL, kd_tL, ln_tL, hn_tL, hm_tL, aL_tL_n, fI_tR, fR_tR, aI_tR, aL_tR, kd_tR, ln_tR, hn_tR, hm_tR, aR_tR_n, hn_nw, hm_nw, rc400, rc403, rc404, rc405, rc407, rc409, rc420, rc440, bI_0, bI_1, bI_T, bI_F, iF_T, iF_F, br_not, le_nlt, not_true_eq_false, not_false_eq_true, and_self, and_true, true_and, and_false, false_and, or_true, true_or, or_false, false_or, ne_eq, reduceCtorEq, Nat.reduceLeDiff, Nat.reduceEqDiff, Nat.reduceLT, Nat.reduceAdd, Nat.reduceSub, Nat.reduceMul, Int32.reduceLT, Int32.reduceLE, Int32.reduceToNatClampNeg, Int32.reduceAdd, Int32.reduceSub, implies_true, forall_const, isIn_e, bit_e, lits, hA, c128]
    refine gathersX_e hR' (Or.inr hx) _ ?_
    intro h2 e2 g2
    have eS2 := hS.tr (eqX.s gx_sF gx_sK e2)
    rw [gaL_same hS.b] at g2 ⊢
    have ln := gaL_len hW u k np
    have lz : ((0 : Int32) < nI (gaL h m na u k np).length) = (0 < (gaL h m na u k np).length) := propext (nI_ltI (a := 0) (by omega) (by omega))
    by_cases z : gaL h m na u k np = []
    · have l0 : ¬ 0 < (gaL h m na u k np).length := by rw [z]; exact Nat.lt_irrefl 0
      simp (config := {decide := true}) only [gI_e, gR_e, pI_e, pZ_e, pR_e, ldI_e, ldZ_e, ldL_e, ldR_e, stI_e, stZ_e, stL_e, stR_e, alN_e, nwA_e, nwO_e, dvI_e, rmI_e, oV_e, oN_e, lt_e, rZ_e, br_T, br_F, fR_sI, aI_sI, aL_sI, aR_sI, kd_sI, ln_sI, hn_sI, hm_sI, fI_sI_n, fI_sR, aI_sR, aL_sR, aR_sR, kd_sR, ln_sR, hn_sR, hm_sR, fR_sR_n, fI_tI, fR_tI, aL_tI, aR_tI, kd_tI, ln_tI, hn_tI, hm_tI, aI_tI_n, fI_tL, fR_tL, aI_tL, aR_tL, kd_tL, ln_tL, hn_tL, hm_tL, aL_tL_n, fI_tR, fR_tR, aI_tR, aL_tR, kd_tR, ln_tR, hn_tR, hm_tR, aR_tR_n, hn_nw, hm_nw, rc400, rc403, rc404, rc405, rc407, rc409, rc420, rc440, bI_0, bI_1, bI_T, bI_F, iF_T, iF_F, br_not, le_nlt, not_true_eq_false, not_false_eq_true, and_self, and_true, true_and, and_false, false_and, or_true, true_or, or_false, false_or, ne_eq, reduceCtorEq, Nat.reduceLeDiff, Nat.reduceEqDiff, Nat.reduceLT, Nat.reduceAdd, Nat.reduceSub, Nat.reduceMul, Int32.reduceLT, Int32.reduceLE, Int32.reduceToNatClampNeg, Int32.reduceAdd, Int32.reduceSub, implies_true, forall_const, isIn_e, bit_e, lits, lz, l0, c]
      exact hK1 _ _ e ⟨eS2, by rw [cN_n (P := fun i => gnP h m na u np i ∧ KP (gaL h m na u i np) i) (fun w => w.1 z)]⟩
    have l0 : 0 < (gaL h m na u k np).length := List.length_pos_iff.mpr z
    have yes : KP (gaL h m na u k np) k → K1 (nI (cN (fun i => gnP h m na u np i ∧ KP (gaL h m na u i np) i) k + 1), nI (k + 1)) h2 := fun w => hK1 _ _ e ⟨eS2, by rw [cN_y (P := fun i => gnP h m na u np i ∧ KP (gaL h m na u i np) i) ⟨z, w⟩]⟩
    have n1' := n1 (cN (fun i => gnP h m na u np i ∧ KP (gaL h m na u i np) i) k)
    cases ro with
    | none =>
      have o1 : onI none = -1 := rfl
      have y1 := yes (hK.1 rfl _ _)
      simp (config := {decide := true}) only [gI_e, gR_e, pI_e, pZ_e, pR_e, ldI_e, ldZ_e, ldL_e, ldR_e, stI_e, stZ_e, stL_e, stR_e, alN_e, nwA_e, nwO_e, dvI_e, rmI_e, oV_e, oN_e, lt_e, rZ_e, br_T, br_F, fR_sI, aI_sI, aL_sI, aR_sI, kd_sI, ln_sI, hn_sI, hm_sI, fI_sI_n, fI_sR, aI_sR, aL_sR, aR_sR, kd_sR, ln_sR, hn_sR, hm_sR, fR_sR_n, fI_tI, fR_tI, aL_tI, aR_tI, kd_tI, ln_tI, hn_tI, hm_tI, aI_tI_n, fI_tL, fR_tL, aI_tL, aR_tL, kd_tL, ln_tL, hn_tL, hm_tL, aL_tL_n, fI_tR, fR_tR, aI_tR, aL_tR, kd_tR, ln_tR, hn_tR, hm_tR, aR_tR_n, hn_nw, hm_nw, rc400, rc403, rc404, rc405, rc407, rc409, rc420, rc440, bI_0, bI_1, bI_T, bI_F, iF_T, iF_F, br_not, le_nlt, not_true_eq_false, not_false_eq_true, and_self, and_true, true_and, and_false, false_and, or_true, true_or, or_false, false_or, ne_eq, reduceCtorEq, Nat.reduceLeDiff, Nat.reduceEqDiff, Nat.reduceLT, Nat.reduceAdd, Nat.reduceSub, Nat.reduceMul, Int32.reduceLT, Int32.reduceLE, Int32.reduceToNatClampNeg, Int32.reduceAdd, Int32.reduceSub, implies_true, forall_const, isIn_e, bit_e, lits, lz, l0, c, o1, n1']
      exact y1
    | some r =>
      obtain ⟨r12, C, T, rk, rv⟩ := (KEq_same hK eS2).2 r rfl
      obtain ⟨k1, k2, k3, k4, k5⟩ := rk
      have o1 : onI (some r) = nI r := rfl
      have nm : ¬ nI r = -1 := nI_m1 (by omega)
      have hR2 := RJ.ofS hR eS2
      have hA2 := hR2.1
      unfold JM at hA2
      simp (config := {decide := true}) only [gI_e, gR_e, pI_e, pZ_e, pR_e, ldI_e, ldZ_e, ldL_e, ldR_e, stI_e, stZ_e, stL_e, stR_e, alN_e, nwA_e, nwO_e, dvI_e, rmI_e, oV_e, oN_e, lt_e, rZ_e, br_T, br_F, fR_sI, aI_sI, aL_sI, aR_sI, kd_sI, ln_sI, hn_sI, hm_sI, fI_sI_n, fI_sR, aI_sR, aL_sR, aR_sR, kd_sR, ln_sR, hn_sR, hm_sR, fR_sR_n, fI_tI, fR_tI, aL_tI, aR_tI, kd_tI, ln_tI, hn_tI, hm_tI, aI_tI_n, fI_tL, fR_tL, aI_tL, aR_tL, kd_tL, ln_tL, hn_tL, hm_tL, aL_tL_n, fI_tR, fR_tR, aI_tR, aL_tR, kd_tR, ln_tR, hn_tR, hm_tR, aR_tR_n, hn_nw, hm_nw, rc400, rc403, rc404, rc405, rc407, rc409, rc420, rc440, bI_0, bI_1, bI_T, bI_F, iF_T, iF_F, br_not, le_nlt, not_true_eq_false, not_false_eq_true, and_self, and_true, true_and, and_false, false_and, or_true, true_or, or_false, false_or, ne_eq, reduceCtorEq, Nat.reduceLeDiff, Nat.reduceEqDiff, Nat.reduceLT, Nat.reduceAdd, Nat.reduceSub, Nat.reduceMul, Int32.reduceLT, Int32.reduceLE, Int32.reduceToNatClampNeg, Int32.reduceAdd, Int32.reduceSub, implies_true, forall_const, isIn_e, bit_e, lits, hA2, lz, l0, o1, nm]
      refine keeps_e hR2 g2 l0 (by omega) (fun i hi => (ga_m hW e (gD_mem hi)).1) hu e r12 k1 k2 k3 k4 k5 (rv (gaL h m na u k np) k) _ ?_
      intro h3 e3 g3
      have eS3 := eS2.tr (eqX.s kp_sF kp_sK e3)
      by_cases w : KP (gaL h m na u k np) k
      · have y1 : K1 (nI (cN (fun i => gnP h m na u np i ∧ KP (gaL h m na u i np) i) k + 1), nI (k + 1)) h3 := hK1 _ _ e ⟨eS3, by rw [cN_y (P := fun i => gnP h m na u np i ∧ KP (gaL h m na u i np) i) ⟨z, w⟩]⟩
        rw [bI_y w]
        simp (config := {decide := true}) only [gI_e, gR_e, pI_e, pZ_e, pR_e, ldI_e, ldZ_e, ldL_e, ldR_e, stI_e, stZ_e, stL_e, stR_e, alN_e, nwA_e, nwO_e, dvI_e, rmI_e, oV_e, oN_e, lt_e, rZ_e, br_T, br_F, fR_sI, aI_sI, aL_sI, aR_sI, kd_sI, ln_sI, hn_sI, hm_sI, fI_sI_n, fI_sR, aI_sR, aL_sR, aR_sR, kd_sR, ln_sR, hn_sR, hm_sR, fR_sR_n, fI_tI, fR_tI, aL_tI, aR_tI, kd_tI, ln_tI, hn_tI, hm_tI, aI_tI_n, fI_tL, fR_tL, aI_tL, aR_tL, kd_tL, ln_tL, hn_tL, hm_tL, aL_tL_n, fI_tR, fR_tR, aI_tR, aL_tR, kd_tR, ln_tR, hn_tR, hm_tR, aR_tR_n, hn_nw, hm_nw, rc400, rc403, rc404, rc405, rc407, rc409, rc420, rc440, bI_0, bI_1, bI_T, bI_F, iF_T, iF_F, br_not, le_nlt, not_true_eq_false, not_false_eq_true, and_self, and_true, true_and, and_false, false_and, or_true, true_or, or_false, false_or, ne_eq, reduceCtorEq, Nat.reduceLeDiff, Nat.reduceEqDiff, Nat.reduceLT, Nat.reduceAdd, Nat.reduceSub, Nat.reduceMul, Int32.reduceLT, Int32.reduceLE, Int32.reduceToNatClampNeg, Int32.reduceAdd, Int32.reduceSub, implies_true, forall_const, isIn_e, bit_e, lits, c, n1']
        exact y1
      · have y1 : K1 (nI (cN (fun i => gnP h m na u np i ∧ KP (gaL h m na u i np) i) k), nI (k + 1)) h3 := hK1 _ _ e ⟨eS3, by rw [cN_n (P := fun i => gnP h m na u np i ∧ KP (gaL h m na u i np) i) (fun z => w z.2)]⟩
        rw [bI_n w]
        simp (config := {decide := true}) only [gI_e, gR_e, pI_e, pZ_e, pR_e, ldI_e, ldZ_e, ldL_e, ldR_e, stI_e, stZ_e, stL_e, stR_e, alN_e, nwA_e, nwO_e, dvI_e, rmI_e, oV_e, oN_e, lt_e, rZ_e, br_T, br_F, fR_sI, aI_sI, aL_sI, aR_sI, kd_sI, ln_sI, hn_sI, hm_sI, fI_sI_n, fI_sR, aI_sR, aL_sR, aR_sR, kd_sR, ln_sR, hn_sR, hm_sR, fR_sR_n, fI_tI, fR_tI, aL_tI, aR_tI, kd_tI, ln_tI, hn_tI, hm_tI, aI_tI_n, fI_tL, fR_tL, aI_tL, aR_tL, kd_tL, ln_tL, hn_tL, hm_tL, aL_tL_n, fI_tR, fR_tR, aI_tR, aL_tR, kd_tR, ln_tR, hn_tR, hm_tR, aR_tR_n, hn_nw, hm_nw, rc400, rc403, rc404, rc405, rc407, rc409, rc420, rc440, bI_0, bI_1, bI_T, bI_F, iF_T, iF_F, br_not, le_nlt, not_true_eq_false, not_false_eq_true, and_self, and_true, true_and, and_false, false_and, or_true, true_or, or_false, false_or, ne_eq, reduceCtorEq, Nat.reduceLeDiff, Nat.reduceEqDiff, Nat.reduceLT, Nat.reduceAdd, Nat.reduceSub, Nat.reduceMul, Int32.reduceLT, Int32.reduceLE, Int32.reduceToNatClampNeg, Int32.reduceAdd, Int32.reduceSub, implies_true, forall_const, isIn_e, bit_e, lits, c]
        exact y1
  · obtain rfl : k = 128 := by omega
    have c128 : ¬ nI 128 < 128 := by decide
    have le := cN_le (fun i => gnP h m na u np i ∧ KP (gaL h m na u i np) i) 128
    have sm : nI na + nI (cN (fun i => gnP h m na u np i ∧ KP (gaL h m na u i np) i) 128) = nI (na + cN (fun i => gnP h m na u np i ∧ KP (gaL h m na u i np) i) 128) := nI_add _ _
    have l10 : ((160 : Int32) < nI (na + cN (fun i => gnP h m na u np i ∧ KP (gaL h m na u i np) i) 128)) = (160 < na + cN (fun i => gnP h m na u np i ∧ KP (gaL h m na u i np) i) 128) := propext (nI_ltI (a := 160) (by omega) (by omega))
    by_cases z : 160 < na + cN (fun i => gnP h m na u np i ∧ KP (gaL h m na u i np) i) 128
    · have hn2 := no_l hR'
      simp (config := {decide := true}) only [gI_e, gR_e, pI_e, pZ_e, pR_e, ldI_e, ldZ_e, ldL_e, ldR_e, stI_e, stZ_e, stL_e, stR_e, alN_e, nwA_e, nwO_e, dvI_e, rmI_e, oV_e, oN_e, lt_e, rZ_e, br_T, br_F, fR_sI, aI_sI, aL_sI, aR_sI, kd_sI, ln_sI, hn_sI, hm_sI, fI_sI_n, fI_sR, aI_sR, aL_sR, aR_sR, kd_sR, ln_sR, hn_sR, hm_sR, fR_sR_n, fI_tI, fR_tI, aL_tI, aR_tI, kd_tI, ln_tI, hn_tI, hm_tI, aI_tI_n, fI_tL, fR_tL, aI_tL, aR_tL, kd_tL, ln_tL, hn_tL, hm_tL, aL_tL_n, fI_tR, fR_tR, aI_tR, aL_tR, kd_tR, ln_tR, hn_tR, hm_tR, aR_tR_n, hn_nw, hm_nw, rc400, rc403, rc404, rc405, rc407, rc409, rc420, rc440, bI_0, bI_1, bI_T, bI_F, iF_T, iF_F, br_not, le_nlt, not_true_eq_false, not_false_eq_true, and_self, and_true, true_and, and_false, false_and, or_true, true_or, or_false, false_or, ne_eq, reduceCtorEq, Nat.reduceLeDiff, Nat.reduceEqDiff, Nat.reduceLT, Nat.reduceAdd, Nat.reduceSub, Nat.reduceMul, Int32.reduceLT, Int32.reduceLE, Int32.reduceToNatClampNeg, Int32.reduceAdd, Int32.reduceSub, implies_true, forall_const, isIn_e, bit_e, lits, hA, hC', c128, sm, l10, z, hn2]
      exact hN (fun w => absurd z (Nat.not_lt.mpr w)) h' hS
    · simp (config := {decide := true}) only [gI_e, gR_e, pI_e, pZ_e, pR_e, ldI_e, ldZ_e, ldL_e, ldR_e, stI_e, stZ_e, stL_e, stR_e, alN_e, nwA_e, nwO_e, dvI_e, rmI_e, oV_e, oN_e, lt_e, rZ_e, br_T, br_F, fR_sI, aI_sI, aL_sI, aR_sI, kd_sI, ln_sI, hn_sI, hm_sI, fI_sI_n, fI_sR, aI_sR, aL_sR, aR_sR, kd_sR, ln_sR, hn_sR, hm_sR, fR_sR_n, fI_tI, fR_tI, aL_tI, aR_tI, kd_tI, ln_tI, hn_tI, hm_tI, aI_tI_n, fI_tL, fR_tL, aI_tL, aR_tL, kd_tL, ln_tL, hn_tL, hm_tL, aL_tL_n, fI_tR, fR_tR, aI_tR, aL_tR, kd_tR, ln_tR, hn_tR, hm_tR, aR_tR_n, hn_nw, hm_nw, rc400, rc403, rc404, rc405, rc407, rc409, rc420, rc440, bI_0, bI_1, bI_T, bI_F, iF_T, iF_F, br_not, le_nlt, not_true_eq_false, not_false_eq_true, and_self, and_true, true_and, and_false, false_and, or_true, true_or, or_false, false_or, ne_eq, reduceCtorEq, Nat.reduceLeDiff, Nat.reduceEqDiff, Nat.reduceLT, Nat.reduceAdd, Nat.reduceSub, Nat.reduceMul, Int32.reduceLT, Int32.reduceLE, Int32.reduceToNatClampNeg, Int32.reduceAdd, Int32.reduceSub, implies_true, forall_const, isIn_e, bit_e, lits, hA, hC', c128, sm, l10, z]
      exact hY (Nat.not_lt.mp z) h' hS
end PASM
