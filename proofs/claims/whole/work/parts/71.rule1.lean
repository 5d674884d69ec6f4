theorem grN_g {L L2 : Nat → Int32} {n : Nat} (h : ∀ j, j < n → L2 j = L j) : grN L2 n = grN L n := by
  funext s
  unfold grN
  by_cases c : s.2 = -1 ∧ s.1 < n
  · rw [if_pos c, if_pos c, h _ c.2]
  · rw [if_neg c, if_neg c]
theorem ruleOK_cg {lt lt2 c c2 lb lf sg rb rf lb2 lf2 sg2 rb2 rf2 : Nat → Int32} {n : Nat} {cn md : Int32} (h : ruleOK lt n c cn lb lf sg rb rf md) (h0 : ∀ j, j < n → lt2 j = lt j) (h1 : ∀ j, j < 100 → c2 j = c j) (h2 : ∀ j, j < 40 → lb2 j = lb j ∧ lf2 j = lf j ∧ sg2 j = sg j ∧ rb2 j = rb j ∧ rf2 j = rf j) : ruleOK lt2 n c2 cn lb2 lf2 sg2 rb2 rf2 md := by
  unfold ruleOK at h ⊢
  rw [grN_g h0]
  obtain ⟨q1, q2, q3, q4, q5, q6, q7⟩ := h
  refine ⟨q1, q2, q3, q4, fun j hj => ?_, fun j hj => ?_, q7⟩
  · rw [h1 j (by omega)]
    exact q5 j hj
  · obtain ⟨a1, a2, a3, a4, a5⟩ := h2 j (by omega)
    rw [a1, a2, a3, a4, a5]
    exact q6 j hj
theorem eqX_sIb {F K : Nat → Bool} {h h1 : Hp} (e : eqX F K h h1) (f b : Nat) (v : Int32) : eqX F K (sI h f b v) (sI h1 f b v) := by
  obtain ⟨e1, e2, e3, e4, e5, e6, e7, e8, e9⟩ := e
  refine ⟨e1, e2, e3, e4, e5, fun f2 q => ?_, e7, e8, e9⟩
  have := e6 f2 q
  funext a2
  show u2 h1.1 f b v f2 a2 = u2 h.1 f b v f2 a2
  unfold u2
  by_cases c : f2 = f ∧ a2 = b
  · rw [if_pos c, if_pos c]
  · rw [if_neg c, if_neg c]
    exact congrFun this a2
theorem eqX_tIb {F K : Nat → Bool} {h h1 : Hp} (e : eqX F K h h1) (k b j : Nat) (v : Int32) : eqX F K (tI h k b j v) (tI h1 k b j v) := by
  obtain ⟨e1, e2, e3, e4, e5, e6, e7, e8, e9⟩ := e
  refine ⟨e1, e2, e3, e4, e5, e6, fun k2 q => ?_, e8, e9⟩
  have := e7 k2 q
  funext a2 j2
  show u3 h1.2.2.1 k b j v k2 a2 j2 = u3 h.2.2.1 k b j v k2 a2 j2
  unfold u3
  by_cases c : k2 = k ∧ a2 = b ∧ j2 = j
  · rw [if_pos c, if_pos c]
  · rw [if_neg c, if_neg c]
    exact congrFun (congrFun this a2) j2
theorem CR.sIb {m : Nat → Nat} {r : Nat} {h h1 : Hp} (e : CR m r h h1) (f b : Nat) (v : Int32) : CR m r (sI h f b v) (sI h1 f b v) := ⟨eqX_sIb e.1 f b v, e.2.1, e.2.2.1, e.2.2.2⟩
theorem CR.t161 {m : Nat → Nat} {r : Nat} {h h1 : Hp} (e : CR m r h h1) (b j : Nat) (v : Int32) : CR m r (tI h 161 b j v) (tI h1 161 b j v) := by
  refine ⟨eqX_tIb e.1 161 b j v, ?_, ?_, ?_⟩
  · simp (config := {decide := true}) only [fR_sI, aI_sI, aL_sI, aR_sI, kd_sI, ln_sI, hn_sI, hm_sI, fI_sI_n, fI_sR, aI_sR, aL_sR, aR_sR, kd_sR, ln_sR, hn_sR, hm_sR, fR_sR_n, fI_tI, fR_tI, aL_tI, aR_tI, kd_tI, ln_tI, hn_tI, hm_tI, aI_tI_n, fI_tL, fR_tL, aI_tL, aR_tL, kd_tL, ln_tL, hn_tL, hm_tL, aL_tL_n, fI_tR, fR_tR, aI_tR, aL_tR, kd_tR, ln_tR, hn_tR, hm_tR, aR_tR_n, hn_nw, hm_nw]
    exact e.2.1
  · simp (config := {decide := true}) only [fR_sI, aI_sI, aL_sI, aR_sI, kd_sI, ln_sI, hn_sI, hm_sI, fI_sI_n, fI_sR, aI_sR, aL_sR, aR_sR, kd_sR, ln_sR, hn_sR, hm_sR, fR_sR_n, fI_tI, fR_tI, aL_tI, aR_tI, kd_tI, ln_tI, hn_tI, hm_tI, aI_tI_n, fI_tL, fR_tL, aI_tL, aR_tL, kd_tL, ln_tL, hn_tL, hm_tL, aL_tL_n, fI_tR, fR_tR, aI_tR, aL_tR, kd_tR, ln_tR, hn_tR, hm_tR, aR_tR_n, hn_nw, hm_nw]
    exact e.2.2.1
  · simp (config := {decide := true}) only [fR_sI, aI_sI, aL_sI, aR_sI, kd_sI, ln_sI, hn_sI, hm_sI, fI_sI_n, fI_sR, aI_sR, aL_sR, aR_sR, kd_sR, ln_sR, hn_sR, hm_sR, fR_sR_n, fI_tI, fR_tI, aL_tI, aR_tI, kd_tI, ln_tI, hn_tI, hm_tI, aI_tI_n, fI_tL, fR_tL, aI_tL, aR_tL, kd_tL, ln_tL, hn_tL, hm_tL, aL_tL_n, fI_tR, fR_tR, aI_tR, aL_tR, kd_tR, ln_tR, hn_tR, hm_tR, aR_tR_n, hn_nw, hm_nw]
    exact e.2.2.2
def rlF (f : Nat) : Bool := isSf f || f == 1295 || f == 1412 || f == 1298 || f == 1414
def rlK (k : Nat) : Bool := isSk k || k == 148 || k == 149 || k == 150 || k == 151 || k == 152 || k == 153 || k == 154 || k == 155 || k == 156 || k == 157 || k == 158
section RULA
variable {x y b0 s0 np na nm nr ne : Nat} {g : Nat → Nat → Nat} {m : Nat → Nat} {h h1 h2 E F : Hp}
theorem refuseS_e (hB : JS x g h) (k : Nat) (hk : 1 ≤ k ∧ k ≤ 7) (Q : Int32 → Hp → Prop) : w_X10_refuse (some x) (-(nI k)) h Q = Q (-(nI k)) (tI h 110 (g 0 6) (k - 1) (aI h 110 (g 0 6) (k - 1) + 1)) := by
  unfold JS at hB
  unfold w_X10_refuse n_X10_refuse_0 n_X10_refuse_24
  obtain ⟨k0, rfl⟩ : ∃ k0, k = k0 + 1 := ⟨k - 1, by omega⟩
  have e : (-1) - -(nI (k0 + 1)) = nI k0 := by
    rw [← nI_pred k0]
    rw [Int32.sub_eq_add_neg, Int32.neg_neg, Int32.sub_eq_add_neg, Int32.add_comm]
  have c1 : ¬ nI k0 < 0 ∧ ¬ 6 < nI k0 := ⟨nI_pos (by omega), fun q => by
    have := (nI_ltI (a := 6) (b := k0) (by omega) (by omega)).mp q
    omega⟩
  have c2 : vp_in (nI k0) 7 := vp_in_nI (by omega) (by decide)
  have c3 : (nI k0).toNatClampNeg = k0 := nI_clamp (by omega)
  have c4 : k0 + 1 - 1 = k0 := by omega
  simp (config := {decide := true}) only [gI_e, gR_e, pI_e, pZ_e, pR_e, ldI_e, ldZ_e, ldL_e, ldR_e, stI_e, stZ_e, stL_e, stR_e, alN_e, nwA_e, nwO_e, dvI_e, rmI_e, oV_e, oN_e, lt_e, rZ_e, br_T, br_F, fR_sI, aI_sI, aL_sI, aR_sI, kd_sI, ln_sI, hn_sI, hm_sI, fI_sI_n, fI_sR, aI_sR, aL_sR, aR_sR, kd_sR, ln_sR, hn_sR, hm_sR, fR_sR_n, fI_tI, fR_tI, aL_tI, aR_tI, kd_tI, ln_tI, hn_tI, hm_tI, aI_tI_n, fI_tL, fR_tL, aI_tL, aR_tL, kd_tL, ln_tL, hn_tL, hm_tL, aL_tL_n, fI_tR, fR_tR, aI_tR, aL_tR, kd_tR, ln_tR, hn_tR, hm_tR, aR_tR_n, hn_nw, hm_nw, rc400, rc403, rc404, rc405, rc407, rc409, rc420, rc440, bI_0, bI_1, bI_T, bI_F, iF_T, iF_F, br_not, le_nlt, not_true_eq_false, not_false_eq_true, and_self, and_true, true_and, and_false, false_and, or_true, true_or, or_false, false_or, ne_eq, reduceCtorEq, Nat.reduceLeDiff, Nat.reduceEqDiff, Nat.reduceLT, Nat.reduceAdd, Nat.reduceSub, Nat.reduceMul, Int32.reduceLT, Int32.reduceLE, Int32.reduceToNatClampNeg, Int32.reduceAdd, Int32.reduceSub, implies_true, forall_const, isIn_e, bit_e, lits, e, c1, hB, c2, c3, c4]
theorem JA.cr (hJ : JA x y b0 s0 np na nm nr ne g m h) (e : CR m nr h h2) : JA x y b0 s0 np na nm nr ne g m h2 := by
  obtain ⟨⟨e1, e2, e3, e4, e5, e6, e7, e8, e9⟩, k1, k2, k3⟩ := e
  obtain ⟨q1, q2, q3, q4, q5, q6, q7, q8⟩ := hJ
  have k7 : JE y np na nm nr ne g m h2 := by
    unfold JE at q7 ⊢
    obtain ⟨r1, r2, r3, r4, r5, r6, r7, r8, r9⟩ := q7
    refine ⟨?_, ?_, ?_, ?_, ?_, ?_, ?_, ?_, ?_⟩
    rotate_left 6
    · intro r hr
      have := ruleOK_cg (r7 r hr) (fun j _ => rfl) (c2 := fun j => aI h2 153 (m 153) (100 * r + j)) (fun j hj => k1 _ (by omega)) (lb2 := fun j => aI h2 154 (m 154) (40 * r + j)) (lf2 := fun j => aI h2 155 (m 155) (40 * r + j)) (sg2 := fun j => aI h2 156 (m 156) (40 * r + j)) (rb2 := fun j => aI h2 157 (m 157) (40 * r + j)) (rf2 := fun j => aI h2 158 (m 158) (40 * r + j)) (fun j hj => k2 _ (by omega))
      obtain ⟨s1, s2⟩ := k3 r hr
      rw [← s1, ← s2] at this
      rw [e4, e8]
      exact this
    all_goals
      simp (config := {decide := true}) only [e3, e4, e5, e6, e7, e8, e9]
    · exact r8
    · exact r9
    · exact r1
    · exact r2
    · exact r3
    · exact r4
    · exact r5
    · exact r6
  refine ⟨?_, ?_, ?_, ?_, ?_, ?_, k7, ?_⟩
  · unfold JM at q1 ⊢
    rw [e3, e4, e5]
    exact q1
  · unfold JS at q2 ⊢
    rw [e3, e4, e5]
    exact q2
  · unfold JC at q3 ⊢
    simp (config := {decide := true}) only [e6]
    exact q3
  · unfold JG at q4 ⊢
    rw [e3, e4, e5, e9]
    simp (config := {decide := true}) only [e6, e7]
    exact q4
  · unfold JD at q5 ⊢
    rw [e3, e4, e5]
    simp (config := {decide := true}) only [e6, e7, e8]
    exact q5
  · unfold JW at q6 ⊢
    simp (config := {decide := true}) only [e6, e7]
    exact q6
  · unfold JR at q8 ⊢
    rw [e1, e2, e3]
    exact q8
theorem JA.flt (hJ : JA x y b0 s0 np na nm nr ne g m h) (v : Int32) : JA x y b0 s0 np na nm nr ne g m (sI (sI h 1298 x v) 1414 y v) := by
  obtain ⟨q1, q2, q3, q4, q5, q6, q7, q8⟩ := hJ
  refine ⟨q1, q2, ?_, ?_, ?_, ?_, ?_, q8⟩
  · unfold JC at q3 ⊢
    simp (config := {decide := true}) only [fR_sI, aI_sI, aL_sI, aR_sI, kd_sI, ln_sI, hn_sI, hm_sI, fI_sI_n, fI_sR, aI_sR, aL_sR, aR_sR, kd_sR, ln_sR, hn_sR, hm_sR, fR_sR_n, fI_tI, fR_tI, aL_tI, aR_tI, kd_tI, ln_tI, hn_tI, hm_tI, aI_tI_n, fI_tL, fR_tL, aI_tL, aR_tL, kd_tL, ln_tL, hn_tL, hm_tL, aL_tL_n, fI_tR, fR_tR, aI_tR, aL_tR, kd_tR, ln_tR, hn_tR, hm_tR, aR_tR_n, hn_nw, hm_nw, fI_sI_e, fR_sR_e, aI_tI_e, aL_tL_e, aR_tR_e, if_true]
    obtain ⟨⟨c1, c2, c3, c4, c5, c6, c7, c8, c9, c10, c11, c12⟩, c13⟩ := q3
    exact ⟨⟨c1, c2, c3, c4, c5, c6, c7, c8, c9, c10, c11, True.intro⟩, c13⟩
  · unfold JG at q4 ⊢
    simp (config := {decide := true}) only [fR_sI, aI_sI, aL_sI, aR_sI, kd_sI, ln_sI, hn_sI, hm_sI, fI_sI_n, fI_sR, aI_sR, aL_sR, aR_sR, kd_sR, ln_sR, hn_sR, hm_sR, fR_sR_n, fI_tI, fR_tI, aL_tI, aR_tI, kd_tI, ln_tI, hn_tI, hm_tI, aI_tI_n, fI_tL, fR_tL, aI_tL, aR_tL, kd_tL, ln_tL, hn_tL, hm_tL, aL_tL_n, fI_tR, fR_tR, aI_tR, aL_tR, kd_tR, ln_tR, hn_tR, hm_tR, aR_tR_n, hn_nw, hm_nw]
    exact q4
  · unfold JD at q5 ⊢
    simp (config := {decide := true}) only [fR_sI, aI_sI, aL_sI, aR_sI, kd_sI, ln_sI, hn_sI, hm_sI, fI_sI_n, fI_sR, aI_sR, aL_sR, aR_sR, kd_sR, ln_sR, hn_sR, hm_sR, fR_sR_n, fI_tI, fR_tI, aL_tI, aR_tI, kd_tI, ln_tI, hn_tI, hm_tI, aI_tI_n, fI_tL, fR_tL, aI_tL, aR_tL, kd_tL, ln_tL, hn_tL, hm_tL, aL_tL_n, fI_tR, fR_tR, aI_tR, aL_tR, kd_tR, ln_tR, hn_tR, hm_tR, aR_tR_n, hn_nw, hm_nw]
    exact q5
  · unfold JW at q6 ⊢
    simp (config := {decide := true}) only [fR_sI, aI_sI, aL_sI, aR_sI, kd_sI, ln_sI, hn_sI, hm_sI, fI_sI_n, fI_sR, aI_sR, aL_sR, aR_sR, kd_sR, ln_sR, hn_sR, hm_sR, fR_sR_n, fI_tI, fR_tI, aL_tI, aR_tI, kd_tI, ln_tI, hn_tI, hm_tI, aI_tI_n, fI_tL, fR_tL, aI_tL, aR_tL, kd_tL, ln_tL, hn_tL, hm_tL, aL_tL_n, fI_tR, fR_tR, aI_tR, aL_tR, kd_tR, ln_tR, hn_tR, hm_tR, aR_tR_n, hn_nw, hm_nw]
    exact q6
  · unfold JE at q7 ⊢
    simp (config := {decide := true}) only [fR_sI, aI_sI, aL_sI, aR_sI, kd_sI, ln_sI, hn_sI, hm_sI, fI_sI_n, fI_sR, aI_sR, aL_sR, aR_sR, kd_sR, ln_sR, hn_sR, hm_sR, fR_sR_n, fI_tI, fR_tI, aL_tI, aR_tI, kd_tI, ln_tI, hn_tI, hm_tI, aI_tI_n, fI_tL, fR_tL, aI_tL, aR_tL, kd_tL, ln_tL, hn_tL, hm_tL, aL_tL_n, fI_tR, fR_tR, aI_tR, aL_tR, kd_tR, ln_tR, hn_tR, hm_tR, aR_tR_n, hn_nw, hm_nw]
    exact q7
theorem growRule {b1 s1 N : Nat} {lv dy : Int32} (hJ : JA x y b1 s1 np na nm nr ne g m E) (n12 : nr < 12) (e3 : kd F = kd E) (e4 : ln F = ln E) (e5 : fR F = fR E) (e6 : ∀ f, rlF f = false → fI F f = fI E f) (e7 : ∀ k, rlK k = false → aI F k = aI E k) (e8 : aL F = aL E) (e9 : ∀ k, k ≠ 400 → k ≠ 407 → aR F k = aR E k) (c1 : fI F 1295 x = nI (nr + 1)) (c2 : fI F 1412 y = nI (nr + 1)) (c3 : fI F 1298 x = fI F 1414 y) (o1 : kd E N = 8) (o2 : fI E 896 N = nI nr) (o3 : fI E 897 N = lv) (o4 : fI E 898 N = dy) (o5 : fR E 899 N = some (N + 1)) (o6 : fI E 900 N = -1) (o7 : kd E (N + 1) = 399) (a1 : ∀ j, j < nr → aR F 407 (g 0 4) j = aR E 407 (g 0 4) j) (a2 : aR F 407 (g 0 4) nr = some N) (d1 : ∀ j, j < nr → aI F 148 (m 148) j = aI E 148 (m 148) j ∧ aI F 149 (m 149) j = aI E 149 (m 149) j ∧ aI F 150 (m 150) j = aI E 150 (m 150) j) (d2 : aI F 148 (m 148) nr = lv) (d3 : aI F 149 (m 149) nr = dy) (d4 : aI F 150 (m 150) nr = -1) (f1 : ∀ j, j < nr → aI F 151 (m 151) j = aI E 151 (m 151) j ∧ aI F 152 (m 152) j = aI E 152 (m 152) j) (f2 : ∀ j, j < 100 * nr → aI F 153 (m 153) j = aI E 153 (m 153) j) (f3 : ∀ j, j < 40 * nr → aI F 154 (m 154) j = aI E 154 (m 154) j ∧ aI F 155 (m 155) j = aI E 155 (m 155) j ∧ aI F 156 (m 156) j = aI E 156 (m 156) j ∧ aI F 157 (m 157) j = aI E 157 (m 157) j ∧ aI F 158 (m 158) j = aI E 158 (m 158) j) (ru : ruleOK (fun j => (aL E 399 (N + 1) j).toInt32) (ln E (N + 1)) (fun j => aI F 153 (m 153) (100 * nr + j)) (aI F 151 (m 151) nr) (fun j => aI F 154 (m 154) (40 * nr + j)) (fun j => aI F 155 (m 155) (40 * nr + j)) (fun j => aI F 156 (m 156) (40 * nr + j)) (fun j => aI F 157 (m 157) (40 * nr + j)) (fun j => aI F 158 (m 158) (40 * nr + j)) (aI F 152 (m 152) nr)) (hl : 1 ≤ lv.toInt ∧ lv.toInt ≤ 3) (hd : 0 ≤ dy.toInt ∧ dy.toInt ≤ 4000) (hR : JR b0 s0 np na nm (nr + 1) ne F) : JA x y b0 s0 np na nm (nr + 1) ne (upG (upG g 5 nr N) 12 nr (N + 1)) m F := by
  obtain ⟨q1, q2, q3, q4, q5, q6, q7, q8⟩ := hJ
  refine ⟨?_, ?_, ?_, ?_, ?_, ?_, ?_, hR⟩
  · unfold JM at q1 ⊢
    rw [e3, e4, e5]
    exact q1
  · unfold JS at q2 ⊢
    rw [e3, e4, e5]
    simp only [upG_n, ne_eq, Nat.reduceEqDiff, not_false_eq_true]
    exact q2
  · unfold JC at q3 ⊢
    simp (config := {decide := true}) only [e6]
    obtain ⟨⟨k1, k2, k3, k4, k5, k6, k7, k8, k9, k10, k11, k12⟩, k13⟩ := q3
    exact ⟨⟨k1, k2, k3, c1, k5, k6, k7, k8, c2, k10, k11, c3⟩, by omega⟩
  · have hG := q4
    unfold JG
    rw [e3, e4, e5]
    simp (config := {decide := true}) only [e6, e7, e9, upG_n, upG_e]
    refine ⟨JG.pl_at hG, JG.pl_kd hG, JG.pl_no hG, JG.py_at hG, JG.py_kd hG, JG.py_ln hG, JG.py_in hG, JG.sh_at hG, JG.sh_kd hG, JG.se_at hG, JG.se_kd hG, JG.se_ln hG, JG.sh_in hG, JG.se_in hG, JG.as_at hG, JG.as_kd hG, JG.as_no hG, JG.mo_at hG, JG.mo_kd hG, JG.mo_no hG, JG.mw_at hG, JG.mw_kd hG, JG.mw_ln hG, all_s (fun i hi => ?_) ?_, all_s (fun i hi => ?_) ?_, all_s (fun i hi => ?_) ?_, all_s (fun i hi => ?_) ?_, all_s (fun i hi => ?_) ?_, JG.pe_at hG, JG.pe_kd hG, JG.pe_no hG⟩
    · rw [if_neg (by omega), a1 i hi]; exact hG.ru_at i hi
    · rw [if_pos rfl]; exact a2
    · rw [if_neg (by omega)]; exact hG.ru_kd i hi
    · rw [if_pos rfl]; exact o1
    · rw [if_neg (by omega)]; exact hG.ru_no i hi
    · rw [if_pos rfl]; exact o2
    · rw [if_neg (by omega), if_neg (by omega)]; exact hG.rl_at i hi
    · rw [if_pos rfl, if_pos rfl]; exact o5
    · rw [if_neg (by omega)]; exact hG.rl_kd i hi
    · rw [if_pos rfl]; exact o7
  · have hD := q5
    unfold JD
    rw [e3, e4, e5]
    simp (config := {decide := true}) only [e6, e7, e8, upG_n, upG_e]
    refine ⟨JD.d_lev hD, JD.d_und hD, JD.d_way hD, JD.d_ord hD, JD.d_mad hD, JD.d_tor hD, JD.d_cho hD, JD.d_yes hD, JD.d_srt hD, JD.d_siz hD, JD.d_sha hD, JD.d_cel hD, JD.d_at hD, JD.d_wha hD, JD.d_who hD, JD.d_muc hD, JD.d_wri hD, JD.d_kin hD, JD.d_lat hD, JD.d_gap hD, JD.d_gon hD, JD.d_yie hD, JD.d_wor hD, JD.d_mod hD, JD.d_int hD, JD.d_dro hD, JD.d_wds hD, JD.d_wdn hD, JD.d_mwh hD, JD.d_mda hD, JD.d_mpl hD, JD.d_mwd hD, all_s (fun i hi => ?_) ?_, all_s (fun i hi => ?_) ?_, all_s (fun i hi => ?_) ?_, JD.d_ppl hD, JD.d_pbo hD, JD.d_cla hD, JD.d_ref hD⟩
    · rw [if_neg (by omega), (d1 i hi).1]; exact hD.d_rle i hi
    · rw [if_pos rfl, d2]; exact o3
    · rw [if_neg (by omega), (d1 i hi).2.1]; exact hD.d_rda i hi
    · rw [if_pos rfl, d3]; exact o4
    · rw [if_neg (by omega), (d1 i hi).2.2]; exact hD.d_rst i hi
    · rw [if_pos rfl, d4]; exact o6
  · have hW := q6
    unfold JW
    simp (config := {decide := true}) only [e6, e7]
    refine ⟨JW.w_l0 hW, JW.w_u0 hW, JW.w_und hW, JW.w_lev hW, JW.w_lv3 hW, JW.w_way hW, JW.w_hea hW, JW.w_tor hW, JW.w_tlv hW, JW.w_cho hW, JW.w_c0 hW, JW.w_mad hW, JW.w_mlv hW, JW.w_yes hW, JW.w_hel hW, JW.w_srt hW, JW.w_siz hW, JW.w_sho hW, JW.w_at hW, JW.w_wha hW, JW.w_who hW, JW.w_muc hW, JW.w_wri hW, JW.w_kin hW, JW.w_klv hW, JW.w_mod hW, JW.w_kmo hW, JW.w_int hW, JW.w_dro hW, JW.w_gon hW, JW.w_lat hW, JW.w_gap hW, JW.w_yie hW, JW.w_wor hW, JW.w_wdn hW, JW.w_nsg hW, JW.w_gto hW, JW.w_one hW, JW.w_mwh hW, JW.w_mpl hW, JW.w_mda hW, JW.w_mn hW, all_s (fun i hi => ?_) ?_, all_s (fun i hi => ?_) ?_, all_s (fun i hi => ?_) ?_, JW.w_ppl hW, JW.w_pbo hW, JW.w_cla hW, JW.w_csy hW, JW.w_now hW, JW.w_amd hW, JW.w_hl0 hW, JW.w_src hW, JW.w_zgp hW, JW.w_zyi hW, JW.w_zwn hW, JW.w_zma hW, JW.w_zys hW⟩
    · rw [(d1 i hi).1]; exact hW.w_rle i hi
    · rw [d2]; exact hl
    · rw [(d1 i hi).2.1]; exact hW.w_rda i hi
    · rw [d3]; exact hd
    · rw [(d1 i hi).2.2]; exact hW.w_rst i hi
    · rw [d4]; decide
  · have hE := q7
    unfold JE
    rw [e3, e4, e5]
    simp (config := {decide := true}) only [e6, e7, e8, e9, upG_n, upG_e]
    refine ⟨JE.e_hs hE, JE.e_be hE, JE.e_hb hE, JE.e_pa hE, JE.e_pn hE, JE.e_lk hE, all_s (fun i hi => ?_) ?_, JE.e_bs hE, JE.e_bb hE⟩
    · rw [if_neg (by omega)]
      have := ruleOK_cg (hE.e_ru i hi) (fun j _ => rfl) (c2 := fun j => aI F 153 (m 153) (100 * i + j)) (fun j hj => f2 _ (by omega)) (lb2 := fun j => aI F 154 (m 154) (40 * i + j)) (lf2 := fun j => aI F 155 (m 155) (40 * i + j)) (sg2 := fun j => aI F 156 (m 156) (40 * i + j)) (rb2 := fun j => aI F 157 (m 157) (40 * i + j)) (rf2 := fun j => aI F 158 (m 158) (40 * i + j)) (fun j hj => f3 _ (by omega))
      obtain ⟨s1, s2⟩ := f1 i hi
      rw [← s1, ← s2] at this
      exact this
    · rw [if_pos rfl]
      exact ru
end RULA
