/-- all as it was, but for some fields and some kinds of arrays -/
def eqX (F K : Nat → Bool) (h h2 : Hp) : Prop := hn h2 = hn h ∧ hm h2 = hm h ∧ kd h2 = kd h ∧ ln h2 = ln h ∧ fR h2 = fR h ∧ (∀ f, F f = false → fI h2 f = fI h f) ∧ (∀ k, K k = false → aI h2 k = aI h k) ∧ aL h2 = aL h ∧ aR h2 = aR h
section EQX
variable {F K F2 K2 : Nat → Bool} {h h1 h2 : Hp}
theorem eqX.rf (h : Hp) : eqX F K h h := ⟨rfl, rfl, rfl, rfl, rfl, fun _ _ => rfl, fun _ _ => rfl, rfl, rfl⟩
theorem eqX.tr (a : eqX F K h h1) (b : eqX F K h1 h2) : eqX F K h h2 := by
  obtain ⟨a1, a2, a3, a4, a5, a6, a7, a8, a9⟩ := a
  obtain ⟨b1, b2, b3, b4, b5, b6, b7, b8, b9⟩ := b
  exact ⟨b1.trans a1, b2.trans a2, b3.trans a3, b4.trans a4, b5.trans a5, fun f q => (b6 f q).trans (a6 f q), fun f q => (b7 f q).trans (a7 f q), b8.trans a8, b9.trans a9⟩
theorem eqX.sI (a : eqX F K h h1) {f : Nat} (hf : F f = true) (b : Nat) (v : Int32) : eqX F K h (sI h1 f b v) := by
  refine a.tr ⟨rfl, rfl, rfl, rfl, rfl, fun f2 q => fI_sI_n _ _ _ _ _ (fun e => ?_), fun _ _ => rfl, rfl, rfl⟩
  rw [e, hf] at q
  cases q
theorem eqX.tI (a : eqX F K h h1) {k : Nat} (hk : K k = true) (b j : Nat) (v : Int32) : eqX F K h (tI h1 k b j v) := by
  refine a.tr ⟨rfl, rfl, rfl, rfl, rfl, fun _ _ => rfl, fun k2 q => aI_tI_n _ _ _ _ _ _ (fun e => ?_), rfl, rfl⟩
  rw [e, hk] at q
  cases q
theorem eqX.up (hF : ∀ f, F2 f = false → F f = false) (hK : ∀ k, K2 k = false → K k = false) (a : eqX F K h h1) : eqX F2 K2 h h1 := by
  obtain ⟨a1, a2, a3, a4, a5, a6, a7, a8, a9⟩ := a
  exact ⟨a1, a2, a3, a4, a5, fun f q => a6 f (hF f q), fun k q => a7 k (hK k q), a8, a9⟩
theorem eqX.s (hF : ∀ f, isSf f = false → F f = false) (hK : ∀ k, isSk k = false → K k = false) (a : eqX F K h h1) : eqS h h1 := by
  obtain ⟨a1, a2, a3, a4, a5, a6, a7, a8, a9⟩ := a
  exact ⟨a1, a2, a3, a4, a5, fun f q => a6 f (hF f q), fun k q => a7 k (hK k q), fun k _ => congrFun a8 k, fun k _ => congrFun a9 k⟩
theorem eqX.b (hF : ∀ f, isBf f = false → F f = false) (hK : ∀ k, isBk k = false → K k = false) (a : eqX F K h h1) : eqB h h1 := by
  obtain ⟨a1, a2, a3, a4, a5, a6, a7, a8, a9⟩ := a
  exact ⟨a1, a2, a3, a4, a5, fun f q => a6 f (hF f q), fun k q => a7 k (hK k q), fun k _ => congrFun a8 k, fun k _ => congrFun a9 k⟩
end EQX
def qaF (f : Nat) : Bool := f == 771
def qaK (k : Nat) : Bool := k == 106 || k == 107
theorem qa_sF : ∀ f, isSf f = false → qaF f = false := by
  intro f q
  unfold isSf at q
  unfold qaF
  simp at q ⊢
  omega
theorem qa_sK : ∀ k, isSk k = false → qaK k = false := by
  intro f q
  unfold isSk at q
  unfold qaK
  simp at q ⊢
  omega
section ADDB
variable {x y b0 s0 np na nm nr ne : Nat} {g : Nat → Nat → Nat} {m : Nat → Nat} {h : Hp}
theorem clB_sy (hC : CB x na g m h) {a b : Nat} (ha : a < 16) (hb : b < 16) : clP h m a b = clP h m b a := by
  unfold clP
  rw [hC.2.2.2.2.1 a b ha hb]
theorem addB_e (hC : CB x na g m h) {W : List Nat} {v : Nat} (hq : QQ g m h W) (hl : W.length < 12) (hv : v < 16) (Q : Hp → Prop) (hQ : ∀ h', eqX qaF qaK h h' → QQ g m h' (W ++ [v]) → Q h') : w_X6_add (some (g 0 10)) (nI v) h Q := by
  have hB := hC.1
  unfold JS at hB
  obtain ⟨-, q16, qn, qw, qf⟩ := hq
  generalize hn : W.length = n at *
  have cn := cnF hl (Nat.le_refl 12) (by decide)
  have cn2 := cnF (show n < 13 by omega) (Nat.le_refl 13) (by decide)
  have l12 : nI n < 12 := cn.1
  unfold w_X6_add n_X6_add_0
  simp only [gI_e, gR_e, pI_e, pZ_e, pR_e, ldI_e, ldZ_e, ldL_e, ldR_e, stI_e, stZ_e, stL_e, stR_e, alN_e, nwA_e, nwO_e, dvI_e, rmI_e, oV_e, oN_e, lt_e, rZ_e, br_T, br_F, fR_sI, aI_sI, aL_sI, aR_sI, kd_sI, ln_sI, hn_sI, hm_sI, fI_sI_n, fI_sR, aI_sR, aL_sR, aR_sR, kd_sR, ln_sR, hn_sR, hm_sR, fR_sR_n, fI_tI, fR_tI, aL_tI, aR_tI, kd_tI, ln_tI, hn_tI, hm_tI, aI_tI_n, fI_tL, fR_tL, aI_tL, aR_tL, kd_tL, ln_tL, hn_tL, hm_tL, aL_tL_n, fI_tR, fR_tR, aI_tR, aL_tR, kd_tR, ln_tR, hn_tR, hm_tR, aR_tR_n, hn_nw, hm_nw, rc400, rc403, rc404, rc405, rc407, rc409, rc420, rc440, bI_0, bI_1, bI_T, bI_F, iF_T, iF_F, br_not, le_nlt, not_true_eq_false, not_false_eq_true, and_self, and_true, true_and, and_false, false_and, or_true, true_or, or_false, false_or, ne_eq, reduceCtorEq, Nat.reduceLeDiff, Nat.reduceEqDiff, Nat.reduceLT, Nat.reduceAdd, Nat.reduceSub, Nat.reduceMul, Int32.reduceLT, Int32.reduceLE, Int32.reduceToNatClampNeg, Int32.reduceAdd, Int32.reduceSub, implies_true, forall_const, isIn_e, bit_e, lits, hB, qn, l12, cn]
  unfold l_X6_add_32
  refine Lo.count n (fun i s h' => eqX qaF qaK h h' ∧ s = nI i ∧ fI h' 771 (g 0 10) = nI n ∧ (∀ k, k < n → aI h' 106 (g 0 18) k = nI (W.getD k 0)) ∧ aI h' 106 (g 0 18) n = nI v ∧ (∀ k, k < n → ∀ j, j < 32 → (tb (aI h' 107 (g 0 19) k) j ↔ (j < n ∧ ¬ j = k ∧ clP h m (W.getD k 0) (W.getD j 0)) ∨ (j = n ∧ k < i ∧ clP h m v (W.getD k 0)))) ∧ (∀ j, j < 32 → (tb (aI h' 107 (g 0 19) n) j ↔ j < i ∧ clP h m v (W.getD j 0)))) ?_ 0 (Nat.zero_le _) _ _ ⟨((eqX.rf h).tI rfl _ _ _).tI rfl _ _ _, rfl, by simp (config := {decide := true}) only [fR_sI, aI_sI, aL_sI, aR_sI, kd_sI, ln_sI, hn_sI, hm_sI, fI_sI_n, fI_sR, aI_sR, aL_sR, aR_sR, kd_sR, ln_sR, hn_sR, hm_sR, fR_sR_n, fI_tI, fR_tI, aL_tI, aR_tI, kd_tI, ln_tI, hn_tI, hm_tI, aI_tI_n, fI_tL, fR_tL, aI_tL, aR_tL, kd_tL, ln_tL, hn_tL, hm_tL, aL_tL_n, fI_tR, fR_tR, aI_tR, aL_tR, kd_tR, ln_tR, hn_tR, hm_tR, aR_tR_n, hn_nw, hm_nw]; exact qn, ?_, ?_, ?_, ?_⟩
  rotate_left
  · intro k hk
    simp (config := {decide := true}) only [fR_sI, aI_sI, aL_sI, aR_sI, kd_sI, ln_sI, hn_sI, hm_sI, fI_sI_n, fI_sR, aI_sR, aL_sR, aR_sR, kd_sR, ln_sR, hn_sR, hm_sR, fR_sR_n, fI_tI, fR_tI, aL_tI, aR_tI, kd_tI, ln_tI, hn_tI, hm_tI, aI_tI_n, fI_tL, fR_tL, aI_tL, aR_tL, kd_tL, ln_tL, hn_tL, hm_tL, aL_tL_n, fI_tR, fR_tR, aI_tR, aL_tR, kd_tR, ln_tR, hn_tR, hm_tR, aR_tR_n, hn_nw, hm_nw, fI_sI_e, fR_sR_e, aI_tI_e, aL_tL_e, aR_tR_e, true_and]
    rw [if_neg (by omega)]
    exact qw k hk
  · simp (config := {decide := true}) only [fR_sI, aI_sI, aL_sI, aR_sI, kd_sI, ln_sI, hn_sI, hm_sI, fI_sI_n, fI_sR, aI_sR, aL_sR, aR_sR, kd_sR, ln_sR, hn_sR, hm_sR, fR_sR_n, fI_tI, fR_tI, aL_tI, aR_tI, kd_tI, ln_tI, hn_tI, hm_tI, aI_tI_n, fI_tL, fR_tL, aI_tL, aR_tL, kd_tL, ln_tL, hn_tL, hm_tL, aL_tL_n, fI_tR, fR_tR, aI_tR, aL_tR, kd_tR, ln_tR, hn_tR, hm_tR, aR_tR_n, hn_nw, hm_nw, fI_sI_e, fR_sR_e, aI_tI_e, aL_tL_e, aR_tR_e, true_and, if_true]
  · intro k hk j hj
    simp (config := {decide := true}) only [fR_sI, aI_sI, aL_sI, aR_sI, kd_sI, ln_sI, hn_sI, hm_sI, fI_sI_n, fI_sR, aI_sR, aL_sR, aR_sR, kd_sR, ln_sR, hn_sR, hm_sR, fR_sR_n, fI_tI, fR_tI, aL_tI, aR_tI, kd_tI, ln_tI, hn_tI, hm_tI, aI_tI_n, fI_tL, fR_tL, aI_tL, aR_tL, kd_tL, ln_tL, hn_tL, hm_tL, aL_tL_n, fI_tR, fR_tR, aI_tR, aL_tR, kd_tR, ln_tR, hn_tR, hm_tR, aR_tR_n, hn_nw, hm_nw, fI_sI_e, fR_sR_e, aI_tI_e, aL_tL_e, aR_tR_e, true_and]
    rw [if_neg (by omega), qf k hk j hj]
    exact ⟨Or.inl, fun z => z.elim id (fun w => absurd w.2.1 (Nat.not_lt_zero _))⟩
  · intro j hj
    simp (config := {decide := true}) only [fR_sI, aI_sI, aL_sI, aR_sI, kd_sI, ln_sI, hn_sI, hm_sI, fI_sI_n, fI_sR, aI_sR, aL_sR, aR_sR, kd_sR, ln_sR, hn_sR, hm_sR, fR_sR_n, fI_tI, fR_tI, aL_tI, aR_tI, kd_tI, ln_tI, hn_tI, hm_tI, aI_tI_n, fI_tL, fR_tL, aI_tL, aR_tL, kd_tL, ln_tL, hn_tL, hm_tL, aL_tL_n, fI_tR, fR_tR, aI_tR, aL_tR, kd_tR, ln_tR, hn_tR, hm_tR, aR_tR_n, hn_nw, hm_nw, fI_sI_e, fR_sR_e, aI_tI_e, aL_tL_e, aR_tR_e, true_and, if_true]
    rw [tb_0]
    exact ⟨False.elim, fun z => absurd z.1 (Nat.not_lt_zero _)⟩
  rintro i s h' hi ⟨hS, rfl, p1, p2, p3, p4, p5⟩ K hK
  have E1 : kd h' = kd h := hS.2.2.1
  have E2 : ln h' = ln h := hS.2.2.2.1
  have E3 : fR h' = fR h := hS.2.2.2.2.1
  have E4 : aI h' 105 = aI h 105 := hS.2.2.2.2.2.2.1 105 rfl
  unfold b_X6_add_32 n_X6_add_88
  by_cases e : i < n
  · have ci := cnF e (show n ≤ 12 by omega) (by decide)
    have w1 := p2 i e
    have hwi := q16 i e
    have told := hC.2.2.2.1 v (W.getD i 0) hv hwi
    have cv := cnF hv (Nat.le_refl 16) (by decide)
    have hbt := fun a h Q => hasBit_e a (show W.getD i 0 < 32 by omega) h Q
    by_cases t : clP h m v (W.getD i 0)
    · have t2 := told.mpr t
      simp (config := {decide := true}) only [gI_e, gR_e, pI_e, pZ_e, pR_e, ldI_e, ldZ_e, ldL_e, ldR_e, stI_e, stZ_e, stL_e, stR_e, alN_e, nwA_e, nwO_e, dvI_e, rmI_e, oV_e, oN_e, lt_e, rZ_e, br_T, br_F, fR_sI, aI_sI, aL_sI, aR_sI, kd_sI, ln_sI, hn_sI, hm_sI, fI_sI_n, fI_sR, aI_sR, aL_sR, aR_sR, kd_sR, ln_sR, hn_sR, hm_sR, fR_sR_n, fI_tI, fR_tI, aL_tI, aR_tI, kd_tI, ln_tI, hn_tI, hm_tI, aI_tI_n, fI_tL, fR_tL, aI_tL, aR_tL, kd_tL, ln_tL, hn_tL, hm_tL, aL_tL_n, fI_tR, fR_tR, aI_tR, aL_tR, kd_tR, ln_tR, hn_tR, hm_tR, aR_tR_n, hn_nw, hm_nw, rc400, rc403, rc404, rc405, rc407, rc409, rc420, rc440, bI_0, bI_1, bI_T, bI_F, iF_T, iF_F, br_not, le_nlt, not_true_eq_false, not_false_eq_true, and_self, and_true, true_and, and_false, false_and, or_true, true_or, or_false, false_or, ne_eq, reduceCtorEq, Nat.reduceLeDiff, Nat.reduceEqDiff, Nat.reduceLT, Nat.reduceAdd, Nat.reduceSub, Nat.reduceMul, Int32.reduceLT, Int32.reduceLE, Int32.reduceToNatClampNeg, Int32.reduceAdd, Int32.reduceSub, implies_true, forall_const, isIn_e, bit_e, lits, E1, E2, E3, E4, hB, p1, ci, cn, cv, w1, hbt, t2]
      refine hK _ _ e ⟨(hS.tI rfl _ _ _).tI rfl _ _ _, rfl, by simp (config := {decide := true}) only [fR_sI, aI_sI, aL_sI, aR_sI, kd_sI, ln_sI, hn_sI, hm_sI, fI_sI_n, fI_sR, aI_sR, aL_sR, aR_sR, kd_sR, ln_sR, hn_sR, hm_sR, fR_sR_n, fI_tI, fR_tI, aL_tI, aR_tI, kd_tI, ln_tI, hn_tI, hm_tI, aI_tI_n, fI_tL, fR_tL, aI_tL, aR_tL, kd_tL, ln_tL, hn_tL, hm_tL, aL_tL_n, fI_tR, fR_tR, aI_tR, aL_tR, kd_tR, ln_tR, hn_tR, hm_tR, aR_tR_n, hn_nw, hm_nw]; exact p1, ?_, ?_, ?_, ?_⟩
      · intro k hk
        simp (config := {decide := true}) only [fR_sI, aI_sI, aL_sI, aR_sI, kd_sI, ln_sI, hn_sI, hm_sI, fI_sI_n, fI_sR, aI_sR, aL_sR, aR_sR, kd_sR, ln_sR, hn_sR, hm_sR, fR_sR_n, fI_tI, fR_tI, aL_tI, aR_tI, kd_tI, ln_tI, hn_tI, hm_tI, aI_tI_n, fI_tL, fR_tL, aI_tL, aR_tL, kd_tL, ln_tL, hn_tL, hm_tL, aL_tL_n, fI_tR, fR_tR, aI_tR, aL_tR, kd_tR, ln_tR, hn_tR, hm_tR, aR_tR_n, hn_nw, hm_nw]
        exact p2 k hk
      · simp (config := {decide := true}) only [fR_sI, aI_sI, aL_sI, aR_sI, kd_sI, ln_sI, hn_sI, hm_sI, fI_sI_n, fI_sR, aI_sR, aL_sR, aR_sR, kd_sR, ln_sR, hn_sR, hm_sR, fR_sR_n, fI_tI, fR_tI, aL_tI, aR_tI, kd_tI, ln_tI, hn_tI, hm_tI, aI_tI_n, fI_tL, fR_tL, aI_tL, aR_tL, kd_tL, ln_tL, hn_tL, hm_tL, aL_tL_n, fI_tR, fR_tR, aI_tR, aL_tR, kd_tR, ln_tR, hn_tR, hm_tR, aR_tR_n, hn_nw, hm_nw]
        exact p3
      · intro k hk j hj
        simp (config := {decide := true}) only [fI_sI_e, fR_sR_e, aI_tI_e, aL_tL_e, aR_tR_e, true_and]
        rw [if_neg (by omega)]
        by_cases z : k = i
        · rw [if_pos z, z, tb_or, tb_1 (show n < 32 by omega), p4 i e j hj]
          constructor
          · rintro ((w | w) | w)
            · exact Or.inl w
            · omega
            · exact Or.inr ⟨w, by omega, t⟩
          · rintro (w | w)
            · exact Or.inl (Or.inl w)
            · exact Or.inr w.1
        · rw [if_neg z, p4 k hk j hj]
          constructor
          · exact fun w => w.imp id (fun w => ⟨w.1, by omega, w.2.2⟩)
          · exact fun w => w.imp id (fun w => ⟨w.1, by omega, w.2.2⟩)
      · intro j hj
        simp (config := {decide := true}) only [fI_sI_e, fR_sR_e, aI_tI_e, aL_tL_e, aR_tR_e, true_and, if_true]
        rw [if_neg (by omega), tb_or, tb_1 (show i < 32 by omega), p5 j hj]
        constructor
        · rintro (w | w)
          · exact ⟨by omega, w.2⟩
          · rw [w]; exact ⟨by omega, t⟩
        · rintro ⟨w1, w2⟩
          by_cases z : j = i
          · exact Or.inr z
          · exact Or.inl ⟨by omega, w2⟩
    · have t2 : ¬ tb (aI h 105 (g 0 17) v) (W.getD i 0) := fun w => t (told.mp w)
      simp (config := {decide := true}) only [gI_e, gR_e, pI_e, pZ_e, pR_e, ldI_e, ldZ_e, ldL_e, ldR_e, stI_e, stZ_e, stL_e, stR_e, alN_e, nwA_e, nwO_e, dvI_e, rmI_e, oV_e, oN_e, lt_e, rZ_e, br_T, br_F, fR_sI, aI_sI, aL_sI, aR_sI, kd_sI, ln_sI, hn_sI, hm_sI, fI_sI_n, fI_sR, aI_sR, aL_sR, aR_sR, kd_sR, ln_sR, hn_sR, hm_sR, fR_sR_n, fI_tI, fR_tI, aL_tI, aR_tI, kd_tI, ln_tI, hn_tI, hm_tI, aI_tI_n, fI_tL, fR_tL, aI_tL, aR_tL, kd_tL, ln_tL, hn_tL, hm_tL, aL_tL_n, fI_tR, fR_tR, aI_tR, aL_tR, kd_tR, ln_tR, hn_tR, hm_tR, aR_tR_n, hn_nw, hm_nw, rc400, rc403, rc404, rc405, rc407, rc409, rc420, rc440, bI_0, bI_1, bI_T, bI_F, iF_T, iF_F, br_not, le_nlt, not_true_eq_false, not_false_eq_true, and_self, and_true, true_and, and_false, false_and, or_true, true_or, or_false, false_or, ne_eq, reduceCtorEq, Nat.reduceLeDiff, Nat.reduceEqDiff, Nat.reduceLT, Nat.reduceAdd, Nat.reduceSub, Nat.reduceMul, Int32.reduceLT, Int32.reduceLE, Int32.reduceToNatClampNeg, Int32.reduceAdd, Int32.reduceSub, implies_true, forall_const, isIn_e, bit_e, lits, E1, E2, E3, E4, hB, p1, ci, cn, cv, w1, hbt, t2]
      refine hK _ _ e ⟨hS, rfl, p1, p2, p3, ?_, ?_⟩
      · intro k hk j hj
        rw [p4 k hk j hj]
        constructor
        · exact fun w => w.imp id (fun w => ⟨w.1, by omega, w.2.2⟩)
        · rintro (w | ⟨w1, w2, w3⟩)
          · exact Or.inl w
          · by_cases z : k = i
            · rw [z] at w3; exact absurd w3 t
            · exact Or.inr ⟨w1, by omega, w3⟩
      · intro j hj
        rw [p5 j hj]
        constructor
        · exact fun w => ⟨by omega, w.2⟩
        · rintro ⟨w1, w2⟩
          by_cases z : j = i
          · rw [z] at w2; exact absurd w2 t
          · exact ⟨by omega, w2⟩
  · obtain rfl : i = n := by omega
    simp (config := {decide := true}) only [gI_e, gR_e, pI_e, pZ_e, pR_e, ldI_e, ldZ_e, ldL_e, ldR_e, stI_e, stZ_e, stL_e, stR_e, alN_e, nwA_e, nwO_e, dvI_e, rmI_e, oV_e, oN_e, lt_e, rZ_e, br_T, br_F, fR_sI, aI_sI, aL_sI, aR_sI, kd_sI, ln_sI, hn_sI, hm_sI, fI_sI_n, fI_sR, aI_sR, aL_sR, aR_sR, kd_sR, ln_sR, hn_sR, hm_sR, fR_sR_n, fI_tI, fR_tI, aL_tI, aR_tI, kd_tI, ln_tI, hn_tI, hm_tI, aI_tI_n, fI_tL, fR_tL, aI_tL, aR_tL, kd_tL, ln_tL, hn_tL, hm_tL, aL_tL_n, fI_tR, fR_tR, aI_tR, aL_tR, kd_tR, ln_tR, hn_tR, hm_tR, aR_tR_n, hn_nw, hm_nw, rc400, rc403, rc404, rc405, rc407, rc409, rc420, rc440, bI_0, bI_1, bI_T, bI_F, iF_T, iF_F, br_not, le_nlt, not_true_eq_false, not_false_eq_true, and_self, and_true, true_and, and_false, false_and, or_true, true_or, or_false, false_or, ne_eq, reduceCtorEq, Nat.reduceLeDiff, Nat.reduceEqDiff, Nat.reduceLT, Nat.reduceAdd, Nat.reduceSub, Nat.reduceMul, Int32.reduceLT, Int32.reduceLE, Int32.reduceToNatClampNeg, Int32.reduceAdd, Int32.reduceSub, implies_true, forall_const, isIn_e, bit_e, lits, E1, E2, E3, hB, p1, lt_irr, n1]
    have len : (W ++ [v]).length = i + 1 := by rw [List.length_append, hn]; rfl
    have gl : ∀ k, k < i → (W ++ [v]).getD k 0 = W.getD k 0 := fun k hk => gD_l (by omega)
    have gr : (W ++ [v]).getD i 0 = v := by rw [← hn]; exact gD_r W v
    have cs : ∀ a b, clP (sI h' 771 (g 0 10) (nI (i + 1))) m a b = clP h m a b := fun a b => clP_same (eqX.s qa_sF qa_sK (hS.sI rfl _ _)) m a b
    refine hQ _ (hS.sI rfl _ _) ⟨by omega, ?_, ?_, ?_, ?_⟩
    · rw [len]
      intro k hk
      by_cases z : k = i
      · rw [z, gr]; exact hv
      · rw [gl k (by omega)]; exact q16 k (by omega)
    · rw [len]
      simp (config := {decide := true}) only [fI_sI_e, fR_sR_e, aI_tI_e, aL_tL_e, aR_tR_e, if_true]
    · rw [len]
      intro k hk
      simp (config := {decide := true}) only [fR_sI, aI_sI, aL_sI, aR_sI, kd_sI, ln_sI, hn_sI, hm_sI, fI_sI_n, fI_sR, aI_sR, aL_sR, aR_sR, kd_sR, ln_sR, hn_sR, hm_sR, fR_sR_n, fI_tI, fR_tI, aL_tI, aR_tI, kd_tI, ln_tI, hn_tI, hm_tI, aI_tI_n, fI_tL, fR_tL, aI_tL, aR_tL, kd_tL, ln_tL, hn_tL, hm_tL, aL_tL_n, fI_tR, fR_tR, aI_tR, aL_tR, kd_tR, ln_tR, hn_tR, hm_tR, aR_tR_n, hn_nw, hm_nw]
      by_cases z : k = i
      · rw [z, gr]; exact p3
      · rw [gl k (by omega)]; exact p2 k (by omega)
    · rw [len]
      intro k hk j hj
      simp (config := {decide := true}) only [fR_sI, aI_sI, aL_sI, aR_sI, kd_sI, ln_sI, hn_sI, hm_sI, fI_sI_n, fI_sR, aI_sR, aL_sR, aR_sR, kd_sR, ln_sR, hn_sR, hm_sR, fR_sR_n, fI_tI, fR_tI, aL_tI, aR_tI, kd_tI, ln_tI, hn_tI, hm_tI, aI_tI_n, fI_tL, fR_tL, aI_tL, aR_tL, kd_tL, ln_tL, hn_tL, hm_tL, aL_tL_n, fI_tR, fR_tR, aI_tR, aL_tR, kd_tR, ln_tR, hn_tR, hm_tR, aR_tR_n, hn_nw, hm_nw, cs]
      by_cases z : k = i
      · rw [z, gr, p5 j hj]
        constructor
        · rintro ⟨w1, w2⟩
          rw [gl j w1]
          exact ⟨by omega, by omega, w2⟩
        · rintro ⟨w1, w2, w3⟩
          rw [gl j (by omega)] at w3
          exact ⟨by omega, w3⟩
      · rw [gl k (by omega), p4 k (by omega) j hj]
        constructor
        · rintro (w | ⟨w1, w2, w3⟩)
          · rw [gl j w.1]
            exact ⟨by omega, w.2⟩
          · rw [w1, gr, clB_sy hC (q16 k (by omega)) hv]
            exact ⟨by omega, by omega, w3⟩
        · rintro ⟨w1, w2, w3⟩
          by_cases zj : j = i
          · rw [zj, gr, clB_sy hC (q16 k (by omega)) hv] at w3
            exact Or.inr ⟨zj, by omega, w3⟩
          · rw [gl j (by omega)] at w3
            exact Or.inl ⟨by omega, w2, w3⟩
theorem peaceB_e (hC : CB x na g m h) {W : List Nat} (hq : QQ g m h W) (v : Int32) (Q : Int32 → Hp → Prop) (hQ : Q (bI (pcP h m W (tb v))) h) : w_X6_isPeaceful (some (g 0 10)) v h Q := by
  have hB := hC.1
  unfold JS at hB
  obtain ⟨q12, q16, qn, qw, qf⟩ := hq
  unfold w_X6_isPeaceful n_X6_isPeaceful_0 l_X6_isPeaceful_2
  refine ex_lo (n := W.length) (fun i => tb v i ∧ ∃ j, j < W.length ∧ ¬ j = i ∧ tb v j ∧ clP h m (W.getD i 0) (W.getD j 0)) ?_ ?_
  · intro k hk K hK
    unfold b_X6_isPeaceful_2 n_X6_isPeaceful_31
    have c := cnF hk q12 (by decide)
    have hbt := fun h Q => hasBit_e v (show k < 32 by omega) h Q
    have z0 : (aI h 107 (g 0 19) k &&& v = 0) = ¬ ∃ j, j < W.length ∧ ¬ j = k ∧ tb v j ∧ clP h m (W.getD k 0) (W.getD j 0) := by
      rw [eq0_tb]
      apply propext
      constructor
      · rintro hn ⟨j, j1, j2, j3, j4⟩
        apply hn j (by omega)
        rw [tb_and]
        exact ⟨(qf k hk j (by omega)).mpr ⟨j1, j2, j4⟩, j3⟩
      · intro hn j hj w
        rw [tb_and] at w
        have := (qf k hk j hj).mp w.1
        exact hn ⟨j, this.1, this.2.1, w.2, this.2.2⟩
    by_cases t : tb v k
    · by_cases u : ∃ j, j < W.length ∧ ¬ j = k ∧ tb v j ∧ clP h m (W.getD k 0) (W.getD j 0)
      · have np : ¬ pcP h m W (tb v) := fun w => by
          obtain ⟨j, j1, j2, j3, j4⟩ := u
          exact w k hk t j j1 j2 j3 j4
        rw [bI_n np] at hQ
        have z1 : ¬ (aI h 107 (g 0 19) k &&& v = 0) := by rw [z0]; exact fun w => w u
        simp only [gI_e, gR_e, pI_e, pZ_e, pR_e, ldI_e, ldZ_e, ldL_e, ldR_e, stI_e, stZ_e, stL_e, stR_e, alN_e, nwA_e, nwO_e, dvI_e, rmI_e, oV_e, oN_e, lt_e, rZ_e, br_T, br_F, fR_sI, aI_sI, aL_sI, aR_sI, kd_sI, ln_sI, hn_sI, hm_sI, fI_sI_n, fI_sR, aI_sR, aL_sR, aR_sR, kd_sR, ln_sR, hn_sR, hm_sR, fR_sR_n, fI_tI, fR_tI, aL_tI, aR_tI, kd_tI, ln_tI, hn_tI, hm_tI, aI_tI_n, fI_tL, fR_tL, aI_tL, aR_tL, kd_tL, ln_tL, hn_tL, hm_tL, aL_tL_n, fI_tR, fR_tR, aI_tR, aL_tR, kd_tR, ln_tR, hn_tR, hm_tR, aR_tR_n, hn_nw, hm_nw, rc400, rc403, rc404, rc405, rc407, rc409, rc420, rc440, bI_0, bI_1, bI_T, bI_F, iF_T, iF_F, br_not, le_nlt, not_true_eq_false, not_false_eq_true, and_self, and_true, true_and, and_false, false_and, or_true, true_or, or_false, false_or, ne_eq, reduceCtorEq, Nat.reduceLeDiff, Nat.reduceEqDiff, Nat.reduceLT, Nat.reduceAdd, Nat.reduceSub, Nat.reduceMul, Int32.reduceLT, Int32.reduceLE, Int32.reduceToNatClampNeg, Int32.reduceAdd, Int32.reduceSub, implies_true, forall_const, isIn_e, bit_e, lits, hB, qn, c, hbt, t, z1]
        exact hQ
      · have z1 : aI h 107 (g 0 19) k &&& v = 0 := by rw [z0]; exact u
        simp only [gI_e, gR_e, pI_e, pZ_e, pR_e, ldI_e, ldZ_e, ldL_e, ldR_e, stI_e, stZ_e, stL_e, stR_e, alN_e, nwA_e, nwO_e, dvI_e, rmI_e, oV_e, oN_e, lt_e, rZ_e, br_T, br_F, fR_sI, aI_sI, aL_sI, aR_sI, kd_sI, ln_sI, hn_sI, hm_sI, fI_sI_n, fI_sR, aI_sR, aL_sR, aR_sR, kd_sR, ln_sR, hn_sR, hm_sR, fR_sR_n, fI_tI, fR_tI, aL_tI, aR_tI, kd_tI, ln_tI, hn_tI, hm_tI, aI_tI_n, fI_tL, fR_tL, aI_tL, aR_tL, kd_tL, ln_tL, hn_tL, hm_tL, aL_tL_n, fI_tR, fR_tR, aI_tR, aL_tR, kd_tR, ln_tR, hn_tR, hm_tR, aR_tR_n, hn_nw, hm_nw, rc400, rc403, rc404, rc405, rc407, rc409, rc420, rc440, bI_0, bI_1, bI_T, bI_F, iF_T, iF_F, br_not, le_nlt, not_true_eq_false, not_false_eq_true, and_self, and_true, true_and, and_false, false_and, or_true, true_or, or_false, false_or, ne_eq, reduceCtorEq, Nat.reduceLeDiff, Nat.reduceEqDiff, Nat.reduceLT, Nat.reduceAdd, Nat.reduceSub, Nat.reduceMul, Int32.reduceLT, Int32.reduceLE, Int32.reduceToNatClampNeg, Int32.reduceAdd, Int32.reduceSub, implies_true, forall_const, isIn_e, bit_e, lits, hB, qn, c, hbt, t, z1]
        exact hK (fun w => u w.2)
    · simp only [gI_e, gR_e, pI_e, pZ_e, pR_e, ldI_e, ldZ_e, ldL_e, ldR_e, stI_e, stZ_e, stL_e, stR_e, alN_e, nwA_e, nwO_e, dvI_e, rmI_e, oV_e, oN_e, lt_e, rZ_e, br_T, br_F, fR_sI, aI_sI, aL_sI, aR_sI, kd_sI, ln_sI, hn_sI, hm_sI, fI_sI_n, fI_sR, aI_sR, aL_sR, aR_sR, kd_sR, ln_sR, hn_sR, hm_sR, fR_sR_n, fI_tI, fR_tI, aL_tI, aR_tI, kd_tI, ln_tI, hn_tI, hm_tI, aI_tI_n, fI_tL, fR_tL, aI_tL, aR_tL, kd_tL, ln_tL, hn_tL, hm_tL, aL_tL_n, fI_tR, fR_tR, aI_tR, aL_tR, kd_tR, ln_tR, hn_tR, hm_tR, aR_tR_n, hn_nw, hm_nw, rc400, rc403, rc404, rc405, rc407, rc409, rc420, rc440, bI_0, bI_1, bI_T, bI_F, iF_T, iF_F, br_not, le_nlt, not_true_eq_false, not_false_eq_true, and_self, and_true, true_and, and_false, false_and, or_true, true_or, or_false, false_or, ne_eq, reduceCtorEq, Nat.reduceLeDiff, Nat.reduceEqDiff, Nat.reduceLT, Nat.reduceAdd, Nat.reduceSub, Nat.reduceMul, Int32.reduceLT, Int32.reduceLE, Int32.reduceToNatClampNeg, Int32.reduceAdd, Int32.reduceSub, implies_true, forall_const, isIn_e, bit_e, lits, hB, qn, c, hbt, t]
      exact hK (fun w => t w.1)
  · intro K hn
    unfold b_X6_isPeaceful_2
    have yp : pcP h m W (tb v) := fun i hi ti j hj hji tj hc => hn ⟨i, hi, ti, j, hj, hji, tj, hc⟩
    rw [bI_y yp] at hQ
    simp only [gI_e, gR_e, pI_e, pZ_e, pR_e, ldI_e, ldZ_e, ldL_e, ldR_e, stI_e, stZ_e, stL_e, stR_e, alN_e, nwA_e, nwO_e, dvI_e, rmI_e, oV_e, oN_e, lt_e, rZ_e, br_T, br_F, fR_sI, aI_sI, aL_sI, aR_sI, kd_sI, ln_sI, hn_sI, hm_sI, fI_sI_n, fI_sR, aI_sR, aL_sR, aR_sR, kd_sR, ln_sR, hn_sR, hm_sR, fR_sR_n, fI_tI, fR_tI, aL_tI, aR_tI, kd_tI, ln_tI, hn_tI, hm_tI, aI_tI_n, fI_tL, fR_tL, aI_tL, aR_tL, kd_tL, ln_tL, hn_tL, hm_tL, aL_tL_n, fI_tR, fR_tR, aI_tR, aL_tR, kd_tR, ln_tR, hn_tR, hm_tR, aR_tR_n, hn_nw, hm_nw, rc400, rc403, rc404, rc405, rc407, rc409, rc420, rc440, bI_0, bI_1, bI_T, bI_F, iF_T, iF_F, br_not, le_nlt, not_true_eq_false, not_false_eq_true, and_self, and_true, true_and, and_false, false_and, or_true, true_or, or_false, false_or, ne_eq, reduceCtorEq, Nat.reduceLeDiff, Nat.reduceEqDiff, Nat.reduceLT, Nat.reduceAdd, Nat.reduceSub, Nat.reduceMul, Int32.reduceLT, Int32.reduceLE, Int32.reduceToNatClampNeg, Int32.reduceAdd, Int32.reduceSub, implies_true, forall_const, isIn_e, bit_e, lits, hB, qn, lt_irr]
    exact hQ
end ADDB
