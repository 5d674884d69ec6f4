/-- fields and kinds of arrays that hold nothing from one call to the next -/
def isSf (f : Nat) : Bool := f == 259 || f == 260 || f == 771 || f == 1026 || f == 1027 || f == 1028 || f == 1029 || f == 1030 || f == 1468 || f == 1469 || f == 1470 || f == 1471 || f == 1472 || f == 1473 || f == 1474 || f == 1475 || f == 1476 || f == 1479
def isSk (k : Nat) : Bool := k == 102 || k == 103 || k == 106 || k == 107 || k == 108 || k == 109 || k == 111 || k == 162 || k == 163 || k == 164 || k == 165 || k == 166 || k == 167 || k == 169 || k == 170 || k == 171
def eqS (h h2 : Hp) : Prop := hn h2 = hn h ∧ hm h2 = hm h ∧ kd h2 = kd h ∧ ln h2 = ln h ∧ fR h2 = fR h ∧ (∀ f, isSf f = false → fI h2 f = fI h f) ∧ (∀ k, isSk k = false → aI h2 k = aI h k) ∧ (∀ k, k ≠ 311 → aL h2 k = aL h k) ∧ (∀ k, k ≠ 400 → aR h2 k = aR h k)
theorem eqS.rf (h : Hp) : eqS h h := ⟨rfl, rfl, rfl, rfl, rfl, fun _ _ => rfl, fun _ _ => rfl, fun _ _ => rfl, fun _ _ => rfl⟩
theorem eqS.tr {h h1 h2 : Hp} (a : eqS h h1) (b : eqS h1 h2) : eqS h h2 := by
  obtain ⟨a1, a2, a3, a4, a5, a6, a7, a8, a9⟩ := a
  obtain ⟨b1, b2, b3, b4, b5, b6, b7, b8, b9⟩ := b
  exact ⟨b1.trans a1, b2.trans a2, b3.trans a3, b4.trans a4, b5.trans a5, fun f q => (b6 f q).trans (a6 f q), fun f q => (b7 f q).trans (a7 f q), fun f q => (b8 f q).trans (a8 f q), fun f q => (b9 f q).trans (a9 f q)⟩
theorem eqS.sI {h h1 : Hp} (a : eqS h h1) {f : Nat} (hf : isSf f = true) (b : Nat) (v : Int32) : eqS h (sI h1 f b v) := by
  refine a.tr ⟨rfl, rfl, rfl, rfl, rfl, fun f2 q => fI_sI_n _ _ _ _ _ (fun e => ?_), fun _ _ => rfl, fun _ _ => rfl, fun _ _ => rfl⟩
  rw [e, hf] at q
  cases q
theorem eqS.tI {h h1 : Hp} (a : eqS h h1) {k : Nat} (hk : isSk k = true) (b j : Nat) (v : Int32) : eqS h (tI h1 k b j v) := by
  refine a.tr ⟨rfl, rfl, rfl, rfl, rfl, fun _ _ => rfl, fun k2 q => aI_tI_n _ _ _ _ _ _ (fun e => ?_), fun _ _ => rfl, fun _ _ => rfl⟩
  rw [e, hk] at q
  cases q
theorem eqS.tL {h h1 : Hp} (a : eqS h h1) (b j : Nat) (v : Int64) : eqS h (tL h1 311 b j v) :=
  a.tr ⟨rfl, rfl, rfl, rfl, rfl, fun _ _ => rfl, fun _ _ => rfl, fun k2 q => aL_tL_n _ _ _ _ _ _ q, fun _ _ => rfl⟩
theorem eqS.tR {h h1 : Hp} (a : eqS h h1) (b j : Nat) (v : Option Nat) : eqS h (tR h1 400 b j v) :=
  a.tr ⟨rfl, rfl, rfl, rfl, rfl, fun _ _ => rfl, fun _ _ => rfl, fun _ _ => rfl, fun k2 q => aR_tR_n _ _ _ _ _ _ q⟩
section KEEP
variable {x y b0 s0 np na nm nr ne : Nat} {g : Nat → Nat → Nat} {m : Nat → Nat} {h h2 : Hp}
theorem JA.same (hJ : JA x y b0 s0 np na nm nr ne g m h) (e : eqS h h2) : JA x y b0 s0 np na nm nr ne g m h2 := by
  obtain ⟨e1, e2, e3, e4, e5, e6, e7, e8, e9⟩ := e
  have f6 : ∀ f, isSf f = false → ∀ a, fI h2 f a = fI h f a := fun f q a => by rw [e6 f q]
  unfold JA JM JS JC JG JD JW JE JR at hJ ⊢
  rw [e1, e2, e3, e4, e5]
  simp (config := {decide := true}) only [e6, e7, e8, e9]
  exact hJ
theorem refuse_e (hJ : JA x y b0 s0 np na nm nr ne g m h) (k : Nat) (hk : 1 ≤ k ∧ k ≤ 7) (Q : Int32 → Hp → Prop) : w_X10_refuse (some x) (-(nI k)) h Q = Q (-(nI k)) (tI h 110 (g 0 6) (k - 1) (aI h 110 (g 0 6) (k - 1) + 1)) := by
  obtain ⟨-, hB, -⟩ := hJ
  unfold JS at hB
  unfold w_X10_refuse n_X10_refuse_0 n_X10_refuse_24
  obtain ⟨k0, rfl⟩ : ∃ k0, k = k0 + 1 := ⟨k - 1, by omega⟩
  have e : (-1) - -(nI (k0 + 1)) = nI k0 := by
    rw [← nI_pred k0]
    rw [Int32.sub_eq_add_neg, Int32.neg_neg, Int32.sub_eq_add_neg, Int32.add_comm]
  have c1 : ¬ nI k0 < 0 ∧ ¬ 6 < nI k0 := ⟨nI_pos (by omega), fun q => by
    have := (nI_ltI (a := 6) (b := k0) (by omega) (by omega)).mp q
    omega⟩
  have c2 : vp_in (nI k0) 7 := vp_in_nI (by omega) (by omega)
  have e3 : (nI k0).toNatClampNeg = k0 := nI_clamp (by omega)
  simp only [lt_e, e]
  simp only [gI_e, gR_e, pI_e, pZ_e, pR_e, ldI_e, ldZ_e, ldL_e, ldR_e, stI_e, stZ_e, stL_e, stR_e, alN_e, nwA_e, nwO_e, dvI_e, rmI_e, oV_e, oN_e, lt_e, rZ_e, br_T, br_F, fR_sI, aI_sI, aL_sI, aR_sI, kd_sI, ln_sI, hn_sI, hm_sI, fI_sI_n, fI_sR, aI_sR, aL_sR, aR_sR, kd_sR, ln_sR, hn_sR, hm_sR, fR_sR_n, fI_tI, fR_tI, aL_tI, aR_tI, kd_tI, ln_tI, hn_tI, hm_tI, aI_tI_n, fI_tL, fR_tL, aI_tL, aR_tL, kd_tL, ln_tL, hn_tL, hm_tL, aL_tL_n, fI_tR, fR_tR, aI_tR, aL_tR, kd_tR, ln_tR, hn_tR, hm_tR, aR_tR_n, hn_nw, hm_nw, rc400, rc403, rc404, rc405, rc407, rc409, rc420, rc440, bI_0, bI_1, bI_T, bI_F, iF_T, iF_F, br_not, le_nlt, not_true_eq_false, not_false_eq_true, and_self, and_true, true_and, and_false, false_and, or_true, true_or, or_false, false_or, ne_eq, reduceCtorEq, Nat.reduceLeDiff, Nat.reduceEqDiff, Nat.reduceLT, Nat.reduceAdd, Nat.reduceSub, Nat.reduceMul, Int32.reduceLT, Int32.reduceLE, Int32.reduceToNatClampNeg, Int32.reduceAdd, Int32.reduceSub, implies_true, forall_const, isIn_e, bit_e, lits, hB, c1, c2, e3, Nat.add_sub_cancel]
end KEEP
