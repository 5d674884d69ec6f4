/-- all that was there is as it was, but for some links and the counts -/
def eqU (h h1 : Hp) : Prop := ∀ a, kd h a ≠ 0 → kd h1 a = kd h a ∧ ln h1 a = ln h a ∧ (∀ f, f ≠ 1293 → fI h1 f a = fI h f a) ∧ (∀ f, f ≠ 15 → f ≠ 16 → fR h1 f a = fR h f a) ∧ (∀ k, aI h1 k a = aI h k a) ∧ (∀ k, k ≠ 440 → aR h1 k a = aR h k a) ∧ ∀ k, aL h1 k a = aL h k a
theorem eqU.rf (h : Hp) : eqU h h := fun _ _ => ⟨rfl, rfl, fun _ _ => rfl, fun _ _ _ => rfl, fun _ => rfl, fun _ _ => rfl, fun _ => rfl⟩
theorem eqU.tr {h h1 h2 : Hp} (a : eqU h h1) (b : eqU h1 h2) : eqU h h2 := by
  intro c hc
  obtain ⟨a1, a2, a3, a4, a5, a6, a7⟩ := a c hc
  obtain ⟨b1, b2, b3, b4, b5, b6, b7⟩ := b c (by rw [a1]; exact hc)
  exact ⟨b1.trans a1, b2.trans a2, fun f q => (b3 f q).trans (a3 f q), fun f q r => (b4 f q r).trans (a4 f q r), fun k => (b5 k).trans (a5 k), fun k q => (b6 k q).trans (a6 k q), fun k => (b7 k).trans (a7 k)⟩
theorem eqU_nw {h h1 : Hp} (a : eqU h h1) (hz : kd h1 (hn h1) = 0) (k n : Nat) : eqU h (nw h1 k n) := by
  intro c hc
  obtain ⟨a1, a2, a3, a4, a5, a6, a7⟩ := a c hc
  have ne : c ≠ hn h1 := fun e => hc (by rw [← a1, e]; exact hz)
  exact ⟨(kd_nw_o _ _ _ _ ne).trans a1, (ln_nw_o _ _ _ _ ne).trans a2, fun f q => (fI_nw_o _ _ _ _ _ ne).trans (a3 f q), fun f q r => (fR_nw_o _ _ _ _ _ ne).trans (a4 f q r), fun k2 => (funext fun j => aI_nw_o _ _ _ _ _ _ ne).trans (a5 k2), fun k2 q => (funext fun j => by
    show (if c = hn h1 then none else aR h1 k2 c j) = aR h1 k2 c j
    rw [if_neg ne]).trans (a6 k2 q), fun k2 => (funext fun j => aL_nw_o _ _ _ _ _ _ ne).trans (a7 k2)⟩
theorem eqU_sI {h h1 : Hp} (a : eqU h h1) {f b : Nat} (hb : kd h b = 0 ∨ f = 1293) (v : Int32) : eqU h (sI h1 f b v) := by
  intro c hc
  obtain ⟨a1, a2, a3, a4, a5, a6, a7⟩ := a c hc
  refine ⟨a1, a2, fun f2 q => ?_, a4, a5, a6, a7⟩
  show u2 h1.1 f b v f2 c = _
  unfold u2
  rw [if_neg (fun w => hb.elim (fun z => hc (by rw [w.2]; exact z)) (fun z => q (w.1.trans z)))]
  exact a3 f2 q
theorem eqU_sR {h h1 : Hp} (a : eqU h h1) {f b : Nat} (hb : kd h b = 0 ∨ f = 15 ∨ f = 16) (v : Option Nat) : eqU h (sR h1 f b v) := by
  intro c hc
  obtain ⟨a1, a2, a3, a4, a5, a6, a7⟩ := a c hc
  refine ⟨a1, a2, a3, fun f2 q r => ?_, a5, a6, a7⟩
  show u2 h1.2.1 f b v f2 c = _
  unfold u2
  rw [if_neg (fun w => hb.elim (fun z => hc (by rw [w.2]; exact z)) (fun z => z.elim (fun z => q (w.1.trans z)) (fun z => r (w.1.trans z))))]
  exact a4 f2 q r
theorem eqU_tR {h h1 : Hp} (a : eqU h h1) {k b : Nat} (hb : kd h b = 0 ∨ k = 440) (j : Nat) (v : Option Nat) : eqU h (tR h1 k b j v) := by
  intro c hc
  obtain ⟨a1, a2, a3, a4, a5, a6, a7⟩ := a c hc
  refine ⟨a1, a2, a3, a4, a5, fun k2 q => ?_, a7⟩
  funext i
  show u3 h1.2.2.2.2.1 k b j v k2 c i = _
  unfold u3
  rw [if_neg (fun w => hb.elim (fun z => hc (by rw [w.2.1]; exact z)) (fun z => q (w.1.trans z)))]
  exact congrFun (a6 k2 q) i
/-- the parts are linked, one after another -/
def lkH (g : Nat → Nat → Nat) (A N : Nat) (L : List Nat) : Nat → Hp → Hp
  | 0, h => h
  | i + 1, h => sR (tR (lkH g A N L i h) 420 A i (some (g 3 (L.getD i 0)))) 15 (g 3 (L.getD i 0)) (some N)
/-- a new merged book, before its parts are linked -/
def mkH (h : Hp) (na : Nat) (pl : Nat) (c d v now hs : Int32) (n : Nat) : Hp := nw (sI (sI (sI (sI (sI (sR (sI (sI (sI (sI (nw h 1 19) 14 (hn h) (-1)) 18 (hn h) (-1)) 0 (hn h) (nI na)) 6 (hn h) 2) 1 (hn h) (some pl)) 2 (hn h) c) 3 (hn h) d) 4 (hn h) v) 5 (hn h) now) 7 (hn h) hs) 420 n
/-- what merging leaves -/
def mgH (g : Nat → Nat → Nat) (x : Nat) (h : Hp) (na pl : Nat) (c d v now hs : Int32) (L : List Nat) : Hp := sI (tR (sR (lkH g (hn h + 1) (hn h) L L.length (mkH h na pl c d v now hs L.length)) 9 (hn h) (some (hn h + 1))) 440 (g 0 2) na (some (hn h))) 1293 x (nI (na + 1))
section MERG
variable {x y b0 s0 np na nm nr ne : Nat} {g : Nat → Nat → Nat} {m : Nat → Nat} {h h1 : Hp} {M : Nat → List Nat} {N : Nat}
theorem CB.u (hM : JM y m h) (hC : CB x na g m h) (e : eqU h h1) : CB x na g m h1 := by
  have hA := hM
  unfold JM at hA
  obtain ⟨b1, b2, b3, b4, b5, b6⟩ := hC
  have hB := b1
  unfold JS at hB
  have e1 : ∀ a, kd h a ≠ 0 → kd h1 a = kd h a := fun a q => (e a q).1
  have e2 : ∀ a, kd h a ≠ 0 → ln h1 a = ln h a := fun a q => (e a q).2.1
  have e3 : ∀ f a, f ≠ 1293 → kd h a ≠ 0 → fI h1 f a = fI h f a := fun f a r q => (e a q).2.2.1 f r
  have e4 : ∀ f a, f ≠ 15 → f ≠ 16 → kd h a ≠ 0 → fR h1 f a = fR h f a := fun f a r s q => (e a q).2.2.2.1 f r s
  have e5 : ∀ k a, kd h a ≠ 0 → aI h1 k a = aI h k a := fun k a q => (e a q).2.2.2.2.1 k
  have k3 : ∀ k, k < na → kd h (g 3 k) ≠ 0 := fun k hk => by rw [(b2 k hk).1]; decide
  refine ⟨?_, fun k hk => ?_, ?_, ?_, ?_, ?_⟩
  · unfold JS
    simp (config := {decide := true}) only [e1, e2, e4, hB, Nat.reduceLeDiff, Nat.reduceEqDiff, Nat.reduceLT, ne_eq, not_false_eq_true, not_true_eq_false, reduceCtorEq, and_self]
  · simp (config := {decide := true}) only [e1 _ (k3 k hk), e3 _ _ _ (k3 k hk), e5, hA, Nat.reduceLeDiff, Nat.reduceEqDiff, Nat.reduceLT, ne_eq, not_false_eq_true, not_true_eq_false, reduceCtorEq]
    exact b2 k hk
  · simp (config := {decide := true}) only [e5, hA, Nat.reduceLeDiff, Nat.reduceEqDiff, Nat.reduceLT, ne_eq, not_false_eq_true, not_true_eq_false, reduceCtorEq]
    exact b3
  · simp (config := {decide := true}) only [e5, hA, hB, Nat.reduceLeDiff, Nat.reduceEqDiff, Nat.reduceLT, ne_eq, not_false_eq_true, not_true_eq_false, reduceCtorEq]
    exact b4
  · simp (config := {decide := true}) only [e5, hA, Nat.reduceLeDiff, Nat.reduceEqDiff, Nat.reduceLT, ne_eq, not_false_eq_true, not_true_eq_false, reduceCtorEq]
    exact b5
  · simp (config := {decide := true}) only [e5, hA, Nat.reduceLeDiff, Nat.reduceEqDiff, Nat.reduceLT, ne_eq, not_false_eq_true, not_true_eq_false, reduceCtorEq]
    exact b6
theorem GQ.u (hS : JS x g h) (hG : GQ h g na N M) (e : eqU h h1) : GQ h1 g na N M := by
  have hB := hS
  unfold JS at hB
  unfold GQ at hG ⊢
  rw [(e (g 0 9) (by simp only [hB]; decide)).2.2.1 260 (by decide), (e (g 0 15) (by simp only [hB]; decide)).2.2.2.2.1 102, (e (g 0 14) (by simp only [hB]; decide)).2.2.2.2.2.1 400 (by decide)]
  exact hG
theorem hearthsC_e (hC : CB x na g m h) (hG : GQ h g na N M) (hN : N ≤ 128) {j : Nat} (hj : j < N) (Q : Int32 → Hp → Prop) (hQ : Q (acI (fun i => fI h 7 (g 3 ((M j).getD i 0))) (M j).length) h) : w_X2_hearthsOf (some (g 0 9)) (nI j) h Q := by
  have hB := hC.1
  unfold JS at hB
  obtain ⟨-, st, hst⟩ := hG
  obtain ⟨q1, q2, q3, q4, q5⟩ := hst j hj
  have c := cnF (show j < 161 by omega) (Nat.le_refl 161) (by decide)
  have c1 := cnF (show j + 1 < 161 by omega) (Nat.le_refl 161) (by decide)
  unfold w_X2_hearthsOf n_X2_hearthsOf_0
  simp only [gI_e, gR_e, pI_e, pZ_e, pR_e, ldI_e, ldZ_e, ldL_e, ldR_e, stI_e, stZ_e, stL_e, stR_e, alN_e, nwA_e, nwO_e, dvI_e, rmI_e, oV_e, oN_e, lt_e, rZ_e, br_T, br_F, fR_sI, aI_sI, aL_sI, aR_sI, kd_sI, ln_sI, hn_sI, hm_sI, fI_sI_n, fI_sR, aI_sR, aL_sR, aR_sR, kd_sR, ln_sR, hn_sR, hm_sR, fR_sR_n, fI_tI, fR_tI, aL_tI, aR_tI, kd_tI, ln_tI, hn_tI, hm_tI, aI_tI_n, fI_tL, fR_tL, aI_tL, aR_tL, kd_tL, ln_tL, hn_tL, hm_tL, aL_tL_n, fI_tR, fR_tR, aI_tR, aL_tR, kd_tR, ln_tR, hn_tR, hm_tR, aR_tR_n, hn_nw, hm_nw, rc400, rc403, rc404, rc405, rc407, rc409, rc420, rc440, bI_0, bI_1, bI_T, bI_F, iF_T, iF_F, br_not, le_nlt, not_true_eq_false, not_false_eq_true, and_self, and_true, true_and, and_false, false_and, or_true, true_or, or_false, false_or, ne_eq, reduceCtorEq, Nat.reduceLeDiff, Nat.reduceEqDiff, Nat.reduceLT, Nat.reduceAdd, Nat.reduceSub, Nat.reduceMul, Int32.reduceLT, Int32.reduceLE, Int32.reduceToNatClampNeg, Int32.reduceAdd, Int32.reduceSub, implies_true, forall_const, isIn_e, bit_e, lits, hB, c, q3]
  unfold l_X2_hearthsOf_9
  refine Lo.run (M j).length (fun t => (acI (fun i => fI h 7 (g 3 ((M j).getD i 0))) t, nI (st j + t))) (fun _ => h) ?_ ?_ rfl rfl
  · intro t ht K hK
    have ct := cnF (show st j + t < st j + (M j).length by omega) (show st j + (M j).length ≤ 160 by omega) (by decide)
    obtain ⟨t1, t2⟩ := q5 t ht
    have b := hC.2.1 _ t1
    unfold b_X2_hearthsOf_9
    simp only [gI_e, gR_e, pI_e, pZ_e, pR_e, ldI_e, ldZ_e, ldL_e, ldR_e, stI_e, stZ_e, stL_e, stR_e, alN_e, nwA_e, nwO_e, dvI_e, rmI_e, oV_e, oN_e, lt_e, rZ_e, br_T, br_F, fR_sI, aI_sI, aL_sI, aR_sI, kd_sI, ln_sI, hn_sI, hm_sI, fI_sI_n, fI_sR, aI_sR, aL_sR, aR_sR, kd_sR, ln_sR, hn_sR, hm_sR, fR_sR_n, fI_tI, fR_tI, aL_tI, aR_tI, kd_tI, ln_tI, hn_tI, hm_tI, aI_tI_n, fI_tL, fR_tL, aI_tL, aR_tL, kd_tL, ln_tL, hn_tL, hm_tL, aL_tL_n, fI_tR, fR_tR, aI_tR, aL_tR, kd_tR, ln_tR, hn_tR, hm_tR, aR_tR_n, hn_nw, hm_nw, rc400, rc403, rc404, rc405, rc407, rc409, rc420, rc440, bI_0, bI_1, bI_T, bI_F, iF_T, iF_F, br_not, le_nlt, not_true_eq_false, not_false_eq_true, and_self, and_true, true_and, and_false, false_and, or_true, true_or, or_false, false_or, ne_eq, reduceCtorEq, Nat.reduceLeDiff, Nat.reduceEqDiff, Nat.reduceLT, Nat.reduceAdd, Nat.reduceSub, Nat.reduceMul, Int32.reduceLT, Int32.reduceLE, Int32.reduceToNatClampNeg, Int32.reduceAdd, Int32.reduceSub, implies_true, forall_const, isIn_e, bit_e, lits, hB, c, c1, q3, q4, ct, t2, b.1]
    exact hK
  · intro K
    unfold b_X2_hearthsOf_9
    simp only [gI_e, gR_e, pI_e, pZ_e, pR_e, ldI_e, ldZ_e, ldL_e, ldR_e, stI_e, stZ_e, stL_e, stR_e, alN_e, nwA_e, nwO_e, dvI_e, rmI_e, oV_e, oN_e, lt_e, rZ_e, br_T, br_F, fR_sI, aI_sI, aL_sI, aR_sI, kd_sI, ln_sI, hn_sI, hm_sI, fI_sI_n, fI_sR, aI_sR, aL_sR, aR_sR, kd_sR, ln_sR, hn_sR, hm_sR, fR_sR_n, fI_tI, fR_tI, aL_tI, aR_tI, kd_tI, ln_tI, hn_tI, hm_tI, aI_tI_n, fI_tL, fR_tL, aI_tL, aR_tL, kd_tL, ln_tL, hn_tL, hm_tL, aL_tL_n, fI_tR, fR_tR, aI_tR, aL_tR, kd_tR, ln_tR, hn_tR, hm_tR, aR_tR_n, hn_nw, hm_nw, rc400, rc403, rc404, rc405, rc407, rc409, rc420, rc440, bI_0, bI_1, bI_T, bI_F, iF_T, iF_F, br_not, le_nlt, not_true_eq_false, not_false_eq_true, and_self, and_true, true_and, and_false, false_and, or_true, true_or, or_false, false_or, ne_eq, reduceCtorEq, Nat.reduceLeDiff, Nat.reduceEqDiff, Nat.reduceLT, Nat.reduceAdd, Nat.reduceSub, Nat.reduceMul, Int32.reduceLT, Int32.reduceLE, Int32.reduceToNatClampNeg, Int32.reduceAdd, Int32.reduceSub, implies_true, forall_const, isIn_e, bit_e, lits, hB, c, c1, q3, q4, lt_irr]
    exact hQ
theorem partsIntoC_e (hM : JM y m h) (hC : CB x na g m h) (hG : GQ h g na N M) (hN : N ≤ 128) {j : Nat} (hj : j < N) (hl : (M j).length ≤ 24) {B : Nat} (hB1 : kd h B = 1) (hz : kd h (hn h) = 0) (Q : Option Nat → Hp → Prop) (hQ : Q (some (hn h)) (lkH g (hn h) B (M j) (M j).length (nw h 420 (M j).length))) : w_X2_partsInto (some (g 0 9)) (nI j) (some B) h Q := by
  have hB := hC.1
  have hS := hC.1
  unfold JS at hB
  unfold w_X2_partsInto n_X2_partsInto_0
  simp only [gI_e, gR_e, pI_e, pZ_e, pR_e, ldI_e, ldZ_e, ldL_e, ldR_e, stI_e, stZ_e, stL_e, stR_e, alN_e, nwA_e, nwO_e, dvI_e, rmI_e, oV_e, oN_e, lt_e, rZ_e, br_T, br_F, fR_sI, aI_sI, aL_sI, aR_sI, kd_sI, ln_sI, hn_sI, hm_sI, fI_sI_n, fI_sR, aI_sR, aL_sR, aR_sR, kd_sR, ln_sR, hn_sR, hm_sR, fR_sR_n, fI_tI, fR_tI, aL_tI, aR_tI, kd_tI, ln_tI, hn_tI, hm_tI, aI_tI_n, fI_tL, fR_tL, aI_tL, aR_tL, kd_tL, ln_tL, hn_tL, hm_tL, aL_tL_n, fI_tR, fR_tR, aI_tR, aL_tR, kd_tR, ln_tR, hn_tR, hm_tR, aR_tR_n, hn_nw, hm_nw, rc400, rc403, rc404, rc405, rc407, rc409, rc420, rc440, bI_0, bI_1, bI_T, bI_F, iF_T, iF_F, br_not, le_nlt, not_true_eq_false, not_false_eq_true, and_self, and_true, true_and, and_false, false_and, or_true, true_or, or_false, false_or, ne_eq, reduceCtorEq, Nat.reduceLeDiff, Nat.reduceEqDiff, Nat.reduceLT, Nat.reduceAdd, Nat.reduceSub, Nat.reduceMul, Int32.reduceLT, Int32.reduceLE, Int32.reduceToNatClampNeg, Int32.reduceAdd, Int32.reduceSub, implies_true, forall_const, isIn_e, bit_e, lits, hB]
  refine sizeC_e hC hG hN hj _ ?_
  have np0 : ¬ nI (M j).length < 0 := nI_pos (by omega)
  have cc : (nI (M j).length).toNatClampNeg = (M j).length := nI_clamp (by omega)
  have le : (M j).length ≤ 1000000 := by omega
  simp only [gI_e, gR_e, pI_e, pZ_e, pR_e, ldI_e, ldZ_e, ldL_e, ldR_e, stI_e, stZ_e, stL_e, stR_e, alN_e, nwA_e, nwO_e, dvI_e, rmI_e, oV_e, oN_e, lt_e, rZ_e, br_T, br_F, fR_sI, aI_sI, aL_sI, aR_sI, kd_sI, ln_sI, hn_sI, hm_sI, fI_sI_n, fI_sR, aI_sR, aL_sR, aR_sR, kd_sR, ln_sR, hn_sR, hm_sR, fR_sR_n, fI_tI, fR_tI, aL_tI, aR_tI, kd_tI, ln_tI, hn_tI, hm_tI, aI_tI_n, fI_tL, fR_tL, aI_tL, aR_tL, kd_tL, ln_tL, hn_tL, hm_tL, aL_tL_n, fI_tR, fR_tR, aI_tR, aL_tR, kd_tR, ln_tR, hn_tR, hm_tR, aR_tR_n, hn_nw, hm_nw, rc400, rc403, rc404, rc405, rc407, rc409, rc420, rc440, bI_0, bI_1, bI_T, bI_F, iF_T, iF_F, br_not, le_nlt, not_true_eq_false, not_false_eq_true, and_self, and_true, true_and, and_false, false_and, or_true, true_or, or_false, false_or, ne_eq, reduceCtorEq, Nat.reduceLeDiff, Nat.reduceEqDiff, Nat.reduceLT, Nat.reduceAdd, Nat.reduceSub, Nat.reduceMul, Int32.reduceLT, Int32.reduceLE, Int32.reduceToNatClampNeg, Int32.reduceAdd, Int32.reduceSub, implies_true, forall_const, isIn_e, bit_e, lits, np0, if_false, cc, le]
  generalize hn' : (M j).length = n at *
  have eq0 : eqU h (nw h 420 n) := eqU_nw (eqU.rf h) hz 420 n
  unfold l_X2_partsInto_16
  have kA : kd (nw h 420 n) (hn h) = 420 := by
    show (if hn h = hn h then 420 else _) = 420
    rw [if_pos rfl]
  have lA : ln (nw h 420 n) (hn h) = n := by
    show (if hn h = hn h then n else _) = n
    rw [if_pos rfl]
  have kdl : ∀ i, kd (lkH g (hn h) B (M j) i (nw h 420 n)) = kd (nw h 420 n) ∧ ln (lkH g (hn h) B (M j) i (nw h 420 n)) = ln (nw h 420 n) := by
    intro i
    induction i with
    | zero => exact ⟨rfl, rfl⟩
    | succ i ih => exact ih
  have eq1 : ∀ i, eqU h (lkH g (hn h) B (M j) i (nw h 420 n)) := by
    intro i
    induction i with
    | zero => exact eq0
    | succ i ih => exact eqU_sR (eqU_tR ih (Or.inl hz) _ _) (Or.inr (Or.inl rfl)) _
  obtain ⟨-, st, hst⟩ := hG
  obtain ⟨q1, q2, q3, q4, q5⟩ := hst j hj
  rw [hn'] at q1 q2 q4 q5
  have c := cnF (show j < 161 by omega) (Nat.le_refl 161) (by decide)
  refine Lo.run n (fun t => nI t) (fun t => lkH g (hn h) B (M j) t (nw h 420 n)) ?_ ?_ rfl rfl
  · intro t ht K hK
    have ct := cnF (show st j + t < 160 by omega) (Nat.le_refl 160) (by decide)
    have cn := cnF ht (Nat.le_refl n) (by omega)
    obtain ⟨t1, t2⟩ := q5 t ht
    have b := hC.2.1 _ t1
    have e := eq1 t
    obtain ⟨kk, ll⟩ := kdl t
    have kA' : kd (lkH g (hn h) B (M j) t (nw h 420 n)) (hn h) = 420 := by rw [kk]; exact kA
    have lA' : ln (lkH g (hn h) B (M j) t (nw h 420 n)) (hn h) = n := by rw [ll]; exact lA
    have hS' : JS x g (lkH g (hn h) B (M j) t (nw h 420 n)) := (hC.u hM e).1
    have a102 : aI (lkH g (hn h) B (M j) t (nw h 420 n)) 102 (g 0 15) j = nI (st j) := by
      rw [(e (g 0 15) (by simp only [hB]; decide)).2.2.2.2.1 102]; exact q3
    have a400 : aR (lkH g (hn h) B (M j) t (nw h 420 n)) 400 (g 0 14) (st j + t) = some (g 3 ((M j).getD t 0)) := by
      rw [(e (g 0 14) (by simp only [hB]; decide)).2.2.2.2.2.1 400 (by decide)]; exact t2
    have kb : kd (lkH g (hn h) B (M j) t (nw h 420 n)) (g 3 ((M j).getD t 0)) = 1 := by
      rw [(e _ (by rw [b.1]; decide)).1]; exact b.1
    have kB : kd (lkH g (hn h) B (M j) t (nw h 420 n)) B = 1 := by
      rw [(e B (by rw [hB1]; decide)).1]; exact hB1
    have sm : nI (st j) + nI t = nI (st j + t) := nI_add _ _
    have hK2 : K (nI (t + 1)) (sR (tR (lkH g (hn h) B (M j) t (nw h 420 n)) 420 (hn h) t (some (g 3 ((M j).getD t 0)))) 15 (g 3 ((M j).getD t 0)) (some B)) := hK
    clear hK
    generalize lkH g (hn h) B (M j) t (nw h 420 n) = H at *
    unfold JS at hS'
    have an : ∀ K2 : Int32 → Prop, alN H (some (hn h)) K2 = K2 (nI n) := fun K2 => by rw [alN_e (by rw [kA']; decide) (fun _ => by rw [kA']; exact rc420), lA']
    unfold b_X2_partsInto_16
    simp only [gI_e, gR_e, pI_e, pZ_e, pR_e, ldI_e, ldZ_e, ldL_e, ldR_e, stI_e, stZ_e, stL_e, stR_e, alN_e, nwA_e, nwO_e, dvI_e, rmI_e, oV_e, oN_e, lt_e, rZ_e, br_T, br_F, fR_sI, aI_sI, aL_sI, aR_sI, kd_sI, ln_sI, hn_sI, hm_sI, fI_sI_n, fI_sR, aI_sR, aL_sR, aR_sR, kd_sR, ln_sR, hn_sR, hm_sR, fR_sR_n, fI_tI, fR_tI, aL_tI, aR_tI, kd_tI, ln_tI, hn_tI, hm_tI, aI_tI_n, fI_tL, fR_tL, aI_tL, aR_tL, kd_tL, ln_tL, hn_tL, hm_tL, aL_tL_n, fI_tR, fR_tR, aI_tR, aL_tR, kd_tR, ln_tR, hn_tR, hm_tR, aR_tR_n, hn_nw, hm_nw, rc400, rc403, rc404, rc405, rc407, rc409, rc420, rc440, bI_0, bI_1, bI_T, bI_F, iF_T, iF_F, br_not, le_nlt, not_true_eq_false, not_false_eq_true, and_self, and_true, true_and, and_false, false_and, or_true, true_or, or_false, false_or, ne_eq, reduceCtorEq, Nat.reduceLeDiff, Nat.reduceEqDiff, Nat.reduceLT, Nat.reduceAdd, Nat.reduceSub, Nat.reduceMul, Int32.reduceLT, Int32.reduceLE, Int32.reduceToNatClampNeg, Int32.reduceAdd, Int32.reduceSub, implies_true, forall_const, isIn_e, bit_e, lits, hS', an, cn, c, a102, sm, ct, a400]
    refine stR_i (k := 420) kA' (by decide) rc420 (fun b2 hb2 => by cases hb2; rw [kb]; rfl) (by rw [lA']; exact cn.2.1) ?_
    rw [cn.2.2.1]
    have gt : aR (tR H 420 (hn h) t (some (g 3 ((M j).getD t 0)))) 420 (hn h) t = some (g 3 ((M j).getD t 0)) := by
      rw [aR_tR_e, if_pos ⟨rfl, rfl⟩]
    have lr : ∀ K2, ldR (tR H 420 (hn h) t (some (g 3 ((M j).getD t 0)))) (some (hn h)) (nI t) K2 = K2 (some (g 3 ((M j).getD t 0))) := fun K2 => by
      rw [ldR_e (by rw [kd_tR, kA']; decide) (by rw [kd_tR, kA']; exact rc420) (by rw [ln_tR, lA']; exact cn.2.1), cn.2.2.1, kd_tR, kA', gt]
    rw [lr]
    refine ⟨_, rfl, by rw [kd_tR]; exact kb, ?_⟩
    simp only [lt_e, cn]
    exact hK2
  · intro K
    obtain ⟨kk, ll⟩ := kdl n
    have an : ∀ K2 : Int32 → Prop, alN (lkH g (hn h) B (M j) n (nw h 420 n)) (some (hn h)) K2 = K2 (nI n) := fun K2 => by rw [alN_e (by rw [kk, kA]; decide) (fun _ => by rw [kk, kA]; exact rc420), ll, lA]
    unfold b_X2_partsInto_16
    simp only [gI_e, gR_e, pI_e, pZ_e, pR_e, ldI_e, ldZ_e, ldL_e, ldR_e, stI_e, stZ_e, stL_e, stR_e, alN_e, nwA_e, nwO_e, dvI_e, rmI_e, oV_e, oN_e, lt_e, rZ_e, br_T, br_F, fR_sI, aI_sI, aL_sI, aR_sI, kd_sI, ln_sI, hn_sI, hm_sI, fI_sI_n, fI_sR, aI_sR, aL_sR, aR_sR, kd_sR, ln_sR, hn_sR, hm_sR, fR_sR_n, fI_tI, fR_tI, aL_tI, aR_tI, kd_tI, ln_tI, hn_tI, hm_tI, aI_tI_n, fI_tL, fR_tL, aI_tL, aR_tL, kd_tL, ln_tL, hn_tL, hm_tL, aL_tL_n, fI_tR, fR_tR, aI_tR, aL_tR, kd_tR, ln_tR, hn_tR, hm_tR, aR_tR_n, hn_nw, hm_nw, rc400, rc403, rc404, rc405, rc407, rc409, rc420, rc440, bI_0, bI_1, bI_T, bI_F, iF_T, iF_F, br_not, le_nlt, not_true_eq_false, not_false_eq_true, and_self, and_true, true_and, and_false, false_and, or_true, true_or, or_false, false_or, ne_eq, reduceCtorEq, Nat.reduceLeDiff, Nat.reduceEqDiff, Nat.reduceLT, Nat.reduceAdd, Nat.reduceSub, Nat.reduceMul, Int32.reduceLT, Int32.reduceLE, Int32.reduceToNatClampNeg, Int32.reduceAdd, Int32.reduceSub, implies_true, forall_const, isIn_e, bit_e, lits, an, lt_irr]
    exact hQ
end MERG
