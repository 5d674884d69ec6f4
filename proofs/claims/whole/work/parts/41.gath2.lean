/-- buckets below a key, put together -/
def bkL (F : Nat → List Nat) : Nat → List Nat
  | 0 => []
  | k + 1 => bkL F k ++ F k
/-- buckets above a key -/
def bkR (F : Nat → List Nat) (c : Nat) : Nat → List Nat
  | 0 => []
  | d + 1 => bkR F c d ++ F (c + 1 + d)
theorem bkL_cg {F F' : Nat → List Nat} : ∀ {n : Nat}, (∀ k, k < n → F' k = F k) → bkL F' n = bkL F n := by
  intro n
  induction n with
  | zero => intro _; rfl
  | succ n ih =>
    intro h
    show bkL F' n ++ F' n = bkL F n ++ F n
    rw [ih (fun k hk => h k (by omega)), h n (by omega)]
theorem bkR_cg {F F' : Nat → List Nat} {c : Nat} : ∀ {n : Nat}, (∀ k, c < k → F' k = F k) → bkR F' c n = bkR F c n := by
  intro n
  induction n with
  | zero => intro _; rfl
  | succ n ih =>
    intro h
    show bkR F' c n ++ F' (c + 1 + n) = bkR F c n ++ F (c + 1 + n)
    rw [ih h, h (c + 1 + n) (by omega)]
theorem bkL_sp (F : Nat → List Nat) (c : Nat) : ∀ d, bkL F (c + 1 + d) = bkL F c ++ F c ++ bkR F c d := by
  intro d
  induction d with
  | zero =>
    show bkL F c ++ F c = bkL F c ++ F c ++ []
    rw [List.append_nil]
  | succ d ih =>
    show bkL F (c + 1 + d) ++ F (c + 1 + d) = bkL F c ++ F c ++ (bkR F c d ++ F (c + 1 + d))
    rw [ih, List.append_assoc]
theorem bkL_ins {F F' : Nat → List Nat} {c i K : Nat} (hc : c < K) (h0 : F c = []) (h1 : F' c = [i]) (ho : ∀ k, k ≠ c → F' k = F k) : bkL F K = bkL F c ++ bkR F c (K - (c + 1)) ∧ bkL F' K = bkL F c ++ i :: bkR F c (K - (c + 1)) := by
  have e := bkL_sp F c (K - (c + 1))
  have e' := bkL_sp F' c (K - (c + 1))
  rw [show c + 1 + (K - (c + 1)) = K by omega] at e e'
  have x1 : bkL F' c = bkL F c := bkL_cg (fun k hk => ho k (by omega))
  have x2 : bkR F' c (K - (c + 1)) = bkR F c (K - (c + 1)) := bkR_cg (fun k hk => ho k (by omega))
  rw [x1, x2, h1] at e'
  rw [h0, List.append_nil] at e
  exact ⟨e, by rw [e', List.append_assoc]; rfl⟩
theorem bkL_mem {F : Nat → List Nat} {b : Nat} : ∀ {n : Nat}, b ∈ bkL F n → ∃ k, k < n ∧ b ∈ F k := by
  intro n
  induction n with
  | zero => intro h; cases h
  | succ n ih =>
    intro h
    have h2 : b ∈ bkL F n ++ F n := h
    rw [List.mem_append] at h2
    rcases h2 with h2 | h2
    · obtain ⟨k, k1, k2⟩ := ih h2
      exact ⟨k, by omega, k2⟩
    · exact ⟨n, by omega, h2⟩
theorem bkR_mem {F : Nat → List Nat} {b c : Nat} : ∀ {n : Nat}, b ∈ bkR F c n → ∃ k, c < k ∧ k < c + 1 + n ∧ b ∈ F k := by
  intro n
  induction n with
  | zero => intro h; cases h
  | succ n ih =>
    intro h
    have h2 : b ∈ bkR F c n ++ F (c + 1 + n) := h
    rw [List.mem_append] at h2
    rcases h2 with h2 | h2
    · obtain ⟨k, k1, k2, k3⟩ := ih h2
      exact ⟨k, k1, by omega, k3⟩
    · exact ⟨c + 1 + n, by omega, by omega, h2⟩
section GATC
variable {x y b0 s0 np na nm nr ne : Nat} {g : Nat → Nat → Nat} {m : Nat → Nat} {h : Hp}
def wmN (h : Hp) (m : Nat → Nat) (a : Nat) : Nat := (aI h 134 (m 134) a).toNatClampNeg
/-- the order of the books in a gathering -/
def kyN (h : Hp) (m : Nat → Nat) (a : Nat) : Nat := 24 * (8 * whN h m a + wmN h m a) + atN h m a
theorem after_e (hJ : JA x y b0 s0 np na nm nr ne g m h) {a b : Nat} (ha : a < na) (hb : b < na) (Q : Int32 → Hp → Prop) (hQ : Q (bI (kyN h m b < kyN h m a)) h) : w_X0_comesAfter (some (g 3 a)) (some (g 3 b)) h Q := by
  have hW := hJ.2.2.2.2.2.1
  have hbd := hJ.2.2.1.2
  have qa := asF hJ ha
  have qb := asF hJ hb
  obtain ⟨w, w1, w2⟩ := vp_ex (hW.w_wha a ha)
  obtain ⟨v, v1, v2⟩ := vp_ex (hW.w_who a ha)
  obtain ⟨p, p1, p2⟩ := vp_ex (hW.w_at a ha)
  obtain ⟨w', w1', w2'⟩ := vp_ex (hW.w_wha b hb)
  obtain ⟨v', v1', v2'⟩ := vp_ex (hW.w_who b hb)
  obtain ⟨p', p1', p2'⟩ := vp_ex (hW.w_at b hb)
  have ka : kyN h m a = 24 * (8 * w + v) + p := by
    unfold kyN whN wmN atN
    rw [w2, v2, p2, nI_clamp (by omega), nI_clamp (by omega), nI_clamp (by omega)]
  have kb : kyN h m b = 24 * (8 * w' + v') + p' := by
    unfold kyN whN wmN atN
    rw [w2', v2', p2', nI_clamp (by omega), nI_clamp (by omega), nI_clamp (by omega)]
  have ep : (nI p).toNatClampNeg = p := nI_clamp (by omega)
  have ep' : (nI p').toNatClampNeg = p' := nI_clamp (by omega)
  have qp := plF hJ p1
  have qp' := plF hJ p1'
  rw [ka, kb] at hQ
  have lw : (nI w' < nI w) = (w' < w) := propext (nI_ltI (by omega) (by omega))
  have lv : (nI v' < nI v) = (v' < v) := propext (nI_ltI (by omega) (by omega))
  have lp : (nI p' < nI p) = (p' < p) := propext (nI_ltI (by omega) (by omega))
  have ew : (nI w = nI w') = (w = w') := propext (nI_eq (by omega) (by omega))
  have ev : (nI v = nI v') = (v = v') := propext (nI_eq (by omega) (by omega))
  unfold w_X0_comesAfter n_X0_comesAfter_0 n_X0_comesAfter_27 n_X0_comesAfter_80
  by_cases c1 : w = w'
  · by_cases c2 : v = v'
    · by_cases c3 : p' < p
      · rw [bI_y (by omega)] at hQ
        simp only [gI_e, gR_e, pI_e, pZ_e, pR_e, ldI_e, ldZ_e, ldL_e, ldR_e, stI_e, stZ_e, stL_e, stR_e, alN_e, nwA_e, nwO_e, dvI_e, rmI_e, oV_e, oN_e, lt_e, rZ_e, br_T, br_F, fR_sI, aI_sI, aL_sI, aR_sI, kd_sI, ln_sI, hn_sI, hm_sI, fI_sI_n, fI_sR, aI_sR, aL_sR, aR_sR, kd_sR, ln_sR, hn_sR, hm_sR, fR_sR_n, fI_tI, fR_tI, aL_tI, aR_tI, kd_tI, ln_tI, hn_tI, hm_tI, aI_tI_n, fI_tL, fR_tL, aI_tL, aR_tL, kd_tL, ln_tL, hn_tL, hm_tL, aL_tL_n, fI_tR, fR_tR, aI_tR, aL_tR, kd_tR, ln_tR, hn_tR, hm_tR, aR_tR_n, hn_nw, hm_nw, rc400, rc403, rc404, rc405, rc407, rc409, rc420, rc440, bI_0, bI_1, bI_T, bI_F, iF_T, iF_F, br_not, le_nlt, not_true_eq_false, not_false_eq_true, and_self, and_true, true_and, and_false, false_and, or_true, true_or, or_false, false_or, ne_eq, reduceCtorEq, Nat.reduceLeDiff, Nat.reduceEqDiff, Nat.reduceLT, Nat.reduceAdd, Nat.reduceSub, Nat.reduceMul, Int32.reduceLT, Int32.reduceLE, Int32.reduceToNatClampNeg, Int32.reduceAdd, Int32.reduceSub, implies_true, forall_const, isIn_e, bit_e, lits, qa, qb, w2, v2, p2, w2', v2', p2', ep, ep', qp, qp', ew, ev, lp, eq_true c1, eq_true c2, c3]
        exact hQ
      · rw [bI_n (by omega)] at hQ
        simp only [gI_e, gR_e, pI_e, pZ_e, pR_e, ldI_e, ldZ_e, ldL_e, ldR_e, stI_e, stZ_e, stL_e, stR_e, alN_e, nwA_e, nwO_e, dvI_e, rmI_e, oV_e, oN_e, lt_e, rZ_e, br_T, br_F, fR_sI, aI_sI, aL_sI, aR_sI, kd_sI, ln_sI, hn_sI, hm_sI, fI_sI_n, fI_sR, aI_sR, aL_sR, aR_sR, kd_sR, ln_sR, hn_sR, hm_sR, fR_sR_n, fI_tI, fR_tI, aL_tI, aR_tI, kd_tI, ln_tI, hn_tI, hm_tI, aI_tI_n, fI_tL, fR_tL, aI_tL, aR_tL, kd_tL, ln_tL, hn_tL, hm_tL, aL_tL_n, fI_tR, fR_tR, aI_tR, aL_tR, kd_tR, ln_tR, hn_tR, hm_tR, aR_tR_n, hn_nw, hm_nw, rc400, rc403, rc404, rc405, rc407, rc409, rc420, rc440, bI_0, bI_1, bI_T, bI_F, iF_T, iF_F, br_not, le_nlt, not_true_eq_false, not_false_eq_true, and_self, and_true, true_and, and_false, false_and, or_true, true_or, or_false, false_or, ne_eq, reduceCtorEq, Nat.reduceLeDiff, Nat.reduceEqDiff, Nat.reduceLT, Nat.reduceAdd, Nat.reduceSub, Nat.reduceMul, Int32.reduceLT, Int32.reduceLE, Int32.reduceToNatClampNeg, Int32.reduceAdd, Int32.reduceSub, implies_true, forall_const, isIn_e, bit_e, lits, qa, qb, w2, v2, p2, w2', v2', p2', ep, ep', qp, qp', ew, ev, lp, eq_true c1, eq_true c2, c3]
        exact hQ
    · by_cases c3 : v' < v
      · rw [bI_y (by omega)] at hQ
        simp only [gI_e, gR_e, pI_e, pZ_e, pR_e, ldI_e, ldZ_e, ldL_e, ldR_e, stI_e, stZ_e, stL_e, stR_e, alN_e, nwA_e, nwO_e, dvI_e, rmI_e, oV_e, oN_e, lt_e, rZ_e, br_T, br_F, fR_sI, aI_sI, aL_sI, aR_sI, kd_sI, ln_sI, hn_sI, hm_sI, fI_sI_n, fI_sR, aI_sR, aL_sR, aR_sR, kd_sR, ln_sR, hn_sR, hm_sR, fR_sR_n, fI_tI, fR_tI, aL_tI, aR_tI, kd_tI, ln_tI, hn_tI, hm_tI, aI_tI_n, fI_tL, fR_tL, aI_tL, aR_tL, kd_tL, ln_tL, hn_tL, hm_tL, aL_tL_n, fI_tR, fR_tR, aI_tR, aL_tR, kd_tR, ln_tR, hn_tR, hm_tR, aR_tR_n, hn_nw, hm_nw, rc400, rc403, rc404, rc405, rc407, rc409, rc420, rc440, bI_0, bI_1, bI_T, bI_F, iF_T, iF_F, br_not, le_nlt, not_true_eq_false, not_false_eq_true, and_self, and_true, true_and, and_false, false_and, or_true, true_or, or_false, false_or, ne_eq, reduceCtorEq, Nat.reduceLeDiff, Nat.reduceEqDiff, Nat.reduceLT, Nat.reduceAdd, Nat.reduceSub, Nat.reduceMul, Int32.reduceLT, Int32.reduceLE, Int32.reduceToNatClampNeg, Int32.reduceAdd, Int32.reduceSub, implies_true, forall_const, isIn_e, bit_e, lits, qa, qb, w2, v2, w2', v2', ew, ev, lv, eq_true c1, eq_false c2, c3]
        exact hQ
      · rw [bI_n (by omega)] at hQ
        simp only [gI_e, gR_e, pI_e, pZ_e, pR_e, ldI_e, ldZ_e, ldL_e, ldR_e, stI_e, stZ_e, stL_e, stR_e, alN_e, nwA_e, nwO_e, dvI_e, rmI_e, oV_e, oN_e, lt_e, rZ_e, br_T, br_F, fR_sI, aI_sI, aL_sI, aR_sI, kd_sI, ln_sI, hn_sI, hm_sI, fI_sI_n, fI_sR, aI_sR, aL_sR, aR_sR, kd_sR, ln_sR, hn_sR, hm_sR, fR_sR_n, fI_tI, fR_tI, aL_tI, aR_tI, kd_tI, ln_tI, hn_tI, hm_tI, aI_tI_n, fI_tL, fR_tL, aI_tL, aR_tL, kd_tL, ln_tL, hn_tL, hm_tL, aL_tL_n, fI_tR, fR_tR, aI_tR, aL_tR, kd_tR, ln_tR, hn_tR, hm_tR, aR_tR_n, hn_nw, hm_nw, rc400, rc403, rc404, rc405, rc407, rc409, rc420, rc440, bI_0, bI_1, bI_T, bI_F, iF_T, iF_F, br_not, le_nlt, not_true_eq_false, not_false_eq_true, and_self, and_true, true_and, and_false, false_and, or_true, true_or, or_false, false_or, ne_eq, reduceCtorEq, Nat.reduceLeDiff, Nat.reduceEqDiff, Nat.reduceLT, Nat.reduceAdd, Nat.reduceSub, Nat.reduceMul, Int32.reduceLT, Int32.reduceLE, Int32.reduceToNatClampNeg, Int32.reduceAdd, Int32.reduceSub, implies_true, forall_const, isIn_e, bit_e, lits, qa, qb, w2, v2, w2', v2', ew, ev, lv, eq_true c1, eq_false c2, c3]
        exact hQ
  · by_cases c3 : w' < w
    · rw [bI_y (by omega)] at hQ
      simp only [gI_e, gR_e, pI_e, pZ_e, pR_e, ldI_e, ldZ_e, ldL_e, ldR_e, stI_e, stZ_e, stL_e, stR_e, alN_e, nwA_e, nwO_e, dvI_e, rmI_e, oV_e, oN_e, lt_e, rZ_e, br_T, br_F, fR_sI, aI_sI, aL_sI, aR_sI, kd_sI, ln_sI, hn_sI, hm_sI, fI_sI_n, fI_sR, aI_sR, aL_sR, aR_sR, kd_sR, ln_sR, hn_sR, hm_sR, fR_sR_n, fI_tI, fR_tI, aL_tI, aR_tI, kd_tI, ln_tI, hn_tI, hm_tI, aI_tI_n, fI_tL, fR_tL, aI_tL, aR_tL, kd_tL, ln_tL, hn_tL, hm_tL, aL_tL_n, fI_tR, fR_tR, aI_tR, aL_tR, kd_tR, ln_tR, hn_tR, hm_tR, aR_tR_n, hn_nw, hm_nw, rc400, rc403, rc404, rc405, rc407, rc409, rc420, rc440, bI_0, bI_1, bI_T, bI_F, iF_T, iF_F, br_not, le_nlt, not_true_eq_false, not_false_eq_true, and_self, and_true, true_and, and_false, false_and, or_true, true_or, or_false, false_or, ne_eq, reduceCtorEq, Nat.reduceLeDiff, Nat.reduceEqDiff, Nat.reduceLT, Nat.reduceAdd, Nat.reduceSub, Nat.reduceMul, Int32.reduceLT, Int32.reduceLE, Int32.reduceToNatClampNeg, Int32.reduceAdd, Int32.reduceSub, implies_true, forall_const, isIn_e, bit_e, lits, qa, qb, w2, w2', ew, lw, eq_false c1, c3]
      exact hQ
    · rw [bI_n (by omega)] at hQ
      simp only [gI_e, gR_e, pI_e, pZ_e, pR_e, ldI_e, ldZ_e, ldL_e, ldR_e, stI_e, stZ_e, stL_e, stR_e, alN_e, nwA_e, nwO_e, dvI_e, rmI_e, oV_e, oN_e, lt_e, rZ_e, br_T, br_F, fR_sI, aI_sI, aL_sI, aR_sI, kd_sI, ln_sI, hn_sI, hm_sI, fI_sI_n, fI_sR, aI_sR, aL_sR, aR_sR, kd_sR, ln_sR, hn_sR, hm_sR, fR_sR_n, fI_tI, fR_tI, aL_tI, aR_tI, kd_tI, ln_tI, hn_tI, hm_tI, aI_tI_n, fI_tL, fR_tL, aI_tL, aR_tL, kd_tL, ln_tL, hn_tL, hm_tL, aL_tL_n, fI_tR, fR_tR, aI_tR, aL_tR, kd_tR, ln_tR, hn_tR, hm_tR, aR_tR_n, hn_nw, hm_nw, rc400, rc403, rc404, rc405, rc407, rc409, rc420, rc440, bI_0, bI_1, bI_T, bI_F, iF_T, iF_F, br_not, le_nlt, not_true_eq_false, not_false_eq_true, and_self, and_true, true_and, and_false, false_and, or_true, true_or, or_false, false_or, ne_eq, reduceCtorEq, Nat.reduceLeDiff, Nat.reduceEqDiff, Nat.reduceLT, Nat.reduceAdd, Nat.reduceSub, Nat.reduceMul, Int32.reduceLT, Int32.reduceLE, Int32.reduceToNatClampNeg, Int32.reduceAdd, Int32.reduceSub, implies_true, forall_const, isIn_e, bit_e, lits, qa, qb, w2, w2', ew, lw, eq_false c1, c3]
      exact hQ
end GATC
