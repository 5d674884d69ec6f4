theorem eq0_tb (v : Int32) : (v = 0) = (∀ j, j < 32 → ¬ tb v j) := by
  apply propext
  constructor
  · intro e j _
    rw [e, tb_0]
    exact id
  · intro hn
    apply Int32.toBitVec_inj.mp
    apply BitVec.eq_of_getLsbD_eq
    intro i hi
    have := hn i hi
    unfold tb at this
    have e1 : v.toBitVec.getLsbD i = false := by
      cases c : v.toBitVec.getLsbD i
      · rfl
      · exact absurd c this
    rw [e1]
    show false = (0 : Int32).toBitVec.getLsbD i
    have := tb_0 i
    unfold tb at this
    cases c : (0 : Int32).toBitVec.getLsbD i
    · rfl
    · rw [show (0 : Int32).toBitVec.toNat.testBit i = (0 : Int32).toBitVec.getLsbD i from rfl, c] at this
      exact absurd this (by decide)
theorem tb_m1 {j : Nat} (hj : j < 32) : tb (-1) j := by
  unfold tb
  rw [show (-1 : Int32).toBitVec.toNat = 2 ^ 32 - 1 by decide, Nat.testBit_two_pow_sub_one]
  exact decide_eq_true hj
theorem tb_not {v : Int32} {j : Nat} (hj : j < 32) : tb (v ^^^ (-1)) j = ¬ tb v j := by
  rw [tb_xor]
  apply propext
  constructor
  · intro z w
    exact z ⟨fun _ => tb_m1 hj, fun _ => w⟩
  · intro z w
    exact z (w.mpr (tb_m1 hj))
theorem all_e {n : Nat} (hn : n ≤ 12) : ((1 <<< (nI n &&& 31)) - 1 : Int32) = nI (2 ^ n - 1) ∧ (1 <<< (nI n &&& 31) : Int32) = nI (2 ^ n) := by
  have e := sh1 (j := n) (by omega)
  have e2 : (1 <<< (nI n &&& 31) : Int32) = nI (2 ^ n) := tn_inj e
  have p := Nat.two_pow_pos n
  refine ⟨?_, e2⟩
  rw [e2, show 2 ^ n = (2 ^ n - 1) + 1 by omega, nI_pred, Nat.add_sub_cancel]
theorem tb_nI {k j : Nat} (hk : k < 2 ^ 32) : tb (nI k) j = (k.testBit j = true) := by
  unfold tb
  rw [pk_tn hk]
theorem pow12 {n : Nat} (hn : n ≤ 12) : 2 ^ n ≤ 4096 := (Nat.pow_le_pow_right (by decide : 2 > 0) hn : 2 ^ n ≤ 2 ^ 12)
theorem tb_all {n j : Nat} (hn : n ≤ 12) : tb (nI (2 ^ n - 1)) j = (j < n) := by
  have p := pow12 hn
  rw [tb_nI (by omega), Nat.testBit_two_pow_sub_one]
  exact propext decide_eq_true_iff
/-- how many bits -/
def pop (k : Nat) : Nat := suN (fun p => k / 2 ^ p % 2) 16
theorem popS (k N : Nat) : suN (fun p => k / 2 ^ p % 2) (N + 1) = k % 2 + suN (fun p => (k / 2) / 2 ^ p % 2) N := by
  rw [Nat.add_comm N 1, suN_add]
  congr 1
  · show 0 + k / 2 ^ 0 % 2 = k % 2
    rw [Nat.pow_zero, Nat.div_one, Nat.zero_add]
  · apply suN_congr
    intro i _
    rw [Nat.pow_add, Nat.pow_one, Nat.div_div_eq_div_mul]
theorem popB : ∀ n k N, (k < 2 ^ n → suN (fun p => k / 2 ^ p % 2) N ≤ n) ∧ (k < 2 ^ n - 1 → suN (fun p => k / 2 ^ p % 2) N < n) := by
  intro n
  induction n with
  | zero =>
    intro k N
    refine ⟨fun hk => ?_, fun hk => by omega⟩
    have k0 : k = 0 := by omega
    rw [k0]
    apply Nat.le_of_eq
    apply suN_0
    intro i _
    rw [Nat.zero_div]
  | succ n ih =>
    intro k N
    have p : 2 ^ (n + 1) = 2 * 2 ^ n := by rw [Nat.pow_succ, Nat.mul_comm]
    have pp := Nat.two_pow_pos n
    cases N with
    | zero =>
      have e : suN (fun p => k / 2 ^ p % 2) 0 = 0 := rfl
      rw [e]
      exact ⟨fun _ => by omega, fun _ => by omega⟩
    | succ N =>
      rw [popS]
      have i1 := (ih (k / 2) N).1
      have i2 := (ih (k / 2) N).2
      refine ⟨fun hk => ?_, fun hk => ?_⟩
      · have := i1 (by omega)
        omega
      · by_cases c : k % 2 = 0
        · have := i1 (by omega)
          omega
        · have := i2 (by omega)
          omega
theorem pop_lt (n : Nat) (_ : n < 13) (k : Nat) (hk : k < 2 ^ n - 1) : pop k < n := (popB n k 16).2 hk
theorem pop_all : ∀ n, n < 13 → pop (2 ^ n - 1) = n := by decide +kernel
theorem pop_e {k : Nat} (hk : k < 65536) : acI (fun p => bI (tb (nI k) p)) 32 = nI (pop k) ∧ acI (fun p => bI (tb (nI k) p)) 16 = nI (pop k) := by
  have h16 : acI (fun p => bI (tb (nI k) p)) 16 = nI (pop k) := by
    unfold pop
    rw [← acI_nI]
    apply acI_congr
    intro i _
    rw [tb_d, pk_tn (by omega)]
  refine ⟨?_, h16⟩
  rw [show (32 : Nat) = 16 + 16 from rfl, acI_ext 16 (fun i a b => ?_), h16]
  rw [tb_d, pk_tn (by omega)]
  have : k / 2 ^ i = 0 := by
    apply Nat.div_eq_of_lt
    exact Nat.lt_of_lt_of_le hk (show 65536 ≤ 2 ^ i from (Nat.pow_le_pow_right (by decide : 2 > 0) a : 2 ^ 16 ≤ 2 ^ i))
  rw [this]
  rfl
theorem pop_le (k : Nat) : pop k ≤ 16 := by
  unfold pop
  simp only [suN]
  omega
section QUA
variable {x y b0 s0 np na nm nr ne : Nat} {g : Nat → Nat → Nat} {m : Nat → Nat} {h : Hp}
def clP (h : Hp) (m : Nat → Nat) (a b : Nat) : Prop := aI h 204 (m 204) (16 * a + b) = 1
/-- the class's quarrel holds these WHATS, and who is whose foe -/
def QQ (g : Nat → Nat → Nat) (m : Nat → Nat) (h : Hp) (W : List Nat) : Prop := W.length ≤ 12 ∧ (∀ i, i < W.length → W.getD i 0 < 16) ∧ fI h 771 (g 0 10) = nI W.length ∧ (∀ i, i < W.length → aI h 106 (g 0 18) i = nI (W.getD i 0)) ∧ ∀ i, i < W.length → ∀ j, j < 32 → (tb (aI h 107 (g 0 19) i) j ↔ j < W.length ∧ ¬ j = i ∧ clP h m (W.getD i 0) (W.getD j 0))
theorem clP_same {h h1 : Hp} (e : eqS h h1) (m : Nat → Nat) (a b : Nat) : clP h1 m a b = clP h m a b := by
  unfold clP
  rw [e.2.2.2.2.2.2.1 204 rfl]
theorem clP_sy (hJ : JA x y b0 s0 np na nm nr ne g m h) {a b : Nat} (ha : a < 16) (hb : b < 16) : clP h m a b = clP h m b a := by
  unfold clP
  rw [hJ.2.2.2.2.2.1.w_csy a b ha hb]
theorem gD_l {W : List Nat} {v i : Nat} (hi : i < W.length) : (W ++ [v]).getD i 0 = W.getD i 0 := by
  rw [List.getD_eq_getElem?_getD, List.getD_eq_getElem?_getD, List.getElem?_append_left hi]
theorem gD_r (W : List Nat) (v : Nat) : (W ++ [v]).getD W.length 0 = v := by
  rw [List.getD_eq_getElem?_getD, List.getElem?_append_right (Nat.le_refl _), Nat.sub_self]
  rfl
theorem addQ_e (hJ : JA x y b0 s0 np na nm nr ne g m h) {W : List Nat} {v : Nat} (hq : QQ g m h W) (hl : W.length < 12) (hv : v < 16) (Q : Hp → Prop) (hQ : ∀ h', eqS h h' → QQ g m h' (W ++ [v]) → Q h') : w_X6_add (some (g 0 10)) (nI v) h Q := by
  have hB := hJ.2.1
  unfold JS at hB
  obtain ⟨-, q16, qn, qw, qf⟩ := hq
  generalize hn : W.length = n at *
  have cn := cnF hl (Nat.le_refl 12) (by decide)
  have cn2 := cnF (show n < 13 by omega) (Nat.le_refl 13) (by decide)
  have l12 : nI n < 12 := cn.1
  unfold w_X6_add n_X6_add_0
  simp only [gI_e, gR_e, pI_e, pZ_e, pR_e, ldI_e, ldZ_e, ldL_e, ldR_e, stI_e, stZ_e, stL_e, stR_e, alN_e, nwA_e, nwO_e, dvI_e, rmI_e, oV_e, oN_e, lt_e, rZ_e, br_T, br_F, fR_sI, aI_sI, aL_sI, aR_sI, kd_sI, ln_sI, hn_sI, hm_sI, fI_sI_n, fI_sR, aI_sR, aL_sR, aR_sR, kd_sR, ln_sR, hn_sR, hm_sR, fR_sR_n, fI_tI, fR_tI, aL_tI, aR_tI, kd_tI, ln_tI, hn_tI, hm_tI, aI_tI_n, fI_tL, fR_tL, aI_tL, aR_tL, kd_tL, ln_tL, hn_tL, hm_tL, aL_tL_n, fI_tR, fR_tR, aI_tR, aL_tR, kd_tR, ln_tR, hn_tR, hm_tR, aR_tR_n, hn_nw, hm_nw, rc400, rc403, rc404, rc405, rc407, rc409, rc420, rc440, bI_0, bI_1, bI_T, bI_F, iF_T, iF_F, br_not, le_nlt, not_true_eq_false, not_false_eq_true, and_self, and_true, true_and, and_false, false_and, or_true, true_or, or_false, false_or, ne_eq, reduceCtorEq, Nat.reduceLeDiff, Nat.reduceEqDiff, Nat.reduceLT, Nat.reduceAdd, Nat.reduceSub, Nat.reduceMul, Int32.reduceLT, Int32.reduceLE, Int32.reduceToNatClampNeg, Int32.reduceAdd, Int32.reduceSub, implies_true, forall_const, isIn_e, bit_e, lits, hB, qn, l12, cn]
  unfold l_X6_add_32
  refine Lo.count n (fun i s h' => eqS h h' ∧ s = nI i ∧ fI h' 771 (g 0 10) = nI n ∧ (∀ k, k < n → aI h' 106 (g 0 18) k = nI (W.getD k 0)) ∧ aI h' 106 (g 0 18) n = nI v ∧ (∀ k, k < n → ∀ j, j < 32 → (tb (aI h' 107 (g 0 19) k) j ↔ (j < n ∧ ¬ j = k ∧ clP h m (W.getD k 0) (W.getD j 0)) ∨ (j = n ∧ k < i ∧ clP h m v (W.getD k 0)))) ∧ (∀ j, j < 32 → (tb (aI h' 107 (g 0 19) n) j ↔ j < i ∧ clP h m v (W.getD j 0)))) ?_ 0 (Nat.zero_le _) _ _ ⟨((eqS.rf h).tI rfl _ _ _).tI rfl _ _ _, rfl, by simp (config := {decide := true}) only [fR_sI, aI_sI, aL_sI, aR_sI, kd_sI, ln_sI, hn_sI, hm_sI, fI_sI_n, fI_sR, aI_sR, aL_sR, aR_sR, kd_sR, ln_sR, hn_sR, hm_sR, fR_sR_n, fI_tI, fR_tI, aL_tI, aR_tI, kd_tI, ln_tI, hn_tI, hm_tI, aI_tI_n, fI_tL, fR_tL, aI_tL, aR_tL, kd_tL, ln_tL, hn_tL, hm_tL, aL_tL_n, fI_tR, fR_tR, aI_tR, aL_tR, kd_tR, ln_tR, hn_tR, hm_tR, aR_tR_n, hn_nw, hm_nw]; exact qn, ?_, ?_, ?_, ?_⟩
  rotate_left
  · intro k hk
    simp (config := {decide := true}) only [fR_sI, aI_sI, aL_sI, aR_sI, kd_sI, ln_sI, hn_sI, hm_sI, fI_sI_n, fI_sR, aI_sR, aL_sR, aR_sR, kd_sR, ln_sR, hn_sR, hm_sR, fR_sR_n, fI_tI, fR_tI, aL_tI, aR_tI, kd_tI, ln_tI, hn_tI, hm_tI, aI_tI_n, fI_tL, fR_tL, aI_tL, aR_tL, kd_tL, ln_tL, hn_tL, hm_tL, aL_tL_n, fI_tR, fR_tR, aI_tR, aL_tR, kd_tR, ln_tR, hn_tR, hm_tR, aR_tR_n, hn_nw, hm_nw, fI_sI_e, fR_sR_e, aI_tI_e, aL_tL_e, aR_tR_e, true_and]
    rw [if_neg (by omega)]
    exact qw k hk
  · simp (config := {decide := true}) only [fR_sI, aI_sI, aL_sI, aR_sI, kd_sI, ln_sI, hn_sI, hm_sI, fI_sI_n, fI_sR, aI_sR, aL_sR, aR_sR, kd_sR, ln_sR, hn_sR, hm_sR, fR_sR_n, fI_tI, fR_tI, aL_tI, aR_tI, kd_tI, ln_tI, hn_tI, hm_tI, aI_tI_n, fI_tL, fR_tL, aI_tL, aR_tL, kd_tL, ln_tL, hn_tL, hm_tL, aL_tL_n, fI_tR, fR_tR, aI_tR, aL_tR, kd_tR, ln_tR, hn_tR, hm_tR, aR_tR_n, hn_nw, hm_nw, fI_sI_e, fR_sR_e, aI_tI_e, aL_tL_e, aR_tR_e, true_and, if_true]
  · intro k hk j hj
    simp (config := {decide := true}) only [fR_sI, aI_sI, aL_sI, aR_sI, kd_sI, ln_sI, hn_sI, hm_sI, fI_sI_n, fI_sR, aI_sR, aL_sR, aR_sR, kd_sR, ln_sR, hn_sR, hm_sR, fR_sR_n, fI_tI, fR_tI, aL_tI, aR_tI, kd_tI, ln_tI, hn_tI, hm_tI, aI_tI_n, fI_tL, fR_tL, aI_tL, aR_tL, kd_tL, ln_tL, hn_tL, hm_tL, aL_tL_n, fI_tR, fR_tR, aI_tR, aL_tR, kd_tR, ln_tR, hn_tR, hm_tR, aR_tR_n, hn_nw, hm_nw, fI_sI_e, fR_sR_e, aI_tI_e, aL_tL_e, aR_tR_e, true_and]
    rw [if_neg (by omega), qf k hk j hj]
    exact ⟨Or.inl, fun z => z.elim id (fun w => absurd w.2.1 (Nat.not_lt_zero _))⟩
  · intro j hj
    simp (config := {decide := true}) only [fR_sI, aI_sI, aL_sI, aR_sI, kd_sI, ln_sI, hn_sI, hm_sI, fI_sI_n, fI_sR, aI_sR, aL_sR, aR_sR, kd_sR, ln_sR, hn_sR, hm_sR, fR_sR_n, fI_tI, fR_tI, aL_tI, aR_tI, kd_tI, ln_tI, hn_tI, hm_tI, aI_tI_n, fI_tL, fR_tL, aI_tL, aR_tL, kd_tL, ln_tL, hn_tL, hm_tL, aL_tL_n, fI_tR, fR_tR, aI_tR, aL_tR, kd_tR, ln_tR, hn_tR, hm_tR, aR_tR_n, hn_nw, hm_nw, fI_sI_e, fR_sR_e, aI_tI_e, aL_tL_e, aR_tR_e, true_and, if_true]
    rw [tb_0]
    exact ⟨False.elim, fun z => absurd z.1 (Nat.not_lt_zero _)⟩
  rintro i s h' hi ⟨hS, rfl, p1, p2, p3, p4, p5⟩ K hK
  have E1 : kd h' = kd h := hS.2.2.1
  have E2 : ln h' = ln h := hS.2.2.2.1
  have E3 : fR h' = fR h := hS.2.2.2.2.1
  have E4 : aI h' 105 = aI h 105 := hS.2.2.2.2.2.2.1 105 rfl
  unfold b_X6_add_32 n_X6_add_88
  by_cases e : i < n
  · have ci := cnF e (show n ≤ 12 by omega) (by decide)
    have w1 := p2 i e
    have hwi := q16 i e
    have told := hJ.2.2.2.2.1.d_cla v (W.getD i 0) hv hwi
    have cv := cnF hv (Nat.le_refl 16) (by decide)
    have hbt := fun a h Q => hasBit_e a (show W.getD i 0 < 32 by omega) h Q
    by_cases t : clP h m v (W.getD i 0)
    · have t2 := told.mpr t
      simp (config := {decide := true}) only [gI_e, gR_e, pI_e, pZ_e, pR_e, ldI_e, ldZ_e, ldL_e, ldR_e, stI_e, stZ_e, stL_e, stR_e, alN_e, nwA_e, nwO_e, dvI_e, rmI_e, oV_e, oN_e, lt_e, rZ_e, br_T, br_F, fR_sI, aI_sI, aL_sI, aR_sI, kd_sI, ln_sI, hn_sI, hm_sI, fI_sI_n, fI_sR, aI_sR, aL_sR, aR_sR, kd_sR, ln_sR, hn_sR, hm_sR, fR_sR_n, fI_tI, fR_tI, aL_tI, aR_tI, kd_tI, ln_tI, hn_tI, hm_tI, aI_tI_n, fI_tL, fR_tL, aI_tL, aR_tL, kd_tL, ln_tL, hn_tL, hm_tL, aL_tL_n, fI_tR, fR_tR, aI_tR, aL_tR, kd_tR, ln_tR, hn_tR, hm_tR, aR_tR_n, hn_nw, hm_nw, rc400, rc403, rc404, rc405, rc407, rc409, rc420, rc440, bI_0, bI_1, bI_T, bI_F, iF_T, iF_F, br_not, le_nlt, not_true_eq_false, not_false_eq_true, and_self, and_true, true_and, and_false, false_and, or_true, true_or, or_false, false_or, ne_eq, reduceCtorEq, Nat.reduceLeDiff, Nat.reduceEqDiff, Nat.reduceLT, Nat.reduceAdd, Nat.reduceSub, Nat.reduceMul, Int32.reduceLT, Int32.reduceLE, Int32.reduceToNatClampNeg, Int32.reduceAdd, Int32.reduceSub, implies_true, forall_const, isIn_e, bit_e, lits, E1, E2, E3, E4, hB, p1, ci, cn, cv, w1, hbt, t2]
      refine hK _ _ e ⟨(hS.tI rfl _ _ _).tI rfl _ _ _, rfl, by simp (config := {decide := true}) only [fR_sI, aI_sI, aL_sI, aR_sI, kd_sI, ln_sI, hn_sI, hm_sI, fI_sI_n, fI_sR, aI_sR, aL_sR, aR_sR, kd_sR, ln_sR, hn_sR, hm_sR, fR_sR_n, fI_tI, fR_tI, aL_tI, aR_tI, kd_tI, ln_tI, hn_tI, hm_tI, aI_tI_n, fI_tL, fR_tL, aI_tL, aR_tL, kd_tL, ln_tL, hn_tL, hm_tL, aL_tL_n, fI_tR, fR_tR, aI_tR, aL_tR, kd_tR, ln_tR, hn_tR, hm_tR, aR_tR_n, hn_nw, hm_nw]; exact p1, ?_, ?_, ?_, ?_⟩
      · intro k hk
        simp (config := {decide := true}) only [fR_sI, aI_sI, aL_sI, aR_sI, kd_sI, ln_sI, hn_sI, hm_sI, fI_sI_n, fI_sR, aI_sR, aL_sR, aR_sR, kd_sR, ln_sR, hn_sR, hm_sR, fR_sR_n, fI_tI, fR_tI, aL_tI, aR_tI, kd_tI, ln_tI, hn_tI, hm_tI, aI_tI_n, fI_tL, fR_tL, aI_tL, aR_tL, kd_tL, ln_tL, hn_tL, hm_tL, aL_tL_n, fI_tR, fR_tR, aI_tR, aL_tR, kd_tR, ln_tR, hn_tR, hm_tR, aR_tR_n, hn_nw, hm_nw]
        exact p2 k hk
      · simp (config := {decide := true}) only [fR_sI, aI_sI, aL_sI, aR_sI, kd_sI, ln_sI, hn_sI, hm_sI, fI_sI_n, fI_sR, aI_sR, aL_sR, aR_sR, kd_sR, ln_sR, hn_sR, hm_sR, fR_sR_n, fI_tI, fR_tI, aL_tI, aR_tI, kd_tI, ln_tI, hn_tI, hm_tI, aI_tI_n, fI_tL, fR_tL, aI_tL, aR_tL, kd_tL, ln_tL, hn_tL, hm_tL, aL_tL_n, fI_tR, fR_tR, aI_tR, aL_tR, kd_tR, ln_tR, hn_tR, hm_tR, aR_tR_n, hn_nw, hm_nw]
        exact p3
      · intro k hk j hj
        simp (config := {decide := true}) only [fI_sI_e, fR_sR_e, aI_tI_e, aL_tL_e, aR_tR_e, true_and]
        rw [if_neg (by omega)]
        by_cases z : k = i
        · rw [if_pos z, z, tb_or, tb_1 (show n < 32 by omega), p4 i e j hj]
          constructor
          · rintro ((w | w) | w)
            · exact Or.inl w
            · omega
            · exact Or.inr ⟨w, by omega, t⟩
          · rintro (w | w)
            · exact Or.inl (Or.inl w)
            · exact Or.inr w.1
        · rw [if_neg z, p4 k hk j hj]
          constructor
          · exact fun w => w.imp id (fun w => ⟨w.1, by omega, w.2.2⟩)
          · exact fun w => w.imp id (fun w => ⟨w.1, by omega, w.2.2⟩)
      · intro j hj
        simp (config := {decide := true}) only [fI_sI_e, fR_sR_e, aI_tI_e, aL_tL_e, aR_tR_e, true_and, if_true]
        rw [if_neg (by omega), tb_or, tb_1 (show i < 32 by omega), p5 j hj]
        constructor
        · rintro (w | w)
          · exact ⟨by omega, w.2⟩
          · rw [w]; exact ⟨by omega, t⟩
        · rintro ⟨w1, w2⟩
          by_cases z : j = i
          · exact Or.inr z
          · exact Or.inl ⟨by omega, w2⟩
    · have t2 : ¬ tb (aI h 105 (g 0 17) v) (W.getD i 0) := fun w => t (told.mp w)
      simp (config := {decide := true}) only [gI_e, gR_e, pI_e, pZ_e, pR_e, ldI_e, ldZ_e, ldL_e, ldR_e, stI_e, stZ_e, stL_e, stR_e, alN_e, nwA_e, nwO_e, dvI_e, rmI_e, oV_e, oN_e, lt_e, rZ_e, br_T, br_F, fR_sI, aI_sI, aL_sI, aR_sI, kd_sI, ln_sI, hn_sI, hm_sI, fI_sI_n, fI_sR, aI_sR, aL_sR, aR_sR, kd_sR, ln_sR, hn_sR, hm_sR, fR_sR_n, fI_tI, fR_tI, aL_tI, aR_tI, kd_tI, ln_tI, hn_tI, hm_tI, aI_tI_n, fI_tL, fR_tL, aI_tL, aR_tL, kd_tL, ln_tL, hn_tL, hm_tL, aL_tL_n, fI_tR, fR_tR, aI_tR, aL_tR, kd_tR, ln_tR, hn_tR, hm_tR, aR_tR_n, hn_nw, hm_nw, rc400, rc403, rc404, rc405, rc407, rc409, rc420, rc440, bI_0, bI_1, bI_T, bI_F, iF_T, iF_F, br_not, le_nlt, not_true_eq_false, not_false_eq_true, and_self, and_true, true_and, and_false, false_and, or_true, true_or, or_false, false_or, ne_eq, reduceCtorEq, Nat.reduceLeDiff, Nat.reduceEqDiff, Nat.reduceLT, Nat.reduceAdd, Nat.reduceSub, Nat.reduceMul, Int32.reduceLT, Int32.reduceLE, Int32.reduceToNatClampNeg, Int32.reduceAdd, Int32.reduceSub, implies_true, forall_const, isIn_e, bit_e, lits, E1, E2, E3, E4, hB, p1, ci, cn, cv, w1, hbt, t2]
      refine hK _ _ e ⟨hS, rfl, p1, p2, p3, ?_, ?_⟩
      · intro k hk j hj
        rw [p4 k hk j hj]
        constructor
        · exact fun w => w.imp id (fun w => ⟨w.1, by omega, w.2.2⟩)
        · rintro (w | ⟨w1, w2, w3⟩)
          · exact Or.inl w
          · by_cases z : k = i
            · rw [z] at w3; exact absurd w3 t
            · exact Or.inr ⟨w1, by omega, w3⟩
      · intro j hj
        rw [p5 j hj]
        constructor
        · exact fun w => ⟨by omega, w.2⟩
        · rintro ⟨w1, w2⟩
          by_cases z : j = i
          · rw [z] at w2; exact absurd w2 t
          · exact ⟨by omega, w2⟩
  · obtain rfl : i = n := by omega
    simp (config := {decide := true}) only [gI_e, gR_e, pI_e, pZ_e, pR_e, ldI_e, ldZ_e, ldL_e, ldR_e, stI_e, stZ_e, stL_e, stR_e, alN_e, nwA_e, nwO_e, dvI_e, rmI_e, oV_e, oN_e, lt_e, rZ_e, br_T, br_F, fR_sI, aI_sI, aL_sI, aR_sI, kd_sI, ln_sI, hn_sI, hm_sI, fI_sI_n, fI_sR, aI_sR, aL_sR, aR_sR, kd_sR, ln_sR, hn_sR, hm_sR, fR_sR_n, fI_tI, fR_tI, aL_tI, aR_tI, kd_tI, ln_tI, hn_tI, hm_tI, aI_tI_n, fI_tL, fR_tL, aI_tL, aR_tL, kd_tL, ln_tL, hn_tL, hm_tL, aL_tL_n, fI_tR, fR_tR, aI_tR, aL_tR, kd_tR, ln_tR, hn_tR, hm_tR, aR_tR_n, hn_nw, hm_nw, rc400, rc403, rc404, rc405, rc407, rc409, rc420, rc440, bI_0, bI_1, bI_T, bI_F, iF_T, iF_F, br_not, le_nlt, not_true_eq_false, not_false_eq_true, and_self, and_true, true_and, and_false, false_and, or_true, true_or, or_false, false_or, ne_eq, reduceCtorEq, Nat.reduceLeDiff, Nat.reduceEqDiff, Nat.reduceLT, Nat.reduceAdd, Nat.reduceSub, Nat.reduceMul, Int32.reduceLT, Int32.reduceLE, Int32.reduceToNatClampNeg, Int32.reduceAdd, Int32.reduceSub, implies_true, forall_const, isIn_e, bit_e, lits, E1, E2, E3, hB, p1, lt_irr, n1]
    have len : (W ++ [v]).length = i + 1 := by rw [List.length_append, hn]; rfl
    have gl : ∀ k, k < i → (W ++ [v]).getD k 0 = W.getD k 0 := fun k hk => gD_l (by omega)
    have gr : (W ++ [v]).getD i 0 = v := by rw [← hn]; exact gD_r W v
    have cs : ∀ a b, clP (sI h' 771 (g 0 10) (nI (i + 1))) m a b = clP h m a b := fun a b => clP_same (hS.sI rfl _ _) m a b
    refine hQ _ (hS.sI rfl _ _) ⟨by omega, ?_, ?_, ?_, ?_⟩
    · rw [len]
      intro k hk
      by_cases z : k = i
      · rw [z, gr]; exact hv
      · rw [gl k (by omega)]; exact q16 k (by omega)
    · rw [len]
      simp (config := {decide := true}) only [fI_sI_e, fR_sR_e, aI_tI_e, aL_tL_e, aR_tR_e, if_true]
    · rw [len]
      intro k hk
      simp (config := {decide := true}) only [fR_sI, aI_sI, aL_sI, aR_sI, kd_sI, ln_sI, hn_sI, hm_sI, fI_sI_n, fI_sR, aI_sR, aL_sR, aR_sR, kd_sR, ln_sR, hn_sR, hm_sR, fR_sR_n, fI_tI, fR_tI, aL_tI, aR_tI, kd_tI, ln_tI, hn_tI, hm_tI, aI_tI_n, fI_tL, fR_tL, aI_tL, aR_tL, kd_tL, ln_tL, hn_tL, hm_tL, aL_tL_n, fI_tR, fR_tR, aI_tR, aL_tR, kd_tR, ln_tR, hn_tR, hm_tR, aR_tR_n, hn_nw, hm_nw]
      by_cases z : k = i
      · rw [z, gr]; exact p3
      · rw [gl k (by omega)]; exact p2 k (by omega)
    · rw [len]
      intro k hk j hj
      simp (config := {decide := true}) only [fR_sI, aI_sI, aL_sI, aR_sI, kd_sI, ln_sI, hn_sI, hm_sI, fI_sI_n, fI_sR, aI_sR, aL_sR, aR_sR, kd_sR, ln_sR, hn_sR, hm_sR, fR_sR_n, fI_tI, fR_tI, aL_tI, aR_tI, kd_tI, ln_tI, hn_tI, hm_tI, aI_tI_n, fI_tL, fR_tL, aI_tL, aR_tL, kd_tL, ln_tL, hn_tL, hm_tL, aL_tL_n, fI_tR, fR_tR, aI_tR, aL_tR, kd_tR, ln_tR, hn_tR, hm_tR, aR_tR_n, hn_nw, hm_nw, cs]
      by_cases z : k = i
      · rw [z, gr, p5 j hj]
        constructor
        · rintro ⟨w1, w2⟩
          rw [gl j w1]
          exact ⟨by omega, by omega, w2⟩
        · rintro ⟨w1, w2, w3⟩
          rw [gl j (by omega)] at w3
          exact ⟨by omega, w3⟩
      · rw [gl k (by omega), p4 k (by omega) j hj]
        constructor
        · rintro (w | ⟨w1, w2, w3⟩)
          · rw [gl j w.1]
            exact ⟨by omega, w.2⟩
          · rw [w1, gr, clP_sy hJ (q16 k (by omega)) hv]
            exact ⟨by omega, by omega, w3⟩
        · rintro ⟨w1, w2, w3⟩
          by_cases zj : j = i
          · rw [zj, gr, clP_sy hJ (q16 k (by omega)) hv] at w3
            exact Or.inr ⟨zj, by omega, w3⟩
          · rw [gl j (by omega)] at w3
            exact Or.inl ⟨by omega, w2, w3⟩
/-- nobody of these clashes with another one -/
def pcP (h : Hp) (m : Nat → Nat) (W : List Nat) (M : Nat → Prop) : Prop := ∀ i, i < W.length → M i → ∀ j, j < W.length → ¬ j = i → M j → ¬ clP h m (W.getD i 0) (W.getD j 0)
theorem peace_e (hJ : JA x y b0 s0 np na nm nr ne g m h) {W : List Nat} (hq : QQ g m h W) (v : Int32) (Q : Int32 → Hp → Prop) (hQ : Q (bI (pcP h m W (tb v))) h) : w_X6_isPeaceful (some (g 0 10)) v h Q := by
  have hB := hJ.2.1
  unfold JS at hB
  obtain ⟨q12, q16, qn, qw, qf⟩ := hq
  unfold w_X6_isPeaceful n_X6_isPeaceful_0 l_X6_isPeaceful_2
  refine ex_lo (n := W.length) (fun i => tb v i ∧ ∃ j, j < W.length ∧ ¬ j = i ∧ tb v j ∧ clP h m (W.getD i 0) (W.getD j 0)) ?_ ?_
  · intro k hk K hK
    unfold b_X6_isPeaceful_2 n_X6_isPeaceful_31
    have c := cnF hk q12 (by decide)
    have hbt := fun h Q => hasBit_e v (show k < 32 by omega) h Q
    have z0 : (aI h 107 (g 0 19) k &&& v = 0) = ¬ ∃ j, j < W.length ∧ ¬ j = k ∧ tb v j ∧ clP h m (W.getD k 0) (W.getD j 0) := by
      rw [eq0_tb]
      apply propext
      constructor
      · rintro hn ⟨j, j1, j2, j3, j4⟩
        apply hn j (by omega)
        rw [tb_and]
        exact ⟨(qf k hk j (by omega)).mpr ⟨j1, j2, j4⟩, j3⟩
      · intro hn j hj w
        rw [tb_and] at w
        have := (qf k hk j hj).mp w.1
        exact hn ⟨j, this.1, this.2.1, w.2, this.2.2⟩
    by_cases t : tb v k
    · by_cases u : ∃ j, j < W.length ∧ ¬ j = k ∧ tb v j ∧ clP h m (W.getD k 0) (W.getD j 0)
      · have np : ¬ pcP h m W (tb v) := fun w => by
          obtain ⟨j, j1, j2, j3, j4⟩ := u
          exact w k hk t j j1 j2 j3 j4
        rw [bI_n np] at hQ
        have z1 : ¬ (aI h 107 (g 0 19) k &&& v = 0) := by rw [z0]; exact fun w => w u
        simp only [gI_e, gR_e, pI_e, pZ_e, pR_e, ldI_e, ldZ_e, ldL_e, ldR_e, stI_e, stZ_e, stL_e, stR_e, alN_e, nwA_e, nwO_e, dvI_e, rmI_e, oV_e, oN_e, lt_e, rZ_e, br_T, br_F, fR_sI, aI_sI, aL_sI, aR_sI, kd_sI, ln_sI, hn_sI, hm_sI, fI_sI_n, fI_sR, aI_sR, aL_sR, aR_sR, kd_sR, ln_sR, hn_sR, hm_sR, fR_sR_n, fI_tI, fR_tI, aL_tI, aR_tI, kd_tI, ln_tI, hn_tI, hm_tI, aI_tI_n, fI_tL, fR_tL, aI_tL, aR_tL, kd_tL, ln_tL, hn_tL, hm_tL, aL_tL_n, fI_tR, fR_tR, aI_tR, aL_tR, kd_tR, ln_tR, hn_tR, hm_tR, aR_tR_n, hn_nw, hm_nw, rc400, rc403, rc404, rc405, rc407, rc409, rc420, rc440, bI_0, bI_1, bI_T, bI_F, iF_T, iF_F, br_not, le_nlt, not_true_eq_false, not_false_eq_true, and_self, and_true, true_and, and_false, false_and, or_true, true_or, or_false, false_or, ne_eq, reduceCtorEq, Nat.reduceLeDiff, Nat.reduceEqDiff, Nat.reduceLT, Nat.reduceAdd, Nat.reduceSub, Nat.reduceMul, Int32.reduceLT, Int32.reduceLE, Int32.reduceToNatClampNeg, Int32.reduceAdd, Int32.reduceSub, implies_true, forall_const, isIn_e, bit_e, lits, hB, qn, c, hbt, t, z1]
        exact hQ
      · have z1 : aI h 107 (g 0 19) k &&& v = 0 := by rw [z0]; exact u
        simp only [gI_e, gR_e, pI_e, pZ_e, pR_e, ldI_e, ldZ_e, ldL_e, ldR_e, stI_e, stZ_e, stL_e, stR_e, alN_e, nwA_e, nwO_e, dvI_e, rmI_e, oV_e, oN_e, lt_e, rZ_e, br_T, br_F, fR_sI, aI_sI, aL_sI, aR_sI, kd_sI, ln_sI, hn_sI, hm_sI, fI_sI_n, fI_sR, aI_sR, aL_sR, aR_sR, kd_sR, ln_sR, hn_sR, hm_sR, fR_sR_n, fI_tI, fR_tI, aL_tI, aR_tI, kd_tI, ln_tI, hn_tI, hm_tI, aI_tI_n, fI_tL, fR_tL, aI_tL, aR_tL, kd_tL, ln_tL, hn_tL, hm_tL, aL_tL_n, fI_tR, fR_tR, aI_tR, aL_tR, kd_tR, ln_tR, hn_tR, hm_tR, aR_tR_n, hn_nw, hm_nw, rc400, rc403, rc404, rc405, rc407, rc409, rc420, rc440, bI_0, bI_1, bI_T, bI_F, iF_T, iF_F, br_not, le_nlt, not_true_eq_false, not_false_eq_true, and_self, and_true, true_and, and_false, false_and, or_true, true_or, or_false, false_or, ne_eq, reduceCtorEq, Nat.reduceLeDiff, Nat.reduceEqDiff, Nat.reduceLT, Nat.reduceAdd, Nat.reduceSub, Nat.reduceMul, Int32.reduceLT, Int32.reduceLE, Int32.reduceToNatClampNeg, Int32.reduceAdd, Int32.reduceSub, implies_true, forall_const, isIn_e, bit_e, lits, hB, qn, c, hbt, t, z1]
        exact hK (fun w => u w.2)
    · simp only [gI_e, gR_e, pI_e, pZ_e, pR_e, ldI_e, ldZ_e, ldL_e, ldR_e, stI_e, stZ_e, stL_e, stR_e, alN_e, nwA_e, nwO_e, dvI_e, rmI_e, oV_e, oN_e, lt_e, rZ_e, br_T, br_F, fR_sI, aI_sI, aL_sI, aR_sI, kd_sI, ln_sI, hn_sI, hm_sI, fI_sI_n, fI_sR, aI_sR, aL_sR, aR_sR, kd_sR, ln_sR, hn_sR, hm_sR, fR_sR_n, fI_tI, fR_tI, aL_tI, aR_tI, kd_tI, ln_tI, hn_tI, hm_tI, aI_tI_n, fI_tL, fR_tL, aI_tL, aR_tL, kd_tL, ln_tL, hn_tL, hm_tL, aL_tL_n, fI_tR, fR_tR, aI_tR, aL_tR, kd_tR, ln_tR, hn_tR, hm_tR, aR_tR_n, hn_nw, hm_nw, rc400, rc403, rc404, rc405, rc407, rc409, rc420, rc440, bI_0, bI_1, bI_T, bI_F, iF_T, iF_F, br_not, le_nlt, not_true_eq_false, not_false_eq_true, and_self, and_true, true_and, and_false, false_and, or_true, true_or, or_false, false_or, ne_eq, reduceCtorEq, Nat.reduceLeDiff, Nat.reduceEqDiff, Nat.reduceLT, Nat.reduceAdd, Nat.reduceSub, Nat.reduceMul, Int32.reduceLT, Int32.reduceLE, Int32.reduceToNatClampNeg, Int32.reduceAdd, Int32.reduceSub, implies_true, forall_const, isIn_e, bit_e, lits, hB, qn, c, hbt, t]
      exact hK (fun w => t w.1)
  · intro K hn
    unfold b_X6_isPeaceful_2
    have yp : pcP h m W (tb v) := fun i hi ti j hj hji tj hc => hn ⟨i, hi, ti, j, hj, hji, tj, hc⟩
    rw [bI_y yp] at hQ
    simp only [gI_e, gR_e, pI_e, pZ_e, pR_e, ldI_e, ldZ_e, ldL_e, ldR_e, stI_e, stZ_e, stL_e, stR_e, alN_e, nwA_e, nwO_e, dvI_e, rmI_e, oV_e, oN_e, lt_e, rZ_e, br_T, br_F, fR_sI, aI_sI, aL_sI, aR_sI, kd_sI, ln_sI, hn_sI, hm_sI, fI_sI_n, fI_sR, aI_sR, aL_sR, aR_sR, kd_sR, ln_sR, hn_sR, hm_sR, fR_sR_n, fI_tI, fR_tI, aL_tI, aR_tI, kd_tI, ln_tI, hn_tI, hm_tI, aI_tI_n, fI_tL, fR_tL, aI_tL, aR_tL, kd_tL, ln_tL, hn_tL, hm_tL, aL_tL_n, fI_tR, fR_tR, aI_tR, aL_tR, kd_tR, ln_tR, hn_tR, hm_tR, aR_tR_n, hn_nw, hm_nw, rc400, rc403, rc404, rc405, rc407, rc409, rc420, rc440, bI_0, bI_1, bI_T, bI_F, iF_T, iF_F, br_not, le_nlt, not_true_eq_false, not_false_eq_true, and_self, and_true, true_and, and_false, false_and, or_true, true_or, or_false, false_or, ne_eq, reduceCtorEq, Nat.reduceLeDiff, Nat.reduceEqDiff, Nat.reduceLT, Nat.reduceAdd, Nat.reduceSub, Nat.reduceMul, Int32.reduceLT, Int32.reduceLE, Int32.reduceToNatClampNeg, Int32.reduceAdd, Int32.reduceSub, implies_true, forall_const, isIn_e, bit_e, lits, hB, qn, lt_irr]
    exact hQ
end QUA
