/-- k letters that both have, in the same order -/
def CS (k : Nat) (a b : List Int64) : Prop := ∃ l : List Int64, l.length = k ∧ l.Sublist a ∧ l.Sublist b
def isLC (n : Nat) (a b : List Int64) : Prop := (∀ k, CS k a b → k ≤ n) ∧ CS n a b
theorem isLC.uniq {n n2 : Nat} {a b : List Int64} (h : isLC n a b) (h2 : isLC n2 a b) : n = n2 := Nat.le_antisymm (h2.1 n h.2) (h.1 n2 h2.2)
theorem isLC.rev {n : Nat} {a b : List Int64} (h : isLC n a b) : isLC n a.reverse b.reverse := by
  have key : ∀ k a b, CS k a b → CS k a.reverse b.reverse := by
    rintro k a b ⟨l, h1, h2, h3⟩
    exact ⟨l.reverse, by rw [List.length_reverse]; exact h1, h2.reverse, h3.reverse⟩
  refine ⟨fun k q => h.1 k ?_, key _ _ _ h.2⟩
  have := key _ _ _ q
  rwa [List.reverse_reverse, List.reverse_reverse] at this
theorem isLC.nilL (b : List Int64) : isLC 0 [] b := by
  refine ⟨?_, ⟨[], rfl, List.nil_sublist _, List.nil_sublist _⟩⟩
  rintro k ⟨l, h1, h2, -⟩
  rw [List.sublist_nil] at h2
  rw [h2] at h1
  exact Nat.le_of_eq h1.symm
theorem isLC.nilR (a : List Int64) : isLC 0 a [] := by
  refine ⟨?_, ⟨[], rfl, List.nil_sublist _, List.nil_sublist _⟩⟩
  rintro k ⟨l, h1, -, h2⟩
  rw [List.sublist_nil] at h2
  rw [h2] at h1
  exact Nat.le_of_eq h1.symm
theorem CS.c1 {k : Nat} {a b : List Int64} (x : Int64) (h : CS k a b) : CS k (x :: a) b := by
  obtain ⟨l, h1, h2, h3⟩ := h
  exact ⟨l, h1, h2.cons x, h3⟩
theorem CS.c2 {k : Nat} {a b : List Int64} (x : Int64) (h : CS k a b) : CS k a (x :: b) := by
  obtain ⟨l, h1, h2, h3⟩ := h
  exact ⟨l, h1, h2, h3.cons x⟩
theorem CS.both {k : Nat} {a b : List Int64} (x : Int64) (h : CS k a b) : CS (k + 1) (x :: a) (x :: b) := by
  obtain ⟨l, h1, h2, h3⟩ := h
  exact ⟨x :: l, by rw [List.length_cons, h1], h2.cons_cons x, h3.cons_cons x⟩
theorem CS.inv {k : Nat} {a b : List Int64} {x y : Int64} (h : CS k (x :: a) (y :: b)) : CS k a (y :: b) ∨ CS k (x :: a) b ∨ (x = y ∧ ∃ k0, k = k0 + 1 ∧ CS k0 a b) := by
  obtain ⟨l, h1, h2, h3⟩ := h
  rcases List.sublist_cons_iff.mp h2 with e | ⟨r, e, e2⟩
  · exact Or.inl ⟨l, h1, e, h3⟩
  · rcases List.sublist_cons_iff.mp h3 with f | ⟨r2, f, f2⟩
    · exact Or.inr (Or.inl ⟨l, h1, h2, f⟩)
    · rw [e] at f
      injection f with f1 f3
      refine Or.inr (Or.inr ⟨f1, r.length, ?_, r, rfl, e2, by rw [f3]; exact f2⟩)
      rw [← h1, e, List.length_cons]
theorem CS.down {k : Nat} {a b : List Int64} (h : CS (k + 1) a b) : CS k a b := by
  obtain ⟨l, h1, h2, h3⟩ := h
  cases l with
  | nil => cases h1
  | cons z l =>
    refine ⟨l, ?_, (List.sublist_cons_self z l).trans h2, (List.sublist_cons_self z l).trans h3⟩
    rw [List.length_cons] at h1
    omega
/-- the greatest of three -/
theorem isLC.step {p q r : Nat} {a b : List Int64} {x y : Int64} (h1 : isLC p a (y :: b)) (h2 : isLC q (x :: a) b) (h3 : isLC r a b) : isLC (max (max p q) (iF (x = y) (r + 1) 0)) (x :: a) (y :: b) := by
  by_cases e : x = y
  · rw [iF_y e]
    constructor
    · intro k hk
      rcases hk.inv with z | z | ⟨-, k0, z1, z2⟩
      · have := h1.1 k z; omega
      · have := h2.1 k z; omega
      · have := h3.1 k0 z2; omega
    · subst e
      rcases Nat.le_total (max p q) (r + 1) with z | z
      · rw [Nat.max_eq_right z]; exact h3.2.both x
      · rw [Nat.max_eq_left z]
        rcases Nat.le_total p q with w | w
        · rw [Nat.max_eq_right w]; exact h2.2.c2 x
        · rw [Nat.max_eq_left w]; exact h1.2.c1 x
  · rw [iF_n e]
    constructor
    · intro k hk
      rcases hk.inv with z | z | ⟨z, -⟩
      · have := h1.1 k z; omega
      · have := h2.1 k z; omega
      · exact absurd z e
    · rw [Nat.max_eq_left (Nat.zero_le _)]
      rcases Nat.le_total p q with w | w
      · rw [Nat.max_eq_right w]; exact h2.2.c2 y
      · rw [Nat.max_eq_left w]; exact h1.2.c1 x
/-- a like letter is always taken -/
theorem isLC.take {r : Nat} {a b : List Int64} (x : Int64) (h3 : isLC r a b) : isLC (r + 1) (x :: a) (x :: b) := by
  refine ⟨?_, h3.2.both x⟩
  intro k hk
  obtain ⟨l, l1, l2, l3⟩ := hk
  cases l with
  | nil => rw [← l1]; exact Nat.zero_le _
  | cons z l =>
    have tail : ∀ {c : List Int64}, (z :: l).Sublist (x :: c) → l.Sublist c := by
      intro c hc
      rcases List.sublist_cons_iff.mp hc with e | ⟨r, e, e2⟩
      · exact (List.sublist_cons_self z l).trans e
      · injection e with e1 e3
        rw [e3]; exact e2
    have := h3.1 l.length ⟨l, rfl, tail l2, tail l3⟩
    rw [← l1, List.length_cons]
    omega
/-- what is left from the end -/
def sl (f : Nat → Int64) (n : Nat) : Nat → List Int64
  | 0 => []
  | a + 1 => f (n - (a + 1)) :: sl f n a
/-- the first so many, backwards -/
def rl (f : Nat → Int64) : Nat → List Int64
  | 0 => []
  | i + 1 => f i :: rl f i
theorem sl_app (f : Nat → Int64) (n : Nat) : ∀ a k, a + k ≤ n → sl f n (a + k) = (rl (fun i => f (n - (a + k) + i)) k).reverse ++ sl f n a := by
  intro a k
  induction k with
  | zero => intro _; rfl
  | succ k ih =>
    intro h
    have e1 : rl (fun i => f (n - (a + (k + 1)) + i)) (k + 1) = f (n - (a + 1)) :: rl (fun i => f (n - (a + (k + 1)) + i)) k := by
      rw [rl]
      congr 2
      omega
    have gen : ∀ (c k : Nat), (rl (fun i => f (c + i)) (k + 1)).reverse = f c :: (rl (fun i => f (c + 1 + i)) k).reverse := by
      intro c k
      induction k with
      | zero => rfl
      | succ k ihk =>
        rw [rl, List.reverse_cons, ihk]
        show f c :: (rl (fun i => f (c + 1 + i)) k).reverse ++ [f (c + (k + 1))] = f c :: (rl (fun i => f (c + 1 + i)) (k + 1)).reverse
        rw [rl, List.reverse_cons, List.cons_append, show c + (k + 1) = c + 1 + k by omega]
    show f (n - (a + k + 1)) :: sl f n (a + k) = _
    rw [ih (by omega), gen, List.cons_append]
    congr 1
    congr 2
    congr 1
    funext i
    congr 1
    omega
theorem sl_rl (f : Nat → Int64) (n : Nat) : sl f n n = (rl f n).reverse := by
  have := sl_app f n 0 n (by omega)
  rw [Nat.zero_add, Nat.sub_self] at this
  rw [this]
  show (rl (fun i => f (0 + i)) n).reverse ++ [] = _
  rw [List.append_nil]
  congr 2
  funext i
  rw [Nat.zero_add]
theorem lcRow_ok {f g : Nat → Int64} {n k a : Nat} {prev : Nat → Nat} (hp : ∀ b, isLC (prev b) (sl f n a) (sl g k b)) : ∀ b, isLC (lcRow (fun b => f (n - (a + 1)) = g (k - (b + 1))) prev b) (sl f n (a + 1)) (sl g k b) := by
  intro b
  induction b with
  | zero => exact isLC.nilR _
  | succ b ih =>
    rw [lcRow]
    exact isLC.step (hp (b + 1)) ih (hp b)
theorem lcS_ok (f g : Nat → Int64) (n k : Nat) : ∀ a b, isLC (lcS f g n k a b) (sl f n a) (sl g k b) := by
  intro a
  induction a with
  | zero => intro b; exact isLC.nilL _
  | succ a ih => exact lcRow_ok ih
/-- the likeness, letter by letter from the start -/
noncomputable def cRow (e : Nat → Prop) (prev : Nat → Nat) : Nat → Nat
  | 0 => 0
  | j + 1 => iF (e j) (prev j + 1) (max (prev (j + 1)) (cRow e prev j))
noncomputable def cD (f g : Nat → Int64) : Nat → Nat → Nat
  | 0 => fun _ => 0
  | i + 1 => cRow (fun j => f i = g j) (cD f g i)
theorem cD_ok (f g : Nat → Int64) : ∀ i j, isLC (cD f g i j) (rl f i) (rl g j) := by
  intro i
  induction i with
  | zero => intro j; exact isLC.nilL _
  | succ i ih =>
    intro j
    show isLC (cRow (fun j => f i = g j) (cD f g i) j) _ _
    induction j with
    | zero => exact isLC.nilR _
    | succ j ihj =>
      rw [cRow]
      by_cases e : f i = g j
      · rw [iF_y e]
        show isLC _ (f i :: rl f i) (g j :: rl g j)
        rw [e]
        exact (ih j).take (g j)
      · rw [iF_n e]
        have := isLC.step (x := f i) (y := g j) (ih (j + 1)) ihj (ih j)
        rw [iF_n e, Nat.max_eq_left (Nat.zero_le _)] at this
        exact this
theorem cD_lcS (f g : Nat → Int64) (n k : Nat) : cD f g n k = lcS f g n k n k := by
  have h1 := (cD_ok f g n k).rev
  have h2 := lcS_ok f g n k n k
  rw [sl_rl, sl_rl] at h2
  exact h1.uniq h2
theorem cD_le (f g : Nat → Int64) (i j : Nat) : cD f g i j ≤ i := by
  obtain ⟨l, h1, h2, -⟩ := (cD_ok f g i j).2
  have := h2.length_le
  have e : (rl f i).length = i := by
    induction i with
    | zero => rfl
    | succ i ih =>
      rw [rl, List.length_cons]
      have : ∀ i, (rl f i).length = i := by
        intro i
        induction i with
        | zero => rfl
        | succ i ih => rw [rl, List.length_cons, ih]
      rw [this]
  omega
theorem lcS_le (f g : Nat → Int64) (n k a b : Nat) : lcS f g n k a b ≤ a := by
  obtain ⟨l, h1, h2, -⟩ := (lcS_ok f g n k a b).2
  have := h2.length_le
  have e : ∀ a, (sl f n a).length = a := by
    intro a
    induction a with
    | zero => rfl
    | succ a ih => rw [sl, List.length_cons, ih]
  rw [e] at this
  omega
theorem rl_congr {f f2 : Nat → Int64} {n : Nat} (h : ∀ i, i < n → f i = f2 i) : rl f n = rl f2 n := by
  induction n with
  | zero => rfl
  | succ n ih => rw [rl, rl, h n (by omega), ih (fun i hi => h i (by omega))]
theorem cD_congr {f f2 g g2 : Nat → Int64} {n k : Nat} (hf : ∀ i, i < n → f i = f2 i) (hg : ∀ j, j < k → g j = g2 j) : cD f g n k = cD f2 g2 n k := by
  have h1 := cD_ok f g n k
  have h2 := cD_ok f2 g2 n k
  rw [rl_congr hf, rl_congr hg] at h1
  exact h1.uniq h2
theorem eqS.flI {h h1 : Hp} (a : eqS h h1) {k : Nat} (hk : isSk k = true) (q b n : Nat) (v : Int32) : eqS h (flI h1 k q b n v) := by
  refine a.tr ⟨rfl, rfl, rfl, rfl, rfl, fun _ _ => rfl, fun k2 q2 => aI_flI_n _ _ _ _ _ _ _ (fun e => ?_), fun _ _ => rfl, fun _ _ => rfl⟩
  rw [e, hk] at q2
  cases q2
section LK
variable {x y b0 s0 np na nm nr ne : Nat} {g : Nat → Nat → Nat} {m : Nat → Nat} {h : Hp}
theorem cmp0 (a b : Int64) : (lg_cmp a b = 0) = (a = b) := propext (lg_cmp_eq a b)
theorem likeOnes_e (hJ : JA x y b0 s0 np na nm nr ne g m h) {a b n k : Nat} (ka : kd h a = 399) (kb : kd h b = 399) (la : ln h a = n) (lb : ln h b = k) (hn : n ≤ 20) (hk : k ≤ 20) (Q : Int32 → Hp → Prop) (hQ : ∀ h', eqS h h' → Q (nI (cD (aL h 399 a) (aL h 399 b) n k)) h') : w_X10_likeOnes (some x) (some a) (some b) h Q := by
  have hB := hJ.2.1
  unfold JS at hB
  unfold w_X10_likeOnes n_X10_likeOnes_0
  simp only [gI_e, gR_e, pI_e, pZ_e, pR_e, ldI_e, ldZ_e, ldL_e, ldR_e, stI_e, stZ_e, stL_e, stR_e, alN_e, nwA_e, nwO_e, dvI_e, rmI_e, oV_e, oN_e, lt_e, rZ_e, br_T, br_F, fR_sI, aI_sI, aL_sI, aR_sI, kd_sI, ln_sI, hn_sI, hm_sI, fI_sI_n, fI_sR, aI_sR, aL_sR, aR_sR, kd_sR, ln_sR, hn_sR, hm_sR, fR_sR_n, fI_tI, fR_tI, aL_tI, aR_tI, kd_tI, ln_tI, hn_tI, hm_tI, aI_tI_n, fI_tL, fR_tL, aI_tL, aR_tL, kd_tL, ln_tL, hn_tL, hm_tL, aL_tL_n, fI_tR, fR_tR, aI_tR, aL_tR, kd_tR, ln_tR, hn_tR, hm_tR, aR_tR_n, hn_nw, hm_nw, rc400, rc403, rc404, rc405, rc407, rc409, rc420, rc440, bI_0, bI_1, bI_T, bI_F, iF_T, iF_F, br_not, le_nlt, not_true_eq_false, not_false_eq_true, and_self, and_true, true_and, and_false, false_and, or_true, true_or, or_false, false_or, ne_eq, reduceCtorEq, Nat.reduceLeDiff, Nat.reduceEqDiff, Nat.reduceLT, Nat.reduceAdd, Nat.reduceSub, Nat.reduceMul, Int32.reduceLT, Int32.reduceLE, Int32.reduceToNatClampNeg, Int32.reduceAdd, Int32.reduceSub, implies_true, forall_const, isIn_e, bit_e, lits, hB]
  refine fillI (n := 21) (by simp only [gI_e, gR_e, pI_e, pZ_e, pR_e, ldI_e, ldZ_e, ldL_e, ldR_e, stI_e, stZ_e, stL_e, stR_e, alN_e, nwA_e, nwO_e, dvI_e, rmI_e, oV_e, oN_e, lt_e, rZ_e, br_T, br_F, fR_sI, aI_sI, aL_sI, aR_sI, kd_sI, ln_sI, hn_sI, hm_sI, fI_sI_n, fI_sR, aI_sR, aL_sR, aR_sR, kd_sR, ln_sR, hn_sR, hm_sR, fR_sR_n, fI_tI, fR_tI, aL_tI, aR_tI, kd_tI, ln_tI, hn_tI, hm_tI, aI_tI_n, fI_tL, fR_tL, aI_tL, aR_tL, kd_tL, ln_tL, hn_tL, hm_tL, aL_tL_n, fI_tR, fR_tR, aI_tR, aL_tR, kd_tR, ln_tR, hn_tR, hm_tR, aR_tR_n, hn_nw, hm_nw, rc400, rc403, rc404, rc405, rc407, rc409, rc420, rc440, bI_0, bI_1, bI_T, bI_F, iF_T, iF_F, br_not, le_nlt, not_true_eq_false, not_false_eq_true, and_self, and_true, true_and, and_false, false_and, or_true, true_or, or_false, false_or, ne_eq, reduceCtorEq, Nat.reduceLeDiff, Nat.reduceEqDiff, Nat.reduceLT, Nat.reduceAdd, Nat.reduceSub, Nat.reduceMul, Int32.reduceLT, Int32.reduceLE, Int32.reduceToNatClampNeg, Int32.reduceAdd, Int32.reduceSub, implies_true, forall_const, isIn_e, bit_e, lits, hB]) (by simp only [gI_e, gR_e, pI_e, pZ_e, pR_e, ldI_e, ldZ_e, ldL_e, ldR_e, stI_e, stZ_e, stL_e, stR_e, alN_e, nwA_e, nwO_e, dvI_e, rmI_e, oV_e, oN_e, lt_e, rZ_e, br_T, br_F, fR_sI, aI_sI, aL_sI, aR_sI, kd_sI, ln_sI, hn_sI, hm_sI, fI_sI_n, fI_sR, aI_sR, aL_sR, aR_sR, kd_sR, ln_sR, hn_sR, hm_sR, fR_sR_n, fI_tI, fR_tI, aL_tI, aR_tI, kd_tI, ln_tI, hn_tI, hm_tI, aI_tI_n, fI_tL, fR_tL, aI_tL, aR_tL, kd_tL, ln_tL, hn_tL, hm_tL, aL_tL_n, fI_tR, fR_tR, aI_tR, aL_tR, kd_tR, ln_tR, hn_tR, hm_tR, aR_tR_n, hn_nw, hm_nw, rc400, rc403, rc404, rc405, rc407, rc409, rc420, rc440, bI_0, bI_1, bI_T, bI_F, iF_T, iF_F, br_not, le_nlt, not_true_eq_false, not_false_eq_true, and_self, and_true, true_and, and_false, false_and, or_true, true_or, or_false, false_or, ne_eq, reduceCtorEq, Nat.reduceLeDiff, Nat.reduceEqDiff, Nat.reduceLT, Nat.reduceAdd, Nat.reduceSub, Nat.reduceMul, Int32.reduceLT, Int32.reduceLE, Int32.reduceToNatClampNeg, Int32.reduceAdd, Int32.reduceSub, implies_true, forall_const, isIn_e, bit_e, lits, hB]) (by simp only [gI_e, gR_e, pI_e, pZ_e, pR_e, ldI_e, ldZ_e, ldL_e, ldR_e, stI_e, stZ_e, stL_e, stR_e, alN_e, nwA_e, nwO_e, dvI_e, rmI_e, oV_e, oN_e, lt_e, rZ_e, br_T, br_F, fR_sI, aI_sI, aL_sI, aR_sI, kd_sI, ln_sI, hn_sI, hm_sI, fI_sI_n, fI_sR, aI_sR, aL_sR, aR_sR, kd_sR, ln_sR, hn_sR, hm_sR, fR_sR_n, fI_tI, fR_tI, aL_tI, aR_tI, kd_tI, ln_tI, hn_tI, hm_tI, aI_tI_n, fI_tL, fR_tL, aI_tL, aR_tL, kd_tL, ln_tL, hn_tL, hm_tL, aL_tL_n, fI_tR, fR_tR, aI_tR, aL_tR, kd_tR, ln_tR, hn_tR, hm_tR, aR_tR_n, hn_nw, hm_nw, rc400, rc403, rc404, rc405, rc407, rc409, rc420, rc440, bI_0, bI_1, bI_T, bI_F, iF_T, iF_F, br_not, le_nlt, not_true_eq_false, not_false_eq_true, and_self, and_true, true_and, and_false, false_and, or_true, true_or, or_false, false_or, ne_eq, reduceCtorEq, Nat.reduceLeDiff, Nat.reduceEqDiff, Nat.reduceLT, Nat.reduceAdd, Nat.reduceSub, Nat.reduceMul, Int32.reduceLT, Int32.reduceLE, Int32.reduceToNatClampNeg, Int32.reduceAdd, Int32.reduceSub, implies_true, forall_const, isIn_e, bit_e, lits, hB]) (by decide) ?_
  simp only [gI_e, gR_e, pI_e, pZ_e, pR_e, ldI_e, ldZ_e, ldL_e, ldR_e, stI_e, stZ_e, stL_e, stR_e, alN_e, nwA_e, nwO_e, dvI_e, rmI_e, oV_e, oN_e, lt_e, rZ_e, br_T, br_F, fR_sI, aI_sI, aL_sI, aR_sI, kd_sI, ln_sI, hn_sI, hm_sI, fI_sI_n, fI_sR, aI_sR, aL_sR, aR_sR, kd_sR, ln_sR, hn_sR, hm_sR, fR_sR_n, fI_tI, fR_tI, aL_tI, aR_tI, kd_tI, ln_tI, hn_tI, hm_tI, aI_tI_n, fI_tL, fR_tL, aI_tL, aR_tL, kd_tL, ln_tL, hn_tL, hm_tL, aL_tL_n, fI_tR, fR_tR, aI_tR, aL_tR, kd_tR, ln_tR, hn_tR, hm_tR, aR_tR_n, hn_nw, hm_nw, rc400, rc403, rc404, rc405, rc407, rc409, rc420, rc440, bI_0, bI_1, bI_T, bI_F, iF_T, iF_F, br_not, le_nlt, not_true_eq_false, not_false_eq_true, and_self, and_true, true_and, and_false, false_and, or_true, true_or, or_false, false_or, ne_eq, reduceCtorEq, Nat.reduceLeDiff, Nat.reduceEqDiff, Nat.reduceLT, Nat.reduceAdd, Nat.reduceSub, Nat.reduceMul, Int32.reduceLT, Int32.reduceLE, Int32.reduceToNatClampNeg, Int32.reduceAdd, Int32.reduceSub, implies_true, forall_const, isIn_e, bit_e, lits, hB]
  have hb400 : ¬ 400 ≤ kd h b := by omega
  have ha400 : ¬ 400 ≤ kd h a := by omega
  have e20 : (if (20 : Int32) < nI k then 20 else nI k) = nI k := if_neg (fun z => by
    have := (nI_ltI (a := 20) (b := k) (by omega) (by omega)).mp z
    omega)
  have ln2 : ln (flI h 111 (g 0 7) 0 21 0) = ln h := rfl
  have kd2 : kd (flI h 111 (g 0 7) 0 21 0) = kd h := rfl
  rw [alN_e (by rw [kd2]; omega) (fun z => absurd (by rw [kd2] at z; exact z) hb400), ln2, lb, e20]
  unfold l_X10_likeOnes_19
  refine Lo.count n (fun i s h' => eqS h h' ∧ s = nI i ∧ ∀ j, j ≤ k → aI h' 111 (g 0 7) j = nI (cD (aL h 399 a) (aL h 399 b) i j)) ?_ 0 (Nat.zero_le _) _ _ ⟨(eqS.rf h).flI rfl _ _ _ _, rfl, fun j hj => by
    rw [aI_flI_e, if_pos ⟨rfl, Nat.zero_le _, by omega⟩]
    rfl⟩
  rintro i s h' hi ⟨hS, rfl, hT⟩ K hK
  obtain ⟨e1, e2, e3, e4, e5, e6, e7, e8, e9⟩ := hS
  have kx : kd h' x = 11 := by rw [e3]; exact hB.1
  have fx : fR h' 1287 x = some (g 0 7) := by rw [e5]; simp only [hB]
  have k7 : kd h' (g 0 7) = 111 := by rw [e3]; simp only [hB]
  have l7 : ln h' (g 0 7) = 21 := by rw [e4]; simp only [hB]
  have ka' : kd h' a = 399 := by rw [e3]; exact ka
  have la' : ln h' a = n := by rw [e4]; exact la
  unfold b_X10_likeOnes_19
  rw [alN_e (by omega) (fun z => by omega), la']
  by_cases c : i < n
  · have c1 : ¬ nI n ≤ nI i := fun z => by have := (nI_leI (by omega) (by omega)).mp z; omega
    rw [br_n c1]
    unfold l_X10_likeOnes_32
    refine Lo.count k (fun j s h' => eqS h h' ∧ s = (nI (cD (aL h 399 a) (aL h 399 b) i j), nI (j + 1)) ∧ (∀ j', j' ≤ k → j < j' → aI h' 111 (g 0 7) j' = nI (cD (aL h 399 a) (aL h 399 b) i j')) ∧ (∀ j', j' ≤ j → aI h' 111 (g 0 7) j' = nI (cD (aL h 399 a) (aL h 399 b) (i + 1) j'))) ?_ 0 (Nat.zero_le _) _ _ ⟨⟨e1, e2, e3, e4, e5, e6, e7, e8, e9⟩, ?_, fun j' h1 h2 => hT j' h1, fun j' h1 => ?_⟩
    rotate_left
    · have z0 : ∀ i, cD (aL h 399 a) (aL h 399 b) i 0 = 0 := by
        intro i
        cases i <;> rfl
      rw [z0]
      rfl
    · obtain rfl : j' = 0 := by omega
      rw [hT 0 (Nat.zero_le _)]
      have z0 : ∀ i, cD (aL h 399 a) (aL h 399 b) i 0 = 0 := by
        intro i
        cases i <;> rfl
      rw [z0, z0]
    rintro j s h2 hj ⟨hS2, rfl, hA, hB2⟩ K2 hK2
    have hS3 := hS2
    obtain ⟨f1, f2, f3, f4, f5, f6, f7, f8, f9⟩ := hS2
    have kx : kd h2 x = 11 := by rw [f3]; exact hB.1
    have fx : fR h2 1287 x = some (g 0 7) := by rw [f5]; simp only [hB]
    have k7 : kd h2 (g 0 7) = 111 := by rw [f3]; simp only [hB]
    have l7 : ln h2 (g 0 7) = 21 := by rw [f4]; simp only [hB]
    have ka' : kd h2 a = 399 := by rw [f3]; exact ka
    have la' : ln h2 a = n := by rw [f4]; exact la
    have kb' : kd h2 b = 399 := by rw [f3]; exact kb
    have lb' : ln h2 b = k := by rw [f4]; exact lb
    have aL2 : aL h2 399 = aL h 399 := f8 399 (by decide)
    unfold b_X10_likeOnes_32 n_X10_likeOnes_96
    by_cases cj : j < k
    · have d1 : ¬ nI k < nI (j + 1) := fun z => by have := (nI_ltI (by omega) (by omega)).mp z; omega
      have d2 : vp_in (nI (j + 1)) 21 := vp_in_nI (by omega) (by decide)
      have d3 : (nI (j + 1)).toNatClampNeg = j + 1 := nI_clamp (by omega)
      have d4 : nI (j + 1) - 1 = nI j := nI_pred j
      have d5 : vp_in (nI i) n := vp_in_nI c (by omega)
      have d6 : (nI i).toNatClampNeg = i := nI_clamp (by omega)
      have d7 : vp_in (nI j) k := vp_in_nI cj (by omega)
      have d8 : (nI j).toNatClampNeg = j := nI_clamp (by omega)
      have d9 : vp_in (nI j) 21 := vp_in_nI (by omega) (by decide)
      have d10 : nI (j + 1) + 1 = nI (j + 1 + 1) := n1 _
      have v1 := hA (j + 1) cj (by omega)
      have v2 := hB2 j (Nat.le_refl _)
      simp (config := {decide := true}) only [gI_e, gR_e, pI_e, pZ_e, pR_e, ldI_e, ldZ_e, ldL_e, ldR_e, stI_e, stZ_e, stL_e, stR_e, alN_e, nwA_e, nwO_e, dvI_e, rmI_e, oV_e, oN_e, lt_e, rZ_e, br_T, br_F, fR_sI, aI_sI, aL_sI, aR_sI, kd_sI, ln_sI, hn_sI, hm_sI, fI_sI_n, fI_sR, aI_sR, aL_sR, aR_sR, kd_sR, ln_sR, hn_sR, hm_sR, fR_sR_n, fI_tI, fR_tI, aL_tI, aR_tI, kd_tI, ln_tI, hn_tI, hm_tI, aI_tI_n, fI_tL, fR_tL, aI_tL, aR_tL, kd_tL, ln_tL, hn_tL, hm_tL, aL_tL_n, fI_tR, fR_tR, aI_tR, aL_tR, kd_tR, ln_tR, hn_tR, hm_tR, aR_tR_n, hn_nw, hm_nw, rc400, rc403, rc404, rc405, rc407, rc409, rc420, rc440, bI_0, bI_1, bI_T, bI_F, iF_T, iF_F, br_not, le_nlt, not_true_eq_false, not_false_eq_true, and_self, and_true, true_and, and_false, false_and, or_true, true_or, or_false, false_or, ne_eq, reduceCtorEq, Nat.reduceLeDiff, Nat.reduceEqDiff, Nat.reduceLT, Nat.reduceAdd, Nat.reduceSub, Nat.reduceMul, Int32.reduceLT, Int32.reduceLE, Int32.reduceToNatClampNeg, Int32.reduceAdd, Int32.reduceSub, implies_true, forall_const, isIn_e, bit_e, lits, kx, fx, k7, l7, ka', la', kb', lb', aL2, d1, d2, d3, d4, d5, d6, d7, d8, d9, d10, cmp0]
      have fin : ∀ v : Int32, v = nI (cD (aL h 399 a) (aL h 399 b) (i + 1) (j + 1)) → K2 (aI h2 111 (g 0 7) (j + 1), nI (j + 1 + 1)) (tI h2 111 (g 0 7) (j + 1) v) := by
        intro v hv
        refine hK2 _ _ cj ⟨hS3.tI rfl _ _ _, by rw [v1], ?_, ?_⟩
        · intro j' h1 h3
          rw [aI_tI_e, if_neg (by omega)]
          exact hA j' h1 (by omega)
        · intro j' h1
          rw [aI_tI_e]
          by_cases z : j' = j + 1
          · rw [if_pos ⟨rfl, z⟩, z, hv]
          · rw [if_neg (fun w => z w.2)]
            exact hB2 j' (by omega)
      by_cases eq : aL h 399 a i = aL h 399 b j
      · rw [br_y eq]
        refine fin _ ?_
        show _ = nI (cRow _ _ (j + 1))
        rw [cRow, iF_y eq, n1]
      · rw [br_n eq]
        refine fin _ ?_
        show _ = nI (cRow _ _ (j + 1))
        rw [cRow, iF_n eq, v1, v2]
        show _ = nI (max (cD (aL h 399 a) (aL h 399 b) i (j + 1)) (cD (aL h 399 a) (aL h 399 b) (i + 1) j))
        have b1 := cD_le (aL h 399 a) (aL h 399 b) i (j + 1)
        have b2 := cD_le (aL h 399 a) (aL h 399 b) (i + 1) j
        by_cases lt1 : cD (aL h 399 a) (aL h 399 b) i (j + 1) < cD (aL h 399 a) (aL h 399 b) (i + 1) j
        · rw [if_pos (nI_lt lt1 (by omega)), Nat.max_eq_right (by omega)]
        · rw [if_neg (nI_nlt (by omega) (by omega)), Nat.max_eq_left (by omega)]
    · obtain rfl : j = k := by omega
      have d1 : nI j < nI (j + 1) := nI_lt (by omega) (by omega)
      have d10 : nI i + 1 = nI (i + 1) := n1 _
      simp only [gI_e, gR_e, pI_e, pZ_e, pR_e, ldI_e, ldZ_e, ldL_e, ldR_e, stI_e, stZ_e, stL_e, stR_e, alN_e, nwA_e, nwO_e, dvI_e, rmI_e, oV_e, oN_e, lt_e, rZ_e, br_T, br_F, fR_sI, aI_sI, aL_sI, aR_sI, kd_sI, ln_sI, hn_sI, hm_sI, fI_sI_n, fI_sR, aI_sR, aL_sR, aR_sR, kd_sR, ln_sR, hn_sR, hm_sR, fR_sR_n, fI_tI, fR_tI, aL_tI, aR_tI, kd_tI, ln_tI, hn_tI, hm_tI, aI_tI_n, fI_tL, fR_tL, aI_tL, aR_tL, kd_tL, ln_tL, hn_tL, hm_tL, aL_tL_n, fI_tR, fR_tR, aI_tR, aL_tR, kd_tR, ln_tR, hn_tR, hm_tR, aR_tR_n, hn_nw, hm_nw, rc400, rc403, rc404, rc405, rc407, rc409, rc420, rc440, bI_0, bI_1, bI_T, bI_F, iF_T, iF_F, br_not, le_nlt, not_true_eq_false, not_false_eq_true, and_self, and_true, true_and, and_false, false_and, or_true, true_or, or_false, false_or, ne_eq, reduceCtorEq, Nat.reduceLeDiff, Nat.reduceEqDiff, Nat.reduceLT, Nat.reduceAdd, Nat.reduceSub, Nat.reduceMul, Int32.reduceLT, Int32.reduceLE, Int32.reduceToNatClampNeg, Int32.reduceAdd, Int32.reduceSub, implies_true, forall_const, isIn_e, bit_e, lits, d1, d10]
      exact hK _ _ c ⟨hS3, rfl, fun j' h1 => hB2 j' h1⟩
  · obtain rfl : i = n := by omega
    have c1 : nI i ≤ nI i := nI_le (Nat.le_refl _) (by omega)
    rw [br_y c1]
    have d2 : vp_in (nI k) 21 := vp_in_nI (by omega) (by decide)
    have d3 : (nI k).toNatClampNeg = k := nI_clamp (by omega)
    simp (config := {decide := true}) only [gI_e, gR_e, pI_e, pZ_e, pR_e, ldI_e, ldZ_e, ldL_e, ldR_e, stI_e, stZ_e, stL_e, stR_e, alN_e, nwA_e, nwO_e, dvI_e, rmI_e, oV_e, oN_e, lt_e, rZ_e, br_T, br_F, fR_sI, aI_sI, aL_sI, aR_sI, kd_sI, ln_sI, hn_sI, hm_sI, fI_sI_n, fI_sR, aI_sR, aL_sR, aR_sR, kd_sR, ln_sR, hn_sR, hm_sR, fR_sR_n, fI_tI, fR_tI, aL_tI, aR_tI, kd_tI, ln_tI, hn_tI, hm_tI, aI_tI_n, fI_tL, fR_tL, aI_tL, aR_tL, kd_tL, ln_tL, hn_tL, hm_tL, aL_tL_n, fI_tR, fR_tR, aI_tR, aL_tR, kd_tR, ln_tR, hn_tR, hm_tR, aR_tR_n, hn_nw, hm_nw, rc400, rc403, rc404, rc405, rc407, rc409, rc420, rc440, bI_0, bI_1, bI_T, bI_F, iF_T, iF_F, br_not, le_nlt, not_true_eq_false, not_false_eq_true, and_self, and_true, true_and, and_false, false_and, or_true, true_or, or_false, false_or, ne_eq, reduceCtorEq, Nat.reduceLeDiff, Nat.reduceEqDiff, Nat.reduceLT, Nat.reduceAdd, Nat.reduceSub, Nat.reduceMul, Int32.reduceLT, Int32.reduceLE, Int32.reduceToNatClampNeg, Int32.reduceAdd, Int32.reduceSub, implies_true, forall_const, isIn_e, bit_e, lits, kx, fx, k7, l7, d2, d3, hT k (Nat.le_refl _)]
    exact hQ h' ⟨e1, e2, e3, e4, e5, e6, e7, e8, e9⟩
theorem idx21 {i j : Nat} (hi : i ≤ 21) (hj : j ≤ 21) : (21 * nI i + nI j).toNatClampNeg = 21 * i + j ∧ 21 * nI i + nI j = nI (21 * i + j) := by
  have e : (21 : Int32) * nI i + nI j = nI (21 * i + j) := by
    rw [show (21 : Int32) = nI 21 from rfl, pk_mul, nI_add]
  rw [e]
  exact ⟨nI_clamp (by omega), rfl⟩
theorem likenessOf_e (hR : RJ y np na nm nr ne m h) {a b : Nat} (ha : a < na) (hb : b < nm) (Q : Int32 → Hp → Prop) (hQ : ∀ h', eqS h h' → Q (nI (lcK (aL h 312 (m 312)) (20 * a) (aI h 143 (m 143) a).toNatClampNeg (aL h 313 (m 313)) (60 * b) (aI h 147 (m 147) b).toNatClampNeg)) h') : w_X11_likenessOf (some y) (nI a) (nI b) h Q := by
  have hA := hR.1
  unfold JM at hA
  have hW := hR.2.2.2
  have hbd := hR.2.2.1
  obtain ⟨n, hn, en⟩ := rngN (N := 20) (hW.w_wdn a ha)
  obtain ⟨k, hk, ek⟩ := rngN (N := 20) (hW.w_mn b hb)
  have en2 : (aI h 143 (m 143) a).toNatClampNeg = n := by rw [en]; exact nI_clamp (by omega)
  have ek2 : (aI h 147 (m 147) b).toNatClampNeg = k := by rw [ek]; exact nI_clamp (by omega)
  rw [en2, ek2] at hQ
  have ca := cnF ha (show na ≤ 160 by omega) (by decide)
  have cb := cnF hb (show nm ≤ 8 by omega) (by decide)
  unfold w_X11_likenessOf n_X11_likenessOf_0
  simp only [gI_e, gR_e, pI_e, pZ_e, pR_e, ldI_e, ldZ_e, ldL_e, ldR_e, stI_e, stZ_e, stL_e, stR_e, alN_e, nwA_e, nwO_e, dvI_e, rmI_e, oV_e, oN_e, lt_e, rZ_e, br_T, br_F, fR_sI, aI_sI, aL_sI, aR_sI, kd_sI, ln_sI, hn_sI, hm_sI, fI_sI_n, fI_sR, aI_sR, aL_sR, aR_sR, kd_sR, ln_sR, hn_sR, hm_sR, fR_sR_n, fI_tI, fR_tI, aL_tI, aR_tI, kd_tI, ln_tI, hn_tI, hm_tI, aI_tI_n, fI_tL, fR_tL, aI_tL, aR_tL, kd_tL, ln_tL, hn_tL, hm_tL, aL_tL_n, fI_tR, fR_tR, aI_tR, aL_tR, kd_tR, ln_tR, hn_tR, hm_tR, aR_tR_n, hn_nw, hm_nw, rc400, rc403, rc404, rc405, rc407, rc409, rc420, rc440, bI_0, bI_1, bI_T, bI_F, iF_T, iF_F, br_not, le_nlt, not_true_eq_false, not_false_eq_true, and_self, and_true, true_and, and_false, false_and, or_true, true_or, or_false, false_or, ne_eq, reduceCtorEq, Nat.reduceLeDiff, Nat.reduceEqDiff, Nat.reduceLT, Nat.reduceAdd, Nat.reduceSub, Nat.reduceMul, Int32.reduceLT, Int32.reduceLE, Int32.reduceToNatClampNeg, Int32.reduceAdd, Int32.reduceSub, implies_true, forall_const, isIn_e, bit_e, lits, hA, ca, en]
  -- the words
  generalize hf : (fun j => aL h 312 (m 312) (20 * a + j)) = f
  generalize hg : (fun j => aL h 313 (m 313) (60 * b + j)) = gg
  have hQ2 : ∀ h', eqS h h' → Q (nI (lcS f gg n k n k)) h' := by
    intro h' e
    have := hQ h' e
    unfold lcK at this
    rw [hf, hg] at this
    exact this
  unfold l_X11_likenessOf_7
  refine Lo.intro (fun r s h' => eqS h h' ∧ r ≤ n + 1 ∧ s = nI r - 1 ∧ ∀ i j, r ≤ i → i ≤ n → j ≤ k → aI h' 162 (m 162) (21 * i + j) = nI (lcS f gg n k (n - i) (k - j))) ?_ (n + 1) _ _ ⟨eqS.rf h, Nat.le_refl _, (nI_pred n).symm, fun i j h1 h2 => by omega⟩
  rintro r s h' ⟨hS, hr, rfl, hT⟩ K hK
  have hS0 := hS
  obtain ⟨e1, e2, e3, e4, e5, e6, e7, e8, e9⟩ := hS
  have A1 : kd h' = kd h := e3
  have A2 : ln h' = ln h := e4
  have A3 : fR h' = fR h := e5
  unfold b_X11_likenessOf_7
  rcases Nat.eq_zero_or_pos r with z | z
  · subst z
    have c1 : nI 0 - 1 < 0 := by decide
    have v0 : vp_in 0 441 := vp_lit 0 (by decide) (by decide)
    have c2 : (0 : Int32).toNatClampNeg = 0 := rfl
    have t0 := hT 0 0 (Nat.zero_le _) (Nat.zero_le _) (Nat.zero_le _)
    simp (config := {decide := true}) only [gI_e, gR_e, pI_e, pZ_e, pR_e, ldI_e, ldZ_e, ldL_e, ldR_e, stI_e, stZ_e, stL_e, stR_e, alN_e, nwA_e, nwO_e, dvI_e, rmI_e, oV_e, oN_e, lt_e, rZ_e, br_T, br_F, fR_sI, aI_sI, aL_sI, aR_sI, kd_sI, ln_sI, hn_sI, hm_sI, fI_sI_n, fI_sR, aI_sR, aL_sR, aR_sR, kd_sR, ln_sR, hn_sR, hm_sR, fR_sR_n, fI_tI, fR_tI, aL_tI, aR_tI, kd_tI, ln_tI, hn_tI, hm_tI, aI_tI_n, fI_tL, fR_tL, aI_tL, aR_tL, kd_tL, ln_tL, hn_tL, hm_tL, aL_tL_n, fI_tR, fR_tR, aI_tR, aL_tR, kd_tR, ln_tR, hn_tR, hm_tR, aR_tR_n, hn_nw, hm_nw, rc400, rc403, rc404, rc405, rc407, rc409, rc420, rc440, bI_0, bI_1, bI_T, bI_F, iF_T, iF_F, br_not, le_nlt, not_true_eq_false, not_false_eq_true, and_self, and_true, true_and, and_false, false_and, or_true, true_or, or_false, false_or, ne_eq, reduceCtorEq, Nat.reduceLeDiff, Nat.reduceEqDiff, Nat.reduceLT, Nat.reduceAdd, Nat.reduceSub, Nat.reduceMul, Int32.reduceLT, Int32.reduceLE, Int32.reduceToNatClampNeg, Int32.reduceAdd, Int32.reduceSub, implies_true, forall_const, isIn_e, bit_e, lits, A1, A2, A3, hA, c1, v0, c2]
    rw [show (21 * 0 + 0 : Nat) = 0 from rfl] at t0
    rw [t0]
    exact hQ2 h' hS0
  · obtain ⟨i, rfl⟩ : ∃ i, r = i + 1 := ⟨r - 1, by omega⟩
    rw [nI_pred]
    have c1 : ¬ nI i < 0 := nI_pos (by omega)
    have e147 : aI h' 147 = aI h 147 := e7 147 rfl
    simp only [gI_e, gR_e, pI_e, pZ_e, pR_e, ldI_e, ldZ_e, ldL_e, ldR_e, stI_e, stZ_e, stL_e, stR_e, alN_e, nwA_e, nwO_e, dvI_e, rmI_e, oV_e, oN_e, lt_e, rZ_e, br_T, br_F, fR_sI, aI_sI, aL_sI, aR_sI, kd_sI, ln_sI, hn_sI, hm_sI, fI_sI_n, fI_sR, aI_sR, aL_sR, aR_sR, kd_sR, ln_sR, hn_sR, hm_sR, fR_sR_n, fI_tI, fR_tI, aL_tI, aR_tI, kd_tI, ln_tI, hn_tI, hm_tI, aI_tI_n, fI_tL, fR_tL, aI_tL, aR_tL, kd_tL, ln_tL, hn_tL, hm_tL, aL_tL_n, fI_tR, fR_tR, aI_tR, aL_tR, kd_tR, ln_tR, hn_tR, hm_tR, aR_tR_n, hn_nw, hm_nw, rc400, rc403, rc404, rc405, rc407, rc409, rc420, rc440, bI_0, bI_1, bI_T, bI_F, iF_T, iF_F, br_not, le_nlt, not_true_eq_false, not_false_eq_true, and_self, and_true, true_and, and_false, false_and, or_true, true_or, or_false, false_or, ne_eq, reduceCtorEq, Nat.reduceLeDiff, Nat.reduceEqDiff, Nat.reduceLT, Nat.reduceAdd, Nat.reduceSub, Nat.reduceMul, Int32.reduceLT, Int32.reduceLE, Int32.reduceToNatClampNeg, Int32.reduceAdd, Int32.reduceSub, implies_true, forall_const, isIn_e, bit_e, lits, A1, A2, A3, hA, c1, cb, e147, ek]
    unfold l_X11_likenessOf_19
    refine Lo.intro (fun t s h' => eqS h h' ∧ t ≤ k + 1 ∧ s = nI t - 1 ∧ ∀ i2 j, i2 ≤ n → j ≤ k → (i + 1 ≤ i2 ∨ (i2 = i ∧ t ≤ j)) → aI h' 162 (m 162) (21 * i2 + j) = nI (lcS f gg n k (n - i2) (k - j))) ?_ (k + 1) _ _ ⟨hS0, Nat.le_refl _, (nI_pred k).symm, fun i2 j h1 h2 h3 => hT i2 j (by omega) h1 h2⟩
    rintro t s h2 ⟨hS2, ht, rfl, hT2⟩ K2 hK2
    have hS3 := hS2
    obtain ⟨f1, f2, f3, f4, f5, f6, f7, f8, f9⟩ := hS2
    have B1 : kd h2 = kd h := f3
    have B2 : ln h2 = ln h := f4
    have B3 : fR h2 = fR h := f5
    unfold b_X11_likenessOf_19 n_X11_likenessOf_110 n_X11_likenessOf_182
    rcases Nat.eq_zero_or_pos t with z2 | z2
    · subst z2
      have d1 : nI 0 - 1 < 0 := by decide
      have d2 : nI i + (-1) = nI i - 1 := by rw [Int32.sub_eq_add_neg]
      simp only [gI_e, gR_e, pI_e, pZ_e, pR_e, ldI_e, ldZ_e, ldL_e, ldR_e, stI_e, stZ_e, stL_e, stR_e, alN_e, nwA_e, nwO_e, dvI_e, rmI_e, oV_e, oN_e, lt_e, rZ_e, br_T, br_F, fR_sI, aI_sI, aL_sI, aR_sI, kd_sI, ln_sI, hn_sI, hm_sI, fI_sI_n, fI_sR, aI_sR, aL_sR, aR_sR, kd_sR, ln_sR, hn_sR, hm_sR, fR_sR_n, fI_tI, fR_tI, aL_tI, aR_tI, kd_tI, ln_tI, hn_tI, hm_tI, aI_tI_n, fI_tL, fR_tL, aI_tL, aR_tL, kd_tL, ln_tL, hn_tL, hm_tL, aL_tL_n, fI_tR, fR_tR, aI_tR, aL_tR, kd_tR, ln_tR, hn_tR, hm_tR, aR_tR_n, hn_nw, hm_nw, rc400, rc403, rc404, rc405, rc407, rc409, rc420, rc440, bI_0, bI_1, bI_T, bI_F, iF_T, iF_F, br_not, le_nlt, not_true_eq_false, not_false_eq_true, and_self, and_true, true_and, and_false, false_and, or_true, true_or, or_false, false_or, ne_eq, reduceCtorEq, Nat.reduceLeDiff, Nat.reduceEqDiff, Nat.reduceLT, Nat.reduceAdd, Nat.reduceSub, Nat.reduceMul, Int32.reduceLT, Int32.reduceLE, Int32.reduceToNatClampNeg, Int32.reduceAdd, Int32.reduceSub, implies_true, forall_const, isIn_e, bit_e, lits, d1, d2]
      exact hK i _ _ (by omega) ⟨hS3, by omega, rfl, fun i2 j h1 h2 h3 => hT2 i2 j h2 h3 (by omega)⟩
    · obtain ⟨j, rfl⟩ : ∃ j, t = j + 1 := ⟨t - 1, by omega⟩
      rw [nI_pred]
      have d1 : ¬ nI j < 0 := nI_pos (by omega)
      have d2 : nI j + (-1) = nI j - 1 := by rw [Int32.sub_eq_add_neg]
      have d3 : nI i + 1 = nI (i + 1) := n1 i
      have i1 := idx21 (i := i) (j := j) (by omega) (by omega)
      have i2 := idx21 (i := i + 1) (j := j) (by omega) (by omega)
      have i3 : (21 * nI i + nI j + 1).toNatClampNeg = 21 * i + (j + 1) ∧ 21 * nI i + nI j + 1 = nI (21 * i + (j + 1)) := by
        rw [i1.2, n1]
        exact ⟨nI_clamp (by omega), rfl⟩
      have i4 : (21 * nI (i + 1) + nI j + 1).toNatClampNeg = 21 * (i + 1) + (j + 1) ∧ 21 * nI (i + 1) + nI j + 1 = nI (21 * (i + 1) + (j + 1)) := by
        rw [i2.2, n1]
        exact ⟨nI_clamp (by omega), rfl⟩
      have v1 : vp_in (21 * nI i + nI j) 441 := by rw [i1.2]; exact vp_in_nI (by omega) (by decide)
      have v2 : i < n → vp_in (21 * nI (i + 1) + nI j) 441 := fun q => by rw [i2.2]; exact vp_in_nI (by omega) (by decide)
      have v3 : j < k → vp_in (21 * nI i + nI j + 1) 441 := fun q => by rw [i3.2]; exact vp_in_nI (by omega) (by decide)
      have v4 : i < n → j < k → vp_in (21 * nI (i + 1) + nI j + 1) 441 := fun q q2 => by rw [i4.2]; exact vp_in_nI (by omega) (by decide)
      have g143 : aI h2 143 = aI h 143 := f7 143 rfl
      have g147 : aI h2 147 = aI h 147 := f7 147 rfl
      have g312 : aL h2 312 = aL h 312 := f8 312 (by decide)
      have g313 : aL h2 313 = aL h 313 := f8 313 (by decide)
      have fin : ∀ v : Int32, v = nI (lcS f gg n k (n - i) (k - j)) → K2 (nI j - 1) (tI h2 162 (m 162) (21 * i + j) v) := by
        intro v hv
        refine hK2 j _ _ rfl ⟨hS3.tI rfl _ _ _, by omega, rfl, ?_⟩
        intro i2 j2 h1 h3 h4
        rw [aI_tI_e]
        by_cases z : i2 = i ∧ j2 = j
        · rw [if_pos ⟨rfl, by rw [z.1, z.2]⟩, z.1, z.2, hv]
        · rw [if_neg (by omega)]
          exact hT2 i2 j2 h1 h3 (by omega)
      have li : (nI i < nI n) = (i < n) := propext (nI_ltI (by omega) (by omega))
      have lj : (nI j < nI k) = (j < k) := propext (nI_ltI (by omega) (by omega))
      by_cases ci : i < n
      rotate_left
      · have z0 : ∀ q, lcS f gg n k (n - i) q = 0 := by
          intro q
          rw [show n - i = 0 by omega]
          rfl
        simp (config := {decide := true}) only [gI_e, gR_e, pI_e, pZ_e, pR_e, ldI_e, ldZ_e, ldL_e, ldR_e, stI_e, stZ_e, stL_e, stR_e, alN_e, nwA_e, nwO_e, dvI_e, rmI_e, oV_e, oN_e, lt_e, rZ_e, br_T, br_F, fR_sI, aI_sI, aL_sI, aR_sI, kd_sI, ln_sI, hn_sI, hm_sI, fI_sI_n, fI_sR, aI_sR, aL_sR, aR_sR, kd_sR, ln_sR, hn_sR, hm_sR, fR_sR_n, fI_tI, fR_tI, aL_tI, aR_tI, kd_tI, ln_tI, hn_tI, hm_tI, aI_tI_n, fI_tL, fR_tL, aI_tL, aR_tL, kd_tL, ln_tL, hn_tL, hm_tL, aL_tL_n, fI_tR, fR_tR, aI_tR, aL_tR, kd_tR, ln_tR, hn_tR, hm_tR, aR_tR_n, hn_nw, hm_nw, rc400, rc403, rc404, rc405, rc407, rc409, rc420, rc440, bI_0, bI_1, bI_T, bI_F, iF_T, iF_F, br_not, le_nlt, not_true_eq_false, not_false_eq_true, and_self, and_true, true_and, and_false, false_and, or_true, true_or, or_false, false_or, ne_eq, reduceCtorEq, Nat.reduceLeDiff, Nat.reduceEqDiff, Nat.reduceLT, Nat.reduceAdd, Nat.reduceSub, Nat.reduceMul, Int32.reduceLT, Int32.reduceLE, Int32.reduceToNatClampNeg, Int32.reduceAdd, Int32.reduceSub, implies_true, forall_const, isIn_e, bit_e, lits, B1, B2, B3, hA, ca, g143, en, li, ci, d1, d2, i1.1, v1]
        exact fin 0 (by rw [z0]; rfl)
      by_cases cj : j < k
      rotate_left
      · have z0 : ∀ q, lcS f gg n k q (k - j) = 0 := by
          intro q
          rw [show k - j = 0 by omega]
          cases q <;> rfl
        simp (config := {decide := true}) only [gI_e, gR_e, pI_e, pZ_e, pR_e, ldI_e, ldZ_e, ldL_e, ldR_e, stI_e, stZ_e, stL_e, stR_e, alN_e, nwA_e, nwO_e, dvI_e, rmI_e, oV_e, oN_e, lt_e, rZ_e, br_T, br_F, fR_sI, aI_sI, aL_sI, aR_sI, kd_sI, ln_sI, hn_sI, hm_sI, fI_sI_n, fI_sR, aI_sR, aL_sR, aR_sR, kd_sR, ln_sR, hn_sR, hm_sR, fR_sR_n, fI_tI, fR_tI, aL_tI, aR_tI, kd_tI, ln_tI, hn_tI, hm_tI, aI_tI_n, fI_tL, fR_tL, aI_tL, aR_tL, kd_tL, ln_tL, hn_tL, hm_tL, aL_tL_n, fI_tR, fR_tR, aI_tR, aL_tR, kd_tR, ln_tR, hn_tR, hm_tR, aR_tR_n, hn_nw, hm_nw, rc400, rc403, rc404, rc405, rc407, rc409, rc420, rc440, bI_0, bI_1, bI_T, bI_F, iF_T, iF_F, br_not, le_nlt, not_true_eq_false, not_false_eq_true, and_self, and_true, true_and, and_false, false_and, or_true, true_or, or_false, false_or, ne_eq, reduceCtorEq, Nat.reduceLeDiff, Nat.reduceEqDiff, Nat.reduceLT, Nat.reduceAdd, Nat.reduceSub, Nat.reduceMul, Int32.reduceLT, Int32.reduceLE, Int32.reduceToNatClampNeg, Int32.reduceAdd, Int32.reduceSub, implies_true, forall_const, isIn_e, bit_e, lits, B1, B2, B3, hA, ca, cb, g143, g147, en, ek, li, lj, ci, cj, d1, d2, i1.1, v1]
        exact fin 0 (by rw [z0]; rfl)
      have w2 := v2 ci
      have w3 := v3 cj
      have w4 := v4 ci cj
      have T1 := hT2 (i + 1) j (by omega) (by omega) (Or.inl (Nat.le_refl _))
      have T2 := hT2 i (j + 1) (by omega) (by omega) (Or.inr ⟨rfl, Nat.le_refl _⟩)
      have T3 := hT2 (i + 1) (j + 1) (by omega) (by omega) (Or.inl (Nat.le_refl _))
      have o1 : (20 * nI a + nI i).toNatClampNeg = 20 * a + i ∧ vp_in (20 * nI a + nI i) 3200 := by
        have e : (20 : Int32) * nI a + nI i = nI (20 * a + i) := by
          rw [show (20 : Int32) = nI 20 from rfl, pk_mul, nI_add]
        rw [e]
        exact ⟨nI_clamp (by omega), vp_in_nI (by omega) (by decide)⟩
      have o2 := idx60 (k := b) (j := j) (by omega) (by omega)
      have fi : aL h 312 (m 312) (20 * a + i) = f i := by rw [← hf]
      have gi : aL h 313 (m 313) (60 * b + j) = gg j := by rw [← hg]
      have rec1 : lcS f gg n k (n - i) (k - j) = max (max (lcS f gg n k (n - (i + 1)) (k - j)) (lcS f gg n k (n - i) (k - (j + 1)))) (iF (f i = gg j) (lcS f gg n k (n - (i + 1)) (k - (j + 1)) + 1) 0) := by
        rw [show n - i = (n - (i + 1)) + 1 by omega, show k - j = (k - (j + 1)) + 1 by omega]
        have q1 : n - (n - (i + 1) + 1) = i := by omega
        have q2 : k - (k - (j + 1) + 1) = j := by omega
        have q3 : lcS f gg n k (n - (i + 1) + 1) = lcRow (fun b => f i = gg (k - (b + 1))) (lcS f gg n k (n - (i + 1))) := by
          show lcRow _ _ = _
          rw [q1]
        rw [q3, lcRow, q2]
      have B := fun p q => lcS_le f gg n k p q
      have b1 := B (n - (i + 1)) (k - j)
      have b2 := B (n - i) (k - (j + 1))
      have b3 := B (n - (i + 1)) (k - (j + 1))
      have le1 : (nI (lcS f gg n k (n - i) (k - (j + 1))) < nI (lcS f gg n k (n - (i + 1)) (k - j))) = (lcS f gg n k (n - i) (k - (j + 1)) < lcS f gg n k (n - (i + 1)) (k - j)) := propext (nI_ltI (by omega) (by omega))
      have body : ∀ V, V = max (lcS f gg n k (n - (i + 1)) (k - j)) (lcS f gg n k (n - i) (k - (j + 1))) → br (f i = gg j) (br (nI V < nI (lcS f gg n k (n - (i + 1)) (k - (j + 1))) + 1) (K2 (nI j - 1) (tI h2 162 (m 162) (21 * i + j) (nI (lcS f gg n k (n - (i + 1)) (k - (j + 1))) + 1))) (K2 (nI j - 1) (tI h2 162 (m 162) (21 * i + j) (nI V)))) (K2 (nI j - 1) (tI h2 162 (m 162) (21 * i + j) (nI V))) := by
        intro V hV
        refine br_i (fun e => ?_) (fun e => ?_)
        · rw [iF_y e] at rec1
          rw [n1]
          have bV : V ≤ 40 := by omega
          refine br_i (fun u => ?_) (fun u => ?_)
          · have u2 := (nI_ltI (by omega) (by omega)).mp u
            refine fin _ ?_
            rw [rec1, ← hV, Nat.max_eq_right (by omega)]
          · have u2 : ¬ V < lcS f gg n k (n - (i + 1)) (k - (j + 1)) + 1 := fun w => u (nI_lt w (by omega))
            refine fin _ ?_
            rw [rec1, ← hV, Nat.max_eq_left (by omega)]
        · rw [iF_n e, Nat.max_eq_left (Nat.zero_le _)] at rec1
          refine fin _ ?_
          rw [rec1, ← hV]
      by_cases c3 : lcS f gg n k (n - i) (k - (j + 1)) < lcS f gg n k (n - (i + 1)) (k - j)
      · have bb := body (lcS f gg n k (n - (i + 1)) (k - j)) (by rw [Nat.max_eq_left (by omega)])
        simp (config := {decide := true}) only [gI_e, gR_e, pI_e, pZ_e, pR_e, ldI_e, ldZ_e, ldL_e, ldR_e, stI_e, stZ_e, stL_e, stR_e, alN_e, nwA_e, nwO_e, dvI_e, rmI_e, oV_e, oN_e, lt_e, rZ_e, br_T, br_F, fR_sI, aI_sI, aL_sI, aR_sI, kd_sI, ln_sI, hn_sI, hm_sI, fI_sI_n, fI_sR, aI_sR, aL_sR, aR_sR, kd_sR, ln_sR, hn_sR, hm_sR, fR_sR_n, fI_tI, fR_tI, aL_tI, aR_tI, kd_tI, ln_tI, hn_tI, hm_tI, aI_tI_n, fI_tL, fR_tL, aI_tL, aR_tL, kd_tL, ln_tL, hn_tL, hm_tL, aL_tL_n, fI_tR, fR_tR, aI_tR, aL_tR, kd_tR, ln_tR, hn_tR, hm_tR, aR_tR_n, hn_nw, hm_nw, rc400, rc403, rc404, rc405, rc407, rc409, rc420, rc440, bI_0, bI_1, bI_T, bI_F, iF_T, iF_F, br_not, le_nlt, not_true_eq_false, not_false_eq_true, and_self, and_true, true_and, and_false, false_and, or_true, true_or, or_false, false_or, ne_eq, reduceCtorEq, Nat.reduceLeDiff, Nat.reduceEqDiff, Nat.reduceLT, Nat.reduceAdd, Nat.reduceSub, Nat.reduceMul, Int32.reduceLT, Int32.reduceLE, Int32.reduceToNatClampNeg, Int32.reduceAdd, Int32.reduceSub, implies_true, forall_const, isIn_e, bit_e, lits, B1, B2, B3, hA, ca, cb, g143, g147, g312, g313, en, ek, li, lj, ci, cj, d1, d2, d3, i1.1, i2.1, i3.1, i4.1, v1, w2, w3, w4, o1, o2, T1, T2, T3, le1, c3, cmp0, fi, gi]
        exact bb
      · have bb := body (lcS f gg n k (n - i) (k - (j + 1))) (by rw [Nat.max_eq_right (by omega)])
        simp (config := {decide := true}) only [gI_e, gR_e, pI_e, pZ_e, pR_e, ldI_e, ldZ_e, ldL_e, ldR_e, stI_e, stZ_e, stL_e, stR_e, alN_e, nwA_e, nwO_e, dvI_e, rmI_e, oV_e, oN_e, lt_e, rZ_e, br_T, br_F, fR_sI, aI_sI, aL_sI, aR_sI, kd_sI, ln_sI, hn_sI, hm_sI, fI_sI_n, fI_sR, aI_sR, aL_sR, aR_sR, kd_sR, ln_sR, hn_sR, hm_sR, fR_sR_n, fI_tI, fR_tI, aL_tI, aR_tI, kd_tI, ln_tI, hn_tI, hm_tI, aI_tI_n, fI_tL, fR_tL, aI_tL, aR_tL, kd_tL, ln_tL, hn_tL, hm_tL, aL_tL_n, fI_tR, fR_tR, aI_tR, aL_tR, kd_tR, ln_tR, hn_tR, hm_tR, aR_tR_n, hn_nw, hm_nw, rc400, rc403, rc404, rc405, rc407, rc409, rc420, rc440, bI_0, bI_1, bI_T, bI_F, iF_T, iF_F, br_not, le_nlt, not_true_eq_false, not_false_eq_true, and_self, and_true, true_and, and_false, false_and, or_true, true_or, or_false, false_or, ne_eq, reduceCtorEq, Nat.reduceLeDiff, Nat.reduceEqDiff, Nat.reduceLT, Nat.reduceAdd, Nat.reduceSub, Nat.reduceMul, Int32.reduceLT, Int32.reduceLE, Int32.reduceToNatClampNeg, Int32.reduceAdd, Int32.reduceSub, implies_true, forall_const, isIn_e, bit_e, lits, B1, B2, B3, hA, ca, cb, g143, g147, g312, g313, en, ek, li, lj, ci, cj, d1, d2, d3, i1.1, i2.1, i3.1, i4.1, v1, w2, w3, w4, o1, o2, T1, T2, T3, le1, c3, cmp0, fi, gi]
        exact bb
end LK
