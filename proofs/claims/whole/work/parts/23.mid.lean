/-- many cells at once -/
noncomputable def vR (h : Hp) (f : Nat) (S : Nat → Prop) (v : Option Nat) : Hp := (h.1, fun f2 a => iF (f2 = f ∧ S a) v (h.2.1 f2 a), h.2.2)
noncomputable def vI (h : Hp) (f : Nat) (S : Nat → Prop) (v : Int32) : Hp := (fun f2 a => iF (f2 = f ∧ S a) v (h.1 f2 a), h.2)
noncomputable def vA (h : Hp) (k a : Nat) (S : Nat → Prop) (v : Int32) : Hp := (h.1, h.2.1, fun k2 a2 j => iF (k2 = k ∧ a2 = a ∧ S j) v (h.2.2.1 k2 a2 j), h.2.2.2)
theorem vR_0 (h : Hp) (f : Nat) (S : Nat → Prop) (v : Option Nat) (hS : ∀ a, ¬ S a) : vR h f S v = h := by
  have e : (fun f2 a => iF (f2 = f ∧ S a) v (h.2.1 f2 a)) = h.2.1 := funext fun f2 => funext fun a => iF_n (fun q => hS a q.2) _ _
  unfold vR
  rw [e]
theorem vI_0 (h : Hp) (f : Nat) (S : Nat → Prop) (v : Int32) (hS : ∀ a, ¬ S a) : vI h f S v = h := by
  have e : (fun f2 a => iF (f2 = f ∧ S a) v (h.1 f2 a)) = h.1 := funext fun f2 => funext fun a => iF_n (fun q => hS a q.2) _ _
  unfold vI
  rw [e]
theorem vA_0 (h : Hp) (k a : Nat) (S : Nat → Prop) (v : Int32) (hS : ∀ a, ¬ S a) : vA h k a S v = h := by
  have e : (fun k2 a2 j => iF (k2 = k ∧ a2 = a ∧ S j) v (h.2.2.1 k2 a2 j)) = h.2.2.1 := funext fun k2 => funext fun a2 => funext fun j => iF_n (fun q => hS j q.2.2) _ _
  unfold vA
  rw [e]
theorem vR_s (h : Hp) (f : Nat) (S : Nat → Prop) (v : Option Nat) (b : Nat) (S' : Nat → Prop) (hS : ∀ a, S' a ↔ S a ∨ a = b) : sR (vR h f S v) f b v = vR h f S' v := by
  have e : u2 (fun f2 a => iF (f2 = f ∧ S a) v (h.2.1 f2 a)) f b v = (fun f2 a => iF (f2 = f ∧ S' a) v (h.2.1 f2 a)) := by
    funext f2 a
    unfold u2
    by_cases c : f2 = f ∧ a = b
    · rw [if_pos c, iF_y ⟨c.1, (hS a).mpr (Or.inr c.2)⟩]
    · rw [if_neg c]
      simp only []
      by_cases d : f2 = f ∧ S a
      · rw [iF_y d, iF_y ⟨d.1, (hS a).mpr (Or.inl d.2)⟩]
      · rw [iF_n d, iF_n (fun q => ((hS a).mp q.2).elim (fun w => d ⟨q.1, w⟩) (fun w => c ⟨q.1, w⟩))]
  unfold sR vR
  simp only [e]
theorem vI_s (h : Hp) (f : Nat) (S : Nat → Prop) (v : Int32) (b : Nat) (S' : Nat → Prop) (hS : ∀ a, S' a ↔ S a ∨ a = b) : sI (vI h f S v) f b v = vI h f S' v := by
  have e : u2 (fun f2 a => iF (f2 = f ∧ S a) v (h.1 f2 a)) f b v = (fun f2 a => iF (f2 = f ∧ S' a) v (h.1 f2 a)) := by
    funext f2 a
    unfold u2
    by_cases c : f2 = f ∧ a = b
    · rw [if_pos c, iF_y ⟨c.1, (hS a).mpr (Or.inr c.2)⟩]
    · rw [if_neg c]
      simp only []
      by_cases d : f2 = f ∧ S a
      · rw [iF_y d, iF_y ⟨d.1, (hS a).mpr (Or.inl d.2)⟩]
      · rw [iF_n d, iF_n (fun q => ((hS a).mp q.2).elim (fun w => d ⟨q.1, w⟩) (fun w => c ⟨q.1, w⟩))]
  unfold sI vI
  simp only [e]
theorem vA_s (h : Hp) (k a : Nat) (S : Nat → Prop) (v : Int32) (b : Nat) (S' : Nat → Prop) (hS : ∀ a, S' a ↔ S a ∨ a = b) : tI (vA h k a S v) k a b v = vA h k a S' v := by
  have e : u3 (fun k2 a2 j => iF (k2 = k ∧ a2 = a ∧ S j) v (h.2.2.1 k2 a2 j)) k a b v = (fun k2 a2 j => iF (k2 = k ∧ a2 = a ∧ S' j) v (h.2.2.1 k2 a2 j)) := by
    funext k2 a2 j
    unfold u3
    by_cases c : k2 = k ∧ a2 = a ∧ j = b
    · rw [if_pos c, iF_y ⟨c.1, c.2.1, (hS j).mpr (Or.inr c.2.2)⟩]
    · rw [if_neg c]
      simp only []
      by_cases d : k2 = k ∧ a2 = a ∧ S j
      · rw [iF_y d, iF_y ⟨d.1, d.2.1, (hS j).mpr (Or.inl d.2.2)⟩]
      · rw [iF_n d, iF_n (fun q => ((hS j).mp q.2.2).elim (fun w => d ⟨q.1, q.2.1, w⟩) (fun w => c ⟨q.1, q.2.1, w⟩))]
  unfold tI vA
  simp only [e]
theorem fR_vR_n (h : Hp) (f : Nat) (S : Nat → Prop) (v : Option Nat) (f2 : Nat) (hf : f2 ≠ f) : fR (vR h f S v) f2 = fR h f2 := funext fun _ => iF_n (fun q => hf q.1) _ _
theorem fR_vR_e (h : Hp) (f : Nat) (S : Nat → Prop) (v : Option Nat) (a : Nat) : fR (vR h f S v) f a = iF (S a) v (fR h f a) := by
  show iF (f = f ∧ S a) v (h.2.1 f a) = _
  by_cases c : S a
  · rw [iF_y ⟨rfl, c⟩, iF_y c]
  · rw [iF_n (fun q => c q.2), iF_n c]; rfl
theorem fI_vI_n (h : Hp) (f : Nat) (S : Nat → Prop) (v : Int32) (f2 : Nat) (hf : f2 ≠ f) : fI (vI h f S v) f2 = fI h f2 := funext fun _ => iF_n (fun q => hf q.1) _ _
theorem fI_vI_e (h : Hp) (f : Nat) (S : Nat → Prop) (v : Int32) (a : Nat) : fI (vI h f S v) f a = iF (S a) v (fI h f a) := by
  show iF (f = f ∧ S a) v (h.1 f a) = _
  by_cases c : S a
  · rw [iF_y ⟨rfl, c⟩, iF_y c]
  · rw [iF_n (fun q => c q.2), iF_n c]; rfl
theorem aI_vA_n (h : Hp) (k a : Nat) (S : Nat → Prop) (v : Int32) (k2 : Nat) (hk : k2 ≠ k) : aI (vA h k a S v) k2 = aI h k2 := funext fun _ => funext fun _ => iF_n (fun q => hk q.1) _ _
theorem aI_vA_e (h : Hp) (k a : Nat) (S : Nat → Prop) (v : Int32) (j : Nat) : aI (vA h k a S v) k a j = iF (S j) v (aI h k a j) := by
  show iF (k = k ∧ a = a ∧ S j) v (h.2.2.1 k a j) = _
  by_cases c : S j
  · rw [iF_y ⟨rfl, rfl, c⟩, iF_y c]
  · rw [iF_n (fun q => c q.2.2), iF_n c]; rfl
theorem fI_vR (h : Hp) (f : Nat) (S : Nat → Prop) (v : Option Nat) : fI (vR h f S v) = fI h := rfl
theorem aI_vR (h : Hp) (f : Nat) (S : Nat → Prop) (v : Option Nat) : aI (vR h f S v) = aI h := rfl
theorem aL_vR (h : Hp) (f : Nat) (S : Nat → Prop) (v : Option Nat) : aL (vR h f S v) = aL h := rfl
theorem aR_vR (h : Hp) (f : Nat) (S : Nat → Prop) (v : Option Nat) : aR (vR h f S v) = aR h := rfl
theorem kd_vR (h : Hp) (f : Nat) (S : Nat → Prop) (v : Option Nat) : kd (vR h f S v) = kd h := rfl
theorem ln_vR (h : Hp) (f : Nat) (S : Nat → Prop) (v : Option Nat) : ln (vR h f S v) = ln h := rfl
theorem hn_vR (h : Hp) (f : Nat) (S : Nat → Prop) (v : Option Nat) : hn (vR h f S v) = hn h := rfl
theorem hm_vR (h : Hp) (f : Nat) (S : Nat → Prop) (v : Option Nat) : hm (vR h f S v) = hm h := rfl
theorem fR_vI (h : Hp) (f : Nat) (S : Nat → Prop) (v : Int32) : fR (vI h f S v) = fR h := rfl
theorem aI_vI (h : Hp) (f : Nat) (S : Nat → Prop) (v : Int32) : aI (vI h f S v) = aI h := rfl
theorem aL_vI (h : Hp) (f : Nat) (S : Nat → Prop) (v : Int32) : aL (vI h f S v) = aL h := rfl
theorem aR_vI (h : Hp) (f : Nat) (S : Nat → Prop) (v : Int32) : aR (vI h f S v) = aR h := rfl
theorem kd_vI (h : Hp) (f : Nat) (S : Nat → Prop) (v : Int32) : kd (vI h f S v) = kd h := rfl
theorem ln_vI (h : Hp) (f : Nat) (S : Nat → Prop) (v : Int32) : ln (vI h f S v) = ln h := rfl
theorem hn_vI (h : Hp) (f : Nat) (S : Nat → Prop) (v : Int32) : hn (vI h f S v) = hn h := rfl
theorem hm_vI (h : Hp) (f : Nat) (S : Nat → Prop) (v : Int32) : hm (vI h f S v) = hm h := rfl
theorem fI_vA (h : Hp) (k a : Nat) (S : Nat → Prop) (v : Int32) : fI (vA h k a S v) = fI h := rfl
theorem fR_vA (h : Hp) (k a : Nat) (S : Nat → Prop) (v : Int32) : fR (vA h k a S v) = fR h := rfl
theorem aL_vA (h : Hp) (k a : Nat) (S : Nat → Prop) (v : Int32) : aL (vA h k a S v) = aL h := rfl
theorem aR_vA (h : Hp) (k a : Nat) (S : Nat → Prop) (v : Int32) : aR (vA h k a S v) = aR h := rfl
theorem kd_vA (h : Hp) (k a : Nat) (S : Nat → Prop) (v : Int32) : kd (vA h k a S v) = kd h := rfl
theorem ln_vA (h : Hp) (k a : Nat) (S : Nat → Prop) (v : Int32) : ln (vA h k a S v) = ln h := rfl
theorem hn_vA (h : Hp) (k a : Nat) (S : Nat → Prop) (v : Int32) : hn (vA h k a S v) = hn h := rfl
theorem hm_vA (h : Hp) (k a : Nat) (S : Nat → Prop) (v : Int32) : hm (vA h k a S v) = hm h := rfl
theorem eqM.vR {h h1 : Hp} (a : eqM h h1) {f : Nat} (hf : f < 1408) (S : Nat → Prop) (v : Option Nat) : eqM h (vR h1 f S v) :=
  a.tr ⟨Nat.le_refl _, fun _ _ _ _ => rfl, fun f2 c q _ => by rw [fR_vR_n _ _ _ _ _ (by omega)], fun _ _ _ _ _ => rfl, fun _ _ _ _ _ => rfl, fun _ _ => rfl, fun _ _ => rfl⟩
theorem eqM.vI {h h1 : Hp} (a : eqM h h1) {f : Nat} (hf : f < 1408) (S : Nat → Prop) (v : Int32) : eqM h (vI h1 f S v) :=
  a.tr ⟨Nat.le_refl _, fun f2 c q _ => by rw [fI_vI_n _ _ _ _ _ (by omega)], fun _ _ _ _ => rfl, fun _ _ _ _ _ => rfl, fun _ _ _ _ _ => rfl, fun _ _ => rfl, fun _ _ => rfl⟩
/-- how many -/
noncomputable def cN (P : Nat → Prop) (n : Nat) : Nat := suN (fun b => iF (P b) 1 0) n
theorem acI_cN (P : Nat → Prop) (n : Nat) : acI (fun b => bI (P b)) n = nI (cN P n) := by
  unfold cN
  rw [← acI_nI]
  apply acI_congr
  intro i _
  by_cases c : P i
  · rw [bI_y c, iF_y c]; rfl
  · rw [bI_n c, iF_n c]; rfl
theorem cN_le (P : Nat → Prop) (n : Nat) : cN P n ≤ n := by
  unfold cN
  induction n with
  | zero => exact Nat.le_refl _
  | succ n ih =>
    rw [suN]
    by_cases c : P n
    · rw [iF_y c]; omega
    · rw [iF_n c]; omega
theorem cN_y {P : Nat → Prop} {n : Nat} (h : P n) : cN P (n + 1) = cN P n + 1 := by
  unfold cN
  rw [suN, iF_y h]
theorem cN_n {P : Nat → Prop} {n : Nat} (h : ¬ P n) : cN P (n + 1) = cN P n := by
  unfold cN
  rw [suN, iF_n h]
  rfl
theorem acI_ext {f : Nat → Int32} {n : Nat} : ∀ k, (∀ i, n ≤ i → i < n + k → f i = 0) → acI f (n + k) = acI f n := by
  intro k
  induction k with
  | zero => intro _; rfl
  | succ k ih =>
    intro h
    show acI f (n + k) + f (n + k) = _
    rw [ih (fun i a b => h i a (by omega)), h (n + k) (by omega) (by omega), Int32.add_zero]
theorem acI_one {f : Nat → Int32} {n p : Nat} (hp : p < n) (h : ∀ i, i < n → ¬ i = p → f i = 0) : acI f n = f p := by
  induction n with
  | zero => omega
  | succ n ih =>
    rw [acI]
    by_cases c : p = n
    · subst c
      have z : ∀ m, m ≤ p → acI f m = 0 := by
        intro m
        induction m with
        | zero => intro _; rfl
        | succ m ihm =>
          intro hm
          rw [acI, ihm (by omega), h m (by omega) (by omega), Int32.add_zero]
      rw [z p (Nat.le_refl _), Int32.zero_add]
    · rw [ih (by omega) (fun i hi => h i (by omega)), h n (by omega) (fun q => c q.symm), Int32.add_zero]
section MID
variable {x y b0 s0 np na nm nr ne : Nat} {g : Nat → Nat → Nat} {m : Nat → Nat} {h : Hp}
/-- an ask stands -/
def stN (h : Hp) (m : Nat → Nat) (a : Nat) : Prop := aI h 141 (m 141) a = -1 ∧ aI h 202 (m 202) a = 0
theorem standsC_e (hJ : JA x y b0 s0 np na nm nr ne g m h) {k : Nat} (hk : k < na) (Q : Int32 → Hp → Prop) : w_X0_stands (some (g 3 k)) h Q = Q (bI (stN h m k)) h := by
  unfold w_X0_stands n_X0_stands_0 n_X0_stands_19 n_X0_stands_20 stN
  have q := asF hJ hk
  by_cases d : aI h 141 (m 141) k = -1 <;> by_cases e : aI h 202 (m 202) k = 0 <;> simp only [gI_e, gR_e, pI_e, pZ_e, pR_e, ldI_e, ldZ_e, ldL_e, ldR_e, stI_e, stZ_e, stL_e, stR_e, alN_e, nwA_e, nwO_e, dvI_e, rmI_e, oV_e, oN_e, lt_e, rZ_e, br_T, br_F, fR_sI, aI_sI, aL_sI, aR_sI, kd_sI, ln_sI, hn_sI, hm_sI, fI_sI_n, fI_sR, aI_sR, aL_sR, aR_sR, kd_sR, ln_sR, hn_sR, hm_sR, fR_sR_n, fI_tI, fR_tI, aL_tI, aR_tI, kd_tI, ln_tI, hn_tI, hm_tI, aI_tI_n, fI_tL, fR_tL, aI_tL, aR_tL, kd_tL, ln_tL, hn_tL, hm_tL, aL_tL_n, fI_tR, fR_tR, aI_tR, aL_tR, kd_tR, ln_tR, hn_tR, hm_tR, aR_tR_n, hn_nw, hm_nw, rc400, rc403, rc404, rc405, rc407, rc409, rc420, rc440, bI_0, bI_1, bI_T, bI_F, iF_T, iF_F, br_not, le_nlt, not_true_eq_false, not_false_eq_true, and_self, and_true, true_and, and_false, false_and, or_true, true_or, or_false, false_or, ne_eq, reduceCtorEq, Nat.reduceLeDiff, Nat.reduceEqDiff, Nat.reduceLT, Nat.reduceAdd, Nat.reduceSub, Nat.reduceMul, Int32.reduceLT, Int32.reduceLE, Int32.reduceToNatClampNeg, Int32.reduceAdd, Int32.reduceSub, implies_true, forall_const, isIn_e, bit_e, lits, q, d, e]
theorem standsR_e (hR : RJ y np na nm nr ne m h) {k : Nat} (hk : k < na) (Q : Int32 → Hp → Prop) : w_X11_stands (some y) (nI k) h Q = Q (bI (stN h m k)) h := by
  have hA := hR.1
  unfold JM at hA
  have hb := hR.2.2.1
  have c := cnF hk (show na ≤ 160 by omega) (by decide)
  unfold w_X11_stands n_X11_stands_0 n_X11_stands_23 n_X11_stands_24 stN
  by_cases d : aI h 141 (m 141) k = -1 <;> by_cases e : aI h 202 (m 202) k = 0 <;> simp only [gI_e, gR_e, pI_e, pZ_e, pR_e, ldI_e, ldZ_e, ldL_e, ldR_e, stI_e, stZ_e, stL_e, stR_e, alN_e, nwA_e, nwO_e, dvI_e, rmI_e, oV_e, oN_e, lt_e, rZ_e, br_T, br_F, fR_sI, aI_sI, aL_sI, aR_sI, kd_sI, ln_sI, hn_sI, hm_sI, fI_sI_n, fI_sR, aI_sR, aL_sR, aR_sR, kd_sR, ln_sR, hn_sR, hm_sR, fR_sR_n, fI_tI, fR_tI, aL_tI, aR_tI, kd_tI, ln_tI, hn_tI, hm_tI, aI_tI_n, fI_tL, fR_tL, aI_tL, aR_tL, kd_tL, ln_tL, hn_tL, hm_tL, aL_tL_n, fI_tR, fR_tR, aI_tR, aL_tR, kd_tR, ln_tR, hn_tR, hm_tR, aR_tR_n, hn_nw, hm_nw, rc400, rc403, rc404, rc405, rc407, rc409, rc420, rc440, bI_0, bI_1, bI_T, bI_F, iF_T, iF_F, br_not, le_nlt, not_true_eq_false, not_false_eq_true, and_self, and_true, true_and, and_false, false_and, or_true, true_or, or_false, false_or, ne_eq, reduceCtorEq, Nat.reduceLeDiff, Nat.reduceEqDiff, Nat.reduceLT, Nat.reduceAdd, Nat.reduceSub, Nat.reduceMul, Int32.reduceLT, Int32.reduceLE, Int32.reduceToNatClampNeg, Int32.reduceAdd, Int32.reduceSub, implies_true, forall_const, isIn_e, bit_e, lits, hA, c, d, e]
theorem isFor_e (hJ : JA x y b0 s0 np na nm nr ne g m h) {k : Nat} (hk : k < na) (w o : Int32) (Q : Int32 → Hp → Prop) : w_X0_isFor (some (g 3 k)) w o h Q = Q (bI (aI h 133 (m 133) k = w ∧ aI h 134 (m 134) k = o)) h := by
  unfold w_X0_isFor n_X0_isFor_0 n_X0_isFor_20 n_X0_isFor_21
  have q := asF hJ hk
  by_cases d : aI h 133 (m 133) k = w <;> by_cases e : aI h 134 (m 134) k = o <;> simp only [gI_e, gR_e, pI_e, pZ_e, pR_e, ldI_e, ldZ_e, ldL_e, ldR_e, stI_e, stZ_e, stL_e, stR_e, alN_e, nwA_e, nwO_e, dvI_e, rmI_e, oV_e, oN_e, lt_e, rZ_e, br_T, br_F, fR_sI, aI_sI, aL_sI, aR_sI, kd_sI, ln_sI, hn_sI, hm_sI, fI_sI_n, fI_sR, aI_sR, aL_sR, aR_sR, kd_sR, ln_sR, hn_sR, hm_sR, fR_sR_n, fI_tI, fR_tI, aL_tI, aR_tI, kd_tI, ln_tI, hn_tI, hm_tI, aI_tI_n, fI_tL, fR_tL, aI_tL, aR_tL, kd_tL, ln_tL, hn_tL, hm_tL, aL_tL_n, fI_tR, fR_tR, aI_tR, aL_tR, kd_tR, ln_tR, hn_tR, hm_tR, aR_tR_n, hn_nw, hm_nw, rc400, rc403, rc404, rc405, rc407, rc409, rc420, rc440, bI_0, bI_1, bI_T, bI_F, iF_T, iF_F, br_not, le_nlt, not_true_eq_false, not_false_eq_true, and_self, and_true, true_and, and_false, false_and, or_true, true_or, or_false, false_or, ne_eq, reduceCtorEq, Nat.reduceLeDiff, Nat.reduceEqDiff, Nat.reduceLT, Nat.reduceAdd, Nat.reduceSub, Nat.reduceMul, Int32.reduceLT, Int32.reduceLE, Int32.reduceToNatClampNeg, Int32.reduceAdd, Int32.reduceSub, implies_true, forall_const, isIn_e, bit_e, lits, q, d, e]
theorem code_e {a b w o : Int32} (h1 : vp_in a 16) (h2 : vp_in b 8) (h3 : vp_in w 16) (h4 : vp_in o 8) : (8 * a + b = 8 * w + o) = (a = w ∧ b = o) := by
  obtain ⟨a', ha, rfl⟩ := vp_ex h1
  obtain ⟨b', hb, rfl⟩ := vp_ex h2
  obtain ⟨w', hw, rfl⟩ := vp_ex h3
  obtain ⟨o', ho, rfl⟩ := vp_ex h4
  rw [show (8 : Int32) = nI 8 from rfl, pk_mul, pk_mul, nI_add, nI_add, nI_eq (by omega) (by omega), nI_eq (by omega) (by omega), nI_eq (by omega) (by omega)]
  apply propext
  omega
/-- a loop that looks whether there is one -/
theorem ex_lo (P : Nat → Prop) {F : (Int32 → Hp → Prop) → Int32 → Hp → Prop} {h : Hp} {n : Nat} (h1 : ∀ k, k < n → ∀ K : Int32 → Hp → Prop, (¬ P k → K (nI (k + 1)) h) → F K (nI k) h) (h2 : ∀ K : Int32 → Hp → Prop, ¬ (∃ a, a < n ∧ P a) → F K (nI n) h) : Lo F 0 h := by
  refine Lo.count n (fun k s h' => h' = h ∧ s = nI k ∧ ¬ ∃ a, a < k ∧ P a) ?_ 0 (Nat.zero_le _) _ _ ⟨rfl, rfl, fun ⟨a, q, _⟩ => by omega⟩
  rintro k s h' hk ⟨rfl, rfl, hn⟩ K hK
  by_cases e : k < n
  · refine h1 k e K (fun c => hK _ _ e ⟨rfl, rfl, fun ⟨a, q, w⟩ => ?_⟩)
    by_cases z : a = k
    · rw [z] at w; exact c w
    · exact hn ⟨a, by omega, w⟩
  · obtain rfl : k = n := by omega
    exact h2 K hn
def asn (h : Hp) (m : Nat → Nat) (na p : Nat) (w o : Int32) : Prop := ∃ a, a < na ∧ aI h 132 (m 132) a = nI p ∧ aI h 133 (m 133) a = w ∧ aI h 134 (m 134) a = o ∧ stN h m a
theorem asksNow_e (hR : RJ y np na nm nr ne m h) {p : Nat} {w o : Int32} (hw : vp_in w 16) (ho : vp_in o 8) (Q : Int32 → Hp → Prop) (hQ : Q (bI (asn h m na p w o)) h) : w_X11_asksNow (some y) (nI p) (8 * w + o) h Q := by
  have hA := hR.1
  unfold JM at hA
  have hC := hR.2.1
  have hb := hR.2.2.1
  have hW := hR.2.2.2
  unfold w_X11_asksNow n_X11_asksNow_0 l_X11_asksNow_2
  refine ex_lo (n := na) (fun a => aI h 132 (m 132) a = nI p ∧ aI h 133 (m 133) a = w ∧ aI h 134 (m 134) a = o ∧ stN h m a) ?_ ?_
  · intro k hk K hK
    unfold b_X11_asksNow_2 n_X11_asksNow_50
    have c := cnF hk (show na ≤ 160 by omega) (by decide)
    have ce := code_e (hW.w_wha k hk) (hW.w_who k hk) hw ho
    by_cases d : aI h 132 (m 132) k = nI p
    · by_cases e1 : aI h 133 (m 133) k = w
      · by_cases e2 : aI h 134 (m 134) k = o
        · by_cases e3 : stN h m k
          · rw [bI_y ⟨k, hk, d, e1, e2, e3⟩] at hQ
            simp only [gI_e, gR_e, pI_e, pZ_e, pR_e, ldI_e, ldZ_e, ldL_e, ldR_e, stI_e, stZ_e, stL_e, stR_e, alN_e, nwA_e, nwO_e, dvI_e, rmI_e, oV_e, oN_e, lt_e, rZ_e, br_T, br_F, fR_sI, aI_sI, aL_sI, aR_sI, kd_sI, ln_sI, hn_sI, hm_sI, fI_sI_n, fI_sR, aI_sR, aL_sR, aR_sR, kd_sR, ln_sR, hn_sR, hm_sR, fR_sR_n, fI_tI, fR_tI, aL_tI, aR_tI, kd_tI, ln_tI, hn_tI, hm_tI, aI_tI_n, fI_tL, fR_tL, aI_tL, aR_tL, kd_tL, ln_tL, hn_tL, hm_tL, aL_tL_n, fI_tR, fR_tR, aI_tR, aL_tR, kd_tR, ln_tR, hn_tR, hm_tR, aR_tR_n, hn_nw, hm_nw, rc400, rc403, rc404, rc405, rc407, rc409, rc420, rc440, bI_0, bI_1, bI_T, bI_F, iF_T, iF_F, br_not, le_nlt, not_true_eq_false, not_false_eq_true, and_self, and_true, true_and, and_false, false_and, or_true, true_or, or_false, false_or, ne_eq, reduceCtorEq, Nat.reduceLeDiff, Nat.reduceEqDiff, Nat.reduceLT, Nat.reduceAdd, Nat.reduceSub, Nat.reduceMul, Int32.reduceLT, Int32.reduceLE, Int32.reduceToNatClampNeg, Int32.reduceAdd, Int32.reduceSub, implies_true, forall_const, isIn_e, bit_e, lits, hA, hC, c, d, ce, e1, e2, e3, standsR_e hR hk]
            exact hQ
          · simp only [gI_e, gR_e, pI_e, pZ_e, pR_e, ldI_e, ldZ_e, ldL_e, ldR_e, stI_e, stZ_e, stL_e, stR_e, alN_e, nwA_e, nwO_e, dvI_e, rmI_e, oV_e, oN_e, lt_e, rZ_e, br_T, br_F, fR_sI, aI_sI, aL_sI, aR_sI, kd_sI, ln_sI, hn_sI, hm_sI, fI_sI_n, fI_sR, aI_sR, aL_sR, aR_sR, kd_sR, ln_sR, hn_sR, hm_sR, fR_sR_n, fI_tI, fR_tI, aL_tI, aR_tI, kd_tI, ln_tI, hn_tI, hm_tI, aI_tI_n, fI_tL, fR_tL, aI_tL, aR_tL, kd_tL, ln_tL, hn_tL, hm_tL, aL_tL_n, fI_tR, fR_tR, aI_tR, aL_tR, kd_tR, ln_tR, hn_tR, hm_tR, aR_tR_n, hn_nw, hm_nw, rc400, rc403, rc404, rc405, rc407, rc409, rc420, rc440, bI_0, bI_1, bI_T, bI_F, iF_T, iF_F, br_not, le_nlt, not_true_eq_false, not_false_eq_true, and_self, and_true, true_and, and_false, false_and, or_true, true_or, or_false, false_or, ne_eq, reduceCtorEq, Nat.reduceLeDiff, Nat.reduceEqDiff, Nat.reduceLT, Nat.reduceAdd, Nat.reduceSub, Nat.reduceMul, Int32.reduceLT, Int32.reduceLE, Int32.reduceToNatClampNeg, Int32.reduceAdd, Int32.reduceSub, implies_true, forall_const, isIn_e, bit_e, lits, hA, hC, c, d, ce, e1, e2, e3, standsR_e hR hk]
            exact hK (fun q => e3 q.2.2.2)
        · have ce3 : ¬ (8 * aI h 133 (m 133) k + aI h 134 (m 134) k = 8 * w + o) := by rw [ce]; exact fun q => e2 q.2
          simp only [gI_e, gR_e, pI_e, pZ_e, pR_e, ldI_e, ldZ_e, ldL_e, ldR_e, stI_e, stZ_e, stL_e, stR_e, alN_e, nwA_e, nwO_e, dvI_e, rmI_e, oV_e, oN_e, lt_e, rZ_e, br_T, br_F, fR_sI, aI_sI, aL_sI, aR_sI, kd_sI, ln_sI, hn_sI, hm_sI, fI_sI_n, fI_sR, aI_sR, aL_sR, aR_sR, kd_sR, ln_sR, hn_sR, hm_sR, fR_sR_n, fI_tI, fR_tI, aL_tI, aR_tI, kd_tI, ln_tI, hn_tI, hm_tI, aI_tI_n, fI_tL, fR_tL, aI_tL, aR_tL, kd_tL, ln_tL, hn_tL, hm_tL, aL_tL_n, fI_tR, fR_tR, aI_tR, aL_tR, kd_tR, ln_tR, hn_tR, hm_tR, aR_tR_n, hn_nw, hm_nw, rc400, rc403, rc404, rc405, rc407, rc409, rc420, rc440, bI_0, bI_1, bI_T, bI_F, iF_T, iF_F, br_not, le_nlt, not_true_eq_false, not_false_eq_true, and_self, and_true, true_and, and_false, false_and, or_true, true_or, or_false, false_or, ne_eq, reduceCtorEq, Nat.reduceLeDiff, Nat.reduceEqDiff, Nat.reduceLT, Nat.reduceAdd, Nat.reduceSub, Nat.reduceMul, Int32.reduceLT, Int32.reduceLE, Int32.reduceToNatClampNeg, Int32.reduceAdd, Int32.reduceSub, implies_true, forall_const, isIn_e, bit_e, lits, hA, hC, c, d, ce3]
          exact hK (fun q => e2 q.2.2.1)
      · have ce3 : ¬ (8 * aI h 133 (m 133) k + aI h 134 (m 134) k = 8 * w + o) := by rw [ce]; exact fun q => e1 q.1
        simp only [gI_e, gR_e, pI_e, pZ_e, pR_e, ldI_e, ldZ_e, ldL_e, ldR_e, stI_e, stZ_e, stL_e, stR_e, alN_e, nwA_e, nwO_e, dvI_e, rmI_e, oV_e, oN_e, lt_e, rZ_e, br_T, br_F, fR_sI, aI_sI, aL_sI, aR_sI, kd_sI, ln_sI, hn_sI, hm_sI, fI_sI_n, fI_sR, aI_sR, aL_sR, aR_sR, kd_sR, ln_sR, hn_sR, hm_sR, fR_sR_n, fI_tI, fR_tI, aL_tI, aR_tI, kd_tI, ln_tI, hn_tI, hm_tI, aI_tI_n, fI_tL, fR_tL, aI_tL, aR_tL, kd_tL, ln_tL, hn_tL, hm_tL, aL_tL_n, fI_tR, fR_tR, aI_tR, aL_tR, kd_tR, ln_tR, hn_tR, hm_tR, aR_tR_n, hn_nw, hm_nw, rc400, rc403, rc404, rc405, rc407, rc409, rc420, rc440, bI_0, bI_1, bI_T, bI_F, iF_T, iF_F, br_not, le_nlt, not_true_eq_false, not_false_eq_true, and_self, and_true, true_and, and_false, false_and, or_true, true_or, or_false, false_or, ne_eq, reduceCtorEq, Nat.reduceLeDiff, Nat.reduceEqDiff, Nat.reduceLT, Nat.reduceAdd, Nat.reduceSub, Nat.reduceMul, Int32.reduceLT, Int32.reduceLE, Int32.reduceToNatClampNeg, Int32.reduceAdd, Int32.reduceSub, implies_true, forall_const, isIn_e, bit_e, lits, hA, hC, c, d, ce3]
        exact hK (fun q => e1 q.2.1)
    · simp only [gI_e, gR_e, pI_e, pZ_e, pR_e, ldI_e, ldZ_e, ldL_e, ldR_e, stI_e, stZ_e, stL_e, stR_e, alN_e, nwA_e, nwO_e, dvI_e, rmI_e, oV_e, oN_e, lt_e, rZ_e, br_T, br_F, fR_sI, aI_sI, aL_sI, aR_sI, kd_sI, ln_sI, hn_sI, hm_sI, fI_sI_n, fI_sR, aI_sR, aL_sR, aR_sR, kd_sR, ln_sR, hn_sR, hm_sR, fR_sR_n, fI_tI, fR_tI, aL_tI, aR_tI, kd_tI, ln_tI, hn_tI, hm_tI, aI_tI_n, fI_tL, fR_tL, aI_tL, aR_tL, kd_tL, ln_tL, hn_tL, hm_tL, aL_tL_n, fI_tR, fR_tR, aI_tR, aL_tR, kd_tR, ln_tR, hn_tR, hm_tR, aR_tR_n, hn_nw, hm_nw, rc400, rc403, rc404, rc405, rc407, rc409, rc420, rc440, bI_0, bI_1, bI_T, bI_F, iF_T, iF_F, br_not, le_nlt, not_true_eq_false, not_false_eq_true, and_self, and_true, true_and, and_false, false_and, or_true, true_or, or_false, false_or, ne_eq, reduceCtorEq, Nat.reduceLeDiff, Nat.reduceEqDiff, Nat.reduceLT, Nat.reduceAdd, Nat.reduceSub, Nat.reduceMul, Int32.reduceLT, Int32.reduceLE, Int32.reduceToNatClampNeg, Int32.reduceAdd, Int32.reduceSub, implies_true, forall_const, isIn_e, bit_e, lits, hA, hC, c, d]
      exact hK (fun q => d q.1)
  · intro K hn
    unfold b_X11_asksNow_2
    have hn2 : ¬ asn h m na p w o := hn
    rw [bI_n hn2] at hQ
    simp only [gI_e, gR_e, pI_e, pZ_e, pR_e, ldI_e, ldZ_e, ldL_e, ldR_e, stI_e, stZ_e, stL_e, stR_e, alN_e, nwA_e, nwO_e, dvI_e, rmI_e, oV_e, oN_e, lt_e, rZ_e, br_T, br_F, fR_sI, aI_sI, aL_sI, aR_sI, kd_sI, ln_sI, hn_sI, hm_sI, fI_sI_n, fI_sR, aI_sR, aL_sR, aR_sR, kd_sR, ln_sR, hn_sR, hm_sR, fR_sR_n, fI_tI, fR_tI, aL_tI, aR_tI, kd_tI, ln_tI, hn_tI, hm_tI, aI_tI_n, fI_tL, fR_tL, aI_tL, aR_tL, kd_tL, ln_tL, hn_tL, hm_tL, aL_tL_n, fI_tR, fR_tR, aI_tR, aL_tR, kd_tR, ln_tR, hn_tR, hm_tR, aR_tR_n, hn_nw, hm_nw, rc400, rc403, rc404, rc405, rc407, rc409, rc420, rc440, bI_0, bI_1, bI_T, bI_F, iF_T, iF_F, br_not, le_nlt, not_true_eq_false, not_false_eq_true, and_self, and_true, true_and, and_false, false_and, or_true, true_or, or_false, false_or, ne_eq, reduceCtorEq, Nat.reduceLeDiff, Nat.reduceEqDiff, Nat.reduceLT, Nat.reduceAdd, Nat.reduceSub, Nat.reduceMul, Int32.reduceLT, Int32.reduceLE, Int32.reduceToNatClampNeg, Int32.reduceAdd, Int32.reduceSub, implies_true, forall_const, isIn_e, bit_e, lits, hA, hC, lt_irr]
    exact hQ
theorem askersOf_e (hJ : JA x y b0 s0 np na nm nr ne g m h) (w o : Int32) (Q : Int32 → Hp → Prop) (hQ : ∀ v, (∀ p, p < 32 → (tb v p ↔ (p < np ∧ aI h 120 (m 120) p = 0) ∧ asn h m na p w o)) → Q v h) : w_X10_askersOf (some x) w o h Q := by
  have hB := hJ.2.1
  unfold JS at hB
  have hC := hJ.2.2.1.1
  have hbd := hJ.2.2.1.2
  have hW := hJ.2.2.2.2.2.1
  unfold w_X10_askersOf n_X10_askersOf_0 l_X10_askersOf_5
  refine Lo.count na (fun k s h' => h' = h ∧ ∃ v, s = (v, nI k) ∧ ∀ p, p < 32 → (tb v p ↔ (p < np ∧ aI h 120 (m 120) p = 0) ∧ asn h m k p w o)) ?_ 0 (Nat.zero_le _) _ _ ⟨rfl, 0, rfl, fun p _ => by
    rw [tb_0]
    exact ⟨False.elim, fun ⟨_, a, q, _⟩ => by omega⟩⟩
  rintro k s h' hk ⟨rfl, v, rfl, hv⟩ K hK
  by_cases e : k < na
  · have c := cnF e (show na ≤ 160 by omega) (by decide)
    have q := asF hJ e
    obtain ⟨j, hj, ej⟩ := vp_ex (hW.w_at k e)
    have ej2 : (nI j).toNatClampNeg = j := nI_clamp (by omega)
    have q2 := plF hJ hj
    have skip : ¬ (aI h' 120 (m 120) j = 0 ∧ aI h' 133 (m 133) k = w ∧ aI h' 134 (m 134) k = o ∧ stN h' m k) → K (v, nI (k + 1)) h' := by
      intro hn
      refine hK _ _ e ⟨rfl, v, rfl, fun p hp => (hv p hp).trans ⟨fun z => ⟨z.1, ?_⟩, fun z => ⟨z.1, ?_⟩⟩⟩
      · obtain ⟨z1, a, ha, z2⟩ := z
        exact ⟨a, by omega, z2⟩
      · obtain ⟨z1, a, ha, z2, z3⟩ := z
        by_cases ea : a = k
        · subst ea
          rw [ej] at z2
          have := (nI_eq (by omega) (by omega)).mp z2
          subst this
          exact absurd ⟨z1.2, z3⟩ hn
        · exact ⟨a, by omega, z2, z3⟩
    unfold b_X10_askersOf_5 n_X10_askersOf_65
    by_cases d1 : aI h' 120 (m 120) j = 0
    · by_cases d2 : stN h' m k
      · by_cases d3 : aI h' 133 (m 133) k = w ∧ aI h' 134 (m 134) k = o
        · simp only [gI_e, gR_e, pI_e, pZ_e, pR_e, ldI_e, ldZ_e, ldL_e, ldR_e, stI_e, stZ_e, stL_e, stR_e, alN_e, nwA_e, nwO_e, dvI_e, rmI_e, oV_e, oN_e, lt_e, rZ_e, br_T, br_F, fR_sI, aI_sI, aL_sI, aR_sI, kd_sI, ln_sI, hn_sI, hm_sI, fI_sI_n, fI_sR, aI_sR, aL_sR, aR_sR, kd_sR, ln_sR, hn_sR, hm_sR, fR_sR_n, fI_tI, fR_tI, aL_tI, aR_tI, kd_tI, ln_tI, hn_tI, hm_tI, aI_tI_n, fI_tL, fR_tL, aI_tL, aR_tL, kd_tL, ln_tL, hn_tL, hm_tL, aL_tL_n, fI_tR, fR_tR, aI_tR, aL_tR, kd_tR, ln_tR, hn_tR, hm_tR, aR_tR_n, hn_nw, hm_nw, rc400, rc403, rc404, rc405, rc407, rc409, rc420, rc440, bI_0, bI_1, bI_T, bI_F, iF_T, iF_F, br_not, le_nlt, not_true_eq_false, not_false_eq_true, and_self, and_true, true_and, and_false, false_and, or_true, true_or, or_false, false_or, ne_eq, reduceCtorEq, Nat.reduceLeDiff, Nat.reduceEqDiff, Nat.reduceLT, Nat.reduceAdd, Nat.reduceSub, Nat.reduceMul, Int32.reduceLT, Int32.reduceLE, Int32.reduceToNatClampNeg, Int32.reduceAdd, Int32.reduceSub, implies_true, forall_const, isIn_e, bit_e, lits, hB, hC, c, q, ej, ej2, q2, d1, standsC_e hJ e, isFor_e hJ e, d2, d3]
          refine hK _ _ e ⟨rfl, _, rfl, fun p hp => ?_⟩
          rw [tb_or, tb_1 (show j < 32 by omega)]
          constructor
          · rintro (z | z)
            · obtain ⟨z1, a, ha, z2⟩ := (hv p hp).mp z
              exact ⟨z1, a, by omega, z2⟩
            · subst z
              exact ⟨⟨hj, d1⟩, k, by omega, ej, d3.1, d3.2, d2⟩
          · rintro ⟨z1, a, ha, z2, z3⟩
            by_cases ea : a = k
            · subst ea
              rw [ej] at z2
              exact Or.inr ((nI_eq (by omega) (by omega)).mp z2).symm
            · exact Or.inl ((hv p hp).mpr ⟨z1, a, by omega, z2, z3⟩)
        · simp only [gI_e, gR_e, pI_e, pZ_e, pR_e, ldI_e, ldZ_e, ldL_e, ldR_e, stI_e, stZ_e, stL_e, stR_e, alN_e, nwA_e, nwO_e, dvI_e, rmI_e, oV_e, oN_e, lt_e, rZ_e, br_T, br_F, fR_sI, aI_sI, aL_sI, aR_sI, kd_sI, ln_sI, hn_sI, hm_sI, fI_sI_n, fI_sR, aI_sR, aL_sR, aR_sR, kd_sR, ln_sR, hn_sR, hm_sR, fR_sR_n, fI_tI, fR_tI, aL_tI, aR_tI, kd_tI, ln_tI, hn_tI, hm_tI, aI_tI_n, fI_tL, fR_tL, aI_tL, aR_tL, kd_tL, ln_tL, hn_tL, hm_tL, aL_tL_n, fI_tR, fR_tR, aI_tR, aL_tR, kd_tR, ln_tR, hn_tR, hm_tR, aR_tR_n, hn_nw, hm_nw, rc400, rc403, rc404, rc405, rc407, rc409, rc420, rc440, bI_0, bI_1, bI_T, bI_F, iF_T, iF_F, br_not, le_nlt, not_true_eq_false, not_false_eq_true, and_self, and_true, true_and, and_false, false_and, or_true, true_or, or_false, false_or, ne_eq, reduceCtorEq, Nat.reduceLeDiff, Nat.reduceEqDiff, Nat.reduceLT, Nat.reduceAdd, Nat.reduceSub, Nat.reduceMul, Int32.reduceLT, Int32.reduceLE, Int32.reduceToNatClampNeg, Int32.reduceAdd, Int32.reduceSub, implies_true, forall_const, isIn_e, bit_e, lits, hB, hC, c, q, ej, ej2, q2, d1, standsC_e hJ e, isFor_e hJ e, d2, d3]
          exact skip (fun z => d3 ⟨z.2.1, z.2.2.1⟩)
      · simp only [gI_e, gR_e, pI_e, pZ_e, pR_e, ldI_e, ldZ_e, ldL_e, ldR_e, stI_e, stZ_e, stL_e, stR_e, alN_e, nwA_e, nwO_e, dvI_e, rmI_e, oV_e, oN_e, lt_e, rZ_e, br_T, br_F, fR_sI, aI_sI, aL_sI, aR_sI, kd_sI, ln_sI, hn_sI, hm_sI, fI_sI_n, fI_sR, aI_sR, aL_sR, aR_sR, kd_sR, ln_sR, hn_sR, hm_sR, fR_sR_n, fI_tI, fR_tI, aL_tI, aR_tI, kd_tI, ln_tI, hn_tI, hm_tI, aI_tI_n, fI_tL, fR_tL, aI_tL, aR_tL, kd_tL, ln_tL, hn_tL, hm_tL, aL_tL_n, fI_tR, fR_tR, aI_tR, aL_tR, kd_tR, ln_tR, hn_tR, hm_tR, aR_tR_n, hn_nw, hm_nw, rc400, rc403, rc404, rc405, rc407, rc409, rc420, rc440, bI_0, bI_1, bI_T, bI_F, iF_T, iF_F, br_not, le_nlt, not_true_eq_false, not_false_eq_true, and_self, and_true, true_and, and_false, false_and, or_true, true_or, or_false, false_or, ne_eq, reduceCtorEq, Nat.reduceLeDiff, Nat.reduceEqDiff, Nat.reduceLT, Nat.reduceAdd, Nat.reduceSub, Nat.reduceMul, Int32.reduceLT, Int32.reduceLE, Int32.reduceToNatClampNeg, Int32.reduceAdd, Int32.reduceSub, implies_true, forall_const, isIn_e, bit_e, lits, hB, hC, c, q, ej, ej2, q2, d1, standsC_e hJ e, d2]
        exact skip (fun z => d2 z.2.2.2)
    · simp only [gI_e, gR_e, pI_e, pZ_e, pR_e, ldI_e, ldZ_e, ldL_e, ldR_e, stI_e, stZ_e, stL_e, stR_e, alN_e, nwA_e, nwO_e, dvI_e, rmI_e, oV_e, oN_e, lt_e, rZ_e, br_T, br_F, fR_sI, aI_sI, aL_sI, aR_sI, kd_sI, ln_sI, hn_sI, hm_sI, fI_sI_n, fI_sR, aI_sR, aL_sR, aR_sR, kd_sR, ln_sR, hn_sR, hm_sR, fR_sR_n, fI_tI, fR_tI, aL_tI, aR_tI, kd_tI, ln_tI, hn_tI, hm_tI, aI_tI_n, fI_tL, fR_tL, aI_tL, aR_tL, kd_tL, ln_tL, hn_tL, hm_tL, aL_tL_n, fI_tR, fR_tR, aI_tR, aL_tR, kd_tR, ln_tR, hn_tR, hm_tR, aR_tR_n, hn_nw, hm_nw, rc400, rc403, rc404, rc405, rc407, rc409, rc420, rc440, bI_0, bI_1, bI_T, bI_F, iF_T, iF_F, br_not, le_nlt, not_true_eq_false, not_false_eq_true, and_self, and_true, true_and, and_false, false_and, or_true, true_or, or_false, false_or, ne_eq, reduceCtorEq, Nat.reduceLeDiff, Nat.reduceEqDiff, Nat.reduceLT, Nat.reduceAdd, Nat.reduceSub, Nat.reduceMul, Int32.reduceLT, Int32.reduceLE, Int32.reduceToNatClampNeg, Int32.reduceAdd, Int32.reduceSub, implies_true, forall_const, isIn_e, bit_e, lits, hB, hC, c, q, ej, ej2, q2, d1]
      exact skip (fun z => d1 z.1)
  · obtain rfl : k = na := by omega
    unfold b_X10_askersOf_5
    simp only [gI_e, gR_e, pI_e, pZ_e, pR_e, ldI_e, ldZ_e, ldL_e, ldR_e, stI_e, stZ_e, stL_e, stR_e, alN_e, nwA_e, nwO_e, dvI_e, rmI_e, oV_e, oN_e, lt_e, rZ_e, br_T, br_F, fR_sI, aI_sI, aL_sI, aR_sI, kd_sI, ln_sI, hn_sI, hm_sI, fI_sI_n, fI_sR, aI_sR, aL_sR, aR_sR, kd_sR, ln_sR, hn_sR, hm_sR, fR_sR_n, fI_tI, fR_tI, aL_tI, aR_tI, kd_tI, ln_tI, hn_tI, hm_tI, aI_tI_n, fI_tL, fR_tL, aI_tL, aR_tL, kd_tL, ln_tL, hn_tL, hm_tL, aL_tL_n, fI_tR, fR_tR, aI_tR, aL_tR, kd_tR, ln_tR, hn_tR, hm_tR, aR_tR_n, hn_nw, hm_nw, rc400, rc403, rc404, rc405, rc407, rc409, rc420, rc440, bI_0, bI_1, bI_T, bI_F, iF_T, iF_F, br_not, le_nlt, not_true_eq_false, not_false_eq_true, and_self, and_true, true_and, and_false, false_and, or_true, true_or, or_false, false_or, ne_eq, reduceCtorEq, Nat.reduceLeDiff, Nat.reduceEqDiff, Nat.reduceLT, Nat.reduceAdd, Nat.reduceSub, Nat.reduceMul, Int32.reduceLT, Int32.reduceLE, Int32.reduceToNatClampNeg, Int32.reduceAdd, Int32.reduceSub, implies_true, forall_const, isIn_e, bit_e, lits, hB, hC, lt_irr]
    exact hQ v hv
theorem K_count (hJ : JA x y b0 s0 np na nm nr ne g m h) (w o k t : Int32) (Q : Hp → Prop) (hQ : ∀ h2, JJ x y b0 s0 m h2 → Q h2) : w_X10_count (some x) w o k t h (fun r h1 => w_X11_count (some y) w o k t h1 (fun r2 h2 => r = r2 ∧ Q h2)) := by
  have hA := hJ.1; unfold JM at hA; have hB := hJ.2.1; unfold JS at hB; have hC := hJ.2.2.1.1; have hR := hJ.rj; have hf := rf_l hJ; have hn := no_l hR; have hn1 := fun k v => no_l (hJ.rj1 k v); have hp := isPlace_e hR; have ha := isAsk_e hR; have hp1 := fun k v => isPlace_e (hJ.rj1 k v); have ha1 := fun k v => isAsk_e (hJ.rj1 k v)
  have hbd := hJ.2.2.1.2
  have hW := hJ.2.2.2.2.2.1
  unfold w_X10_count n_X10_count_0 n_X10_count_17 w_X11_count n_X11_count_0 n_X11_count_17
  by_cases c1 : vp_in w 16
  rotate_left
  · by_cases k1 : k < 0 <;> by_cases k2 : 3 < k <;>
    · simp only [gI_e, gR_e, pI_e, pZ_e, pR_e, ldI_e, ldZ_e, ldL_e, ldR_e, stI_e, stZ_e, stL_e, stR_e, alN_e, nwA_e, nwO_e, dvI_e, rmI_e, oV_e, oN_e, lt_e, rZ_e, br_T, br_F, fR_sI, aI_sI, aL_sI, aR_sI, kd_sI, ln_sI, hn_sI, hm_sI, fI_sI_n, fI_sR, aI_sR, aL_sR, aR_sR, kd_sR, ln_sR, hn_sR, hm_sR, fR_sR_n, fI_tI, fR_tI, aL_tI, aR_tI, kd_tI, ln_tI, hn_tI, hm_tI, aI_tI_n, fI_tL, fR_tL, aI_tL, aR_tL, kd_tL, ln_tL, hn_tL, hm_tL, aL_tL_n, fI_tR, fR_tR, aI_tR, aL_tR, kd_tR, ln_tR, hn_tR, hm_tR, aR_tR_n, hn_nw, hm_nw, rc400, rc403, rc404, rc405, rc407, rc409, rc420, rc440, bI_0, bI_1, bI_T, bI_F, iF_T, iF_F, br_not, le_nlt, not_true_eq_false, not_false_eq_true, and_self, and_true, true_and, and_false, false_and, or_true, true_or, or_false, false_or, ne_eq, reduceCtorEq, Nat.reduceLeDiff, Nat.reduceEqDiff, Nat.reduceLT, Nat.reduceAdd, Nat.reduceSub, Nat.reduceMul, Int32.reduceLT, Int32.reduceLE, Int32.reduceToNatClampNeg, Int32.reduceAdd, Int32.reduceSub, implies_true, forall_const, isIn_e, bit_e, lits, hA, hB, hC, hf, hn, hn1, hp, ha, hp1, ha1, placeAt_e hJ, askAt_e hJ, modelAt_e hJ, shelfAt_e hJ, isShelf_e, isGroup_e, isAsked_e, rZ_bI, dec_none, dec_s, dec_1, lt_e, c1, k1, k2]
      first | exact hQ _ hJ.jj | exact ⟨rfl, hQ _ hJ.jj⟩
  by_cases c2 : vp_in o 8
  rotate_left
  · by_cases k1 : k < 0 <;> by_cases k2 : 3 < k <;>
    · simp only [gI_e, gR_e, pI_e, pZ_e, pR_e, ldI_e, ldZ_e, ldL_e, ldR_e, stI_e, stZ_e, stL_e, stR_e, alN_e, nwA_e, nwO_e, dvI_e, rmI_e, oV_e, oN_e, lt_e, rZ_e, br_T, br_F, fR_sI, aI_sI, aL_sI, aR_sI, kd_sI, ln_sI, hn_sI, hm_sI, fI_sI_n, fI_sR, aI_sR, aL_sR, aR_sR, kd_sR, ln_sR, hn_sR, hm_sR, fR_sR_n, fI_tI, fR_tI, aL_tI, aR_tI, kd_tI, ln_tI, hn_tI, hm_tI, aI_tI_n, fI_tL, fR_tL, aI_tL, aR_tL, kd_tL, ln_tL, hn_tL, hm_tL, aL_tL_n, fI_tR, fR_tR, aI_tR, aL_tR, kd_tR, ln_tR, hn_tR, hm_tR, aR_tR_n, hn_nw, hm_nw, rc400, rc403, rc404, rc405, rc407, rc409, rc420, rc440, bI_0, bI_1, bI_T, bI_F, iF_T, iF_F, br_not, le_nlt, not_true_eq_false, not_false_eq_true, and_self, and_true, true_and, and_false, false_and, or_true, true_or, or_false, false_or, ne_eq, reduceCtorEq, Nat.reduceLeDiff, Nat.reduceEqDiff, Nat.reduceLT, Nat.reduceAdd, Nat.reduceSub, Nat.reduceMul, Int32.reduceLT, Int32.reduceLE, Int32.reduceToNatClampNeg, Int32.reduceAdd, Int32.reduceSub, implies_true, forall_const, isIn_e, bit_e, lits, hA, hB, hC, hf, hn, hn1, hp, ha, hp1, ha1, placeAt_e hJ, askAt_e hJ, modelAt_e hJ, shelfAt_e hJ, isShelf_e, isGroup_e, isAsked_e, rZ_bI, dec_none, dec_s, dec_1, lt_e, c1, c2, k1, k2]
      first | exact hQ _ hJ.jj | exact ⟨rfl, hQ _ hJ.jj⟩
  by_cases k1 : k < 0
  · simp only [gI_e, gR_e, pI_e, pZ_e, pR_e, ldI_e, ldZ_e, ldL_e, ldR_e, stI_e, stZ_e, stL_e, stR_e, alN_e, nwA_e, nwO_e, dvI_e, rmI_e, oV_e, oN_e, lt_e, rZ_e, br_T, br_F, fR_sI, aI_sI, aL_sI, aR_sI, kd_sI, ln_sI, hn_sI, hm_sI, fI_sI_n, fI_sR, aI_sR, aL_sR, aR_sR, kd_sR, ln_sR, hn_sR, hm_sR, fR_sR_n, fI_tI, fR_tI, aL_tI, aR_tI, kd_tI, ln_tI, hn_tI, hm_tI, aI_tI_n, fI_tL, fR_tL, aI_tL, aR_tL, kd_tL, ln_tL, hn_tL, hm_tL, aL_tL_n, fI_tR, fR_tR, aI_tR, aL_tR, kd_tR, ln_tR, hn_tR, hm_tR, aR_tR_n, hn_nw, hm_nw, rc400, rc403, rc404, rc405, rc407, rc409, rc420, rc440, bI_0, bI_1, bI_T, bI_F, iF_T, iF_F, br_not, le_nlt, not_true_eq_false, not_false_eq_true, and_self, and_true, true_and, and_false, false_and, or_true, true_or, or_false, false_or, ne_eq, reduceCtorEq, Nat.reduceLeDiff, Nat.reduceEqDiff, Nat.reduceLT, Nat.reduceAdd, Nat.reduceSub, Nat.reduceMul, Int32.reduceLT, Int32.reduceLE, Int32.reduceToNatClampNeg, Int32.reduceAdd, Int32.reduceSub, implies_true, forall_const, isIn_e, bit_e, lits, hA, hB, hC, hf, hn, hn1, hp, ha, hp1, ha1, placeAt_e hJ, askAt_e hJ, modelAt_e hJ, shelfAt_e hJ, isShelf_e, isGroup_e, isAsked_e, rZ_bI, dec_none, dec_s, dec_1, lt_e, c1, c2, k1]
    first | exact hQ _ hJ.jj | exact ⟨rfl, hQ _ hJ.jj⟩
  by_cases k2 : 3 < k
  · simp only [gI_e, gR_e, pI_e, pZ_e, pR_e, ldI_e, ldZ_e, ldL_e, ldR_e, stI_e, stZ_e, stL_e, stR_e, alN_e, nwA_e, nwO_e, dvI_e, rmI_e, oV_e, oN_e, lt_e, rZ_e, br_T, br_F, fR_sI, aI_sI, aL_sI, aR_sI, kd_sI, ln_sI, hn_sI, hm_sI, fI_sI_n, fI_sR, aI_sR, aL_sR, aR_sR, kd_sR, ln_sR, hn_sR, hm_sR, fR_sR_n, fI_tI, fR_tI, aL_tI, aR_tI, kd_tI, ln_tI, hn_tI, hm_tI, aI_tI_n, fI_tL, fR_tL, aI_tL, aR_tL, kd_tL, ln_tL, hn_tL, hm_tL, aL_tL_n, fI_tR, fR_tR, aI_tR, aL_tR, kd_tR, ln_tR, hn_tR, hm_tR, aR_tR_n, hn_nw, hm_nw, rc400, rc403, rc404, rc405, rc407, rc409, rc420, rc440, bI_0, bI_1, bI_T, bI_F, iF_T, iF_F, br_not, le_nlt, not_true_eq_false, not_false_eq_true, and_self, and_true, true_and, and_false, false_and, or_true, true_or, or_false, false_or, ne_eq, reduceCtorEq, Nat.reduceLeDiff, Nat.reduceEqDiff, Nat.reduceLT, Nat.reduceAdd, Nat.reduceSub, Nat.reduceMul, Int32.reduceLT, Int32.reduceLE, Int32.reduceToNatClampNeg, Int32.reduceAdd, Int32.reduceSub, implies_true, forall_const, isIn_e, bit_e, lits, hA, hB, hC, hf, hn, hn1, hp, ha, hp1, ha1, placeAt_e hJ, askAt_e hJ, modelAt_e hJ, shelfAt_e hJ, isShelf_e, isGroup_e, isAsked_e, rZ_bI, dec_none, dec_s, dec_1, lt_e, c1, c2, k1, k2]
    first | exact hQ _ hJ.jj | exact ⟨rfl, hQ _ hJ.jj⟩
  simp only [gI_e, gR_e, pI_e, pZ_e, pR_e, ldI_e, ldZ_e, ldL_e, ldR_e, stI_e, stZ_e, stL_e, stR_e, alN_e, nwA_e, nwO_e, dvI_e, rmI_e, oV_e, oN_e, lt_e, rZ_e, br_T, br_F, fR_sI, aI_sI, aL_sI, aR_sI, kd_sI, ln_sI, hn_sI, hm_sI, fI_sI_n, fI_sR, aI_sR, aL_sR, aR_sR, kd_sR, ln_sR, hn_sR, hm_sR, fR_sR_n, fI_tI, fR_tI, aL_tI, aR_tI, kd_tI, ln_tI, hn_tI, hm_tI, aI_tI_n, fI_tL, fR_tL, aI_tL, aR_tL, kd_tL, ln_tL, hn_tL, hm_tL, aL_tL_n, fI_tR, fR_tR, aI_tR, aL_tR, kd_tR, ln_tR, hn_tR, hm_tR, aR_tR_n, hn_nw, hm_nw, rc400, rc403, rc404, rc405, rc407, rc409, rc420, rc440, bI_0, bI_1, bI_T, bI_F, iF_T, iF_F, br_not, le_nlt, not_true_eq_false, not_false_eq_true, and_self, and_true, true_and, and_false, false_and, or_true, true_or, or_false, false_or, ne_eq, reduceCtorEq, Nat.reduceLeDiff, Nat.reduceEqDiff, Nat.reduceLT, Nat.reduceAdd, Nat.reduceSub, Nat.reduceMul, Int32.reduceLT, Int32.reduceLE, Int32.reduceToNatClampNeg, Int32.reduceAdd, Int32.reduceSub, implies_true, forall_const, isIn_e, bit_e, lits, hA, hB, hC, hf, hn, hn1, hp, ha, hp1, ha1, placeAt_e hJ, askAt_e hJ, modelAt_e hJ, shelfAt_e hJ, isShelf_e, isGroup_e, isAsked_e, rZ_bI, dec_none, dec_s, dec_1, lt_e, c1, c2, k1, k2]
  refine askersOf_e hJ w o _ ?_
  intro v hv
  unfold l_X10_count_33
  refine Lo.cnt (n := np) (fun p => iF (aI h 120 (m 120) p = 0 ∧ (k = 3 ∨ aI h 123 (m 123) p = k)) (bI (asn h m na p w o ∨ (¬ t = 0 ∧ ¬ aI h 125 (m 125) p = -1))) 0) ?_ ?_
  · intro i hi K z hK
    unfold b_X10_count_33 n_X10_count_73 n_X10_count_99 n_X10_count_103 n_X10_count_104 n_X10_count_110
    have c := cnF hi (show np ≤ 24 by omega) (by decide)
    have q := plF hJ hi
    have hvi := hv i (by omega)
    have hbt := fun h Q => hasBit_e v (show i < 32 by omega) h Q
    by_cases d : aI h 120 (m 120) i = 0
    · have hvi2 : tb v i = asn h m na i w o := propext (hvi.trans ⟨fun z => z.2, fun z => ⟨⟨hi, d⟩, z⟩⟩)
      by_cases e : k = 3 ∨ aI h 123 (m 123) i = k
      · rw [iF_y ⟨d, e⟩] at hK
        by_cases f1 : asn h m na i w o
        · rw [bI_y (Or.inl f1)] at hK
          by_cases e3 : k = 3
          · simp only [gI_e, gR_e, pI_e, pZ_e, pR_e, ldI_e, ldZ_e, ldL_e, ldR_e, stI_e, stZ_e, stL_e, stR_e, alN_e, nwA_e, nwO_e, dvI_e, rmI_e, oV_e, oN_e, lt_e, rZ_e, br_T, br_F, fR_sI, aI_sI, aL_sI, aR_sI, kd_sI, ln_sI, hn_sI, hm_sI, fI_sI_n, fI_sR, aI_sR, aL_sR, aR_sR, kd_sR, ln_sR, hn_sR, hm_sR, fR_sR_n, fI_tI, fR_tI, aL_tI, aR_tI, kd_tI, ln_tI, hn_tI, hm_tI, aI_tI_n, fI_tL, fR_tL, aI_tL, aR_tL, kd_tL, ln_tL, hn_tL, hm_tL, aL_tL_n, fI_tR, fR_tR, aI_tR, aL_tR, kd_tR, ln_tR, hn_tR, hm_tR, aR_tR_n, hn_nw, hm_nw, rc400, rc403, rc404, rc405, rc407, rc409, rc420, rc440, bI_0, bI_1, bI_T, bI_F, iF_T, iF_F, br_not, le_nlt, not_true_eq_false, not_false_eq_true, and_self, and_true, true_and, and_false, false_and, or_true, true_or, or_false, false_or, ne_eq, reduceCtorEq, Nat.reduceLeDiff, Nat.reduceEqDiff, Nat.reduceLT, Nat.reduceAdd, Nat.reduceSub, Nat.reduceMul, Int32.reduceLT, Int32.reduceLE, Int32.reduceToNatClampNeg, Int32.reduceAdd, Int32.reduceSub, implies_true, forall_const, isIn_e, bit_e, lits, hA, hB, hC, hf, hn, hn1, hp, ha, hp1, ha1, placeAt_e hJ, askAt_e hJ, modelAt_e hJ, shelfAt_e hJ, isShelf_e, isGroup_e, isAsked_e, rZ_bI, dec_none, dec_s, dec_1, lt_e, bI_T, bI_F, bI_0, bI_1, Int32.add_zero, Int32.zero_add, if_true, if_false, Option.some.injEq, lt_irr, iF_T, iF_F, c, q, d, e3, hbt, hvi2, f1]
            exact hK
          · have e4 := e.resolve_left e3
            simp only [gI_e, gR_e, pI_e, pZ_e, pR_e, ldI_e, ldZ_e, ldL_e, ldR_e, stI_e, stZ_e, stL_e, stR_e, alN_e, nwA_e, nwO_e, dvI_e, rmI_e, oV_e, oN_e, lt_e, rZ_e, br_T, br_F, fR_sI, aI_sI, aL_sI, aR_sI, kd_sI, ln_sI, hn_sI, hm_sI, fI_sI_n, fI_sR, aI_sR, aL_sR, aR_sR, kd_sR, ln_sR, hn_sR, hm_sR, fR_sR_n, fI_tI, fR_tI, aL_tI, aR_tI, kd_tI, ln_tI, hn_tI, hm_tI, aI_tI_n, fI_tL, fR_tL, aI_tL, aR_tL, kd_tL, ln_tL, hn_tL, hm_tL, aL_tL_n, fI_tR, fR_tR, aI_tR, aL_tR, kd_tR, ln_tR, hn_tR, hm_tR, aR_tR_n, hn_nw, hm_nw, rc400, rc403, rc404, rc405, rc407, rc409, rc420, rc440, bI_0, bI_1, bI_T, bI_F, iF_T, iF_F, br_not, le_nlt, not_true_eq_false, not_false_eq_true, and_self, and_true, true_and, and_false, false_and, or_true, true_or, or_false, false_or, ne_eq, reduceCtorEq, Nat.reduceLeDiff, Nat.reduceEqDiff, Nat.reduceLT, Nat.reduceAdd, Nat.reduceSub, Nat.reduceMul, Int32.reduceLT, Int32.reduceLE, Int32.reduceToNatClampNeg, Int32.reduceAdd, Int32.reduceSub, implies_true, forall_const, isIn_e, bit_e, lits, hA, hB, hC, hf, hn, hn1, hp, ha, hp1, ha1, placeAt_e hJ, askAt_e hJ, modelAt_e hJ, shelfAt_e hJ, isShelf_e, isGroup_e, isAsked_e, rZ_bI, dec_none, dec_s, dec_1, lt_e, bI_T, bI_F, bI_0, bI_1, Int32.add_zero, Int32.zero_add, if_true, if_false, Option.some.injEq, lt_irr, iF_T, iF_F, c, q, d, e3, e4, hbt, hvi2, f1]
            exact hK
        · by_cases f2 : t = 0
          · rw [bI_n (fun u => u.elim f1 (fun u => u.1 f2)), Int32.add_zero] at hK
            by_cases e3 : k = 3
            · simp only [gI_e, gR_e, pI_e, pZ_e, pR_e, ldI_e, ldZ_e, ldL_e, ldR_e, stI_e, stZ_e, stL_e, stR_e, alN_e, nwA_e, nwO_e, dvI_e, rmI_e, oV_e, oN_e, lt_e, rZ_e, br_T, br_F, fR_sI, aI_sI, aL_sI, aR_sI, kd_sI, ln_sI, hn_sI, hm_sI, fI_sI_n, fI_sR, aI_sR, aL_sR, aR_sR, kd_sR, ln_sR, hn_sR, hm_sR, fR_sR_n, fI_tI, fR_tI, aL_tI, aR_tI, kd_tI, ln_tI, hn_tI, hm_tI, aI_tI_n, fI_tL, fR_tL, aI_tL, aR_tL, kd_tL, ln_tL, hn_tL, hm_tL, aL_tL_n, fI_tR, fR_tR, aI_tR, aL_tR, kd_tR, ln_tR, hn_tR, hm_tR, aR_tR_n, hn_nw, hm_nw, rc400, rc403, rc404, rc405, rc407, rc409, rc420, rc440, bI_0, bI_1, bI_T, bI_F, iF_T, iF_F, br_not, le_nlt, not_true_eq_false, not_false_eq_true, and_self, and_true, true_and, and_false, false_and, or_true, true_or, or_false, false_or, ne_eq, reduceCtorEq, Nat.reduceLeDiff, Nat.reduceEqDiff, Nat.reduceLT, Nat.reduceAdd, Nat.reduceSub, Nat.reduceMul, Int32.reduceLT, Int32.reduceLE, Int32.reduceToNatClampNeg, Int32.reduceAdd, Int32.reduceSub, implies_true, forall_const, isIn_e, bit_e, lits, hA, hB, hC, hf, hn, hn1, hp, ha, hp1, ha1, placeAt_e hJ, askAt_e hJ, modelAt_e hJ, shelfAt_e hJ, isShelf_e, isGroup_e, isAsked_e, rZ_bI, dec_none, dec_s, dec_1, lt_e, bI_T, bI_F, bI_0, bI_1, Int32.add_zero, Int32.zero_add, if_true, if_false, Option.some.injEq, lt_irr, iF_T, iF_F, c, q, d, e3, hbt, hvi2, f1, f2]
              exact hK
            · have e4 := e.resolve_left e3
              simp only [gI_e, gR_e, pI_e, pZ_e, pR_e, ldI_e, ldZ_e, ldL_e, ldR_e, stI_e, stZ_e, stL_e, stR_e, alN_e, nwA_e, nwO_e, dvI_e, rmI_e, oV_e, oN_e, lt_e, rZ_e, br_T, br_F, fR_sI, aI_sI, aL_sI, aR_sI, kd_sI, ln_sI, hn_sI, hm_sI, fI_sI_n, fI_sR, aI_sR, aL_sR, aR_sR, kd_sR, ln_sR, hn_sR, hm_sR, fR_sR_n, fI_tI, fR_tI, aL_tI, aR_tI, kd_tI, ln_tI, hn_tI, hm_tI, aI_tI_n, fI_tL, fR_tL, aI_tL, aR_tL, kd_tL, ln_tL, hn_tL, hm_tL, aL_tL_n, fI_tR, fR_tR, aI_tR, aL_tR, kd_tR, ln_tR, hn_tR, hm_tR, aR_tR_n, hn_nw, hm_nw, rc400, rc403, rc404, rc405, rc407, rc409, rc420, rc440, bI_0, bI_1, bI_T, bI_F, iF_T, iF_F, br_not, le_nlt, not_true_eq_false, not_false_eq_true, and_self, and_true, true_and, and_false, false_and, or_true, true_or, or_false, false_or, ne_eq, reduceCtorEq, Nat.reduceLeDiff, Nat.reduceEqDiff, Nat.reduceLT, Nat.reduceAdd, Nat.reduceSub, Nat.reduceMul, Int32.reduceLT, Int32.reduceLE, Int32.reduceToNatClampNeg, Int32.reduceAdd, Int32.reduceSub, implies_true, forall_const, isIn_e, bit_e, lits, hA, hB, hC, hf, hn, hn1, hp, ha, hp1, ha1, placeAt_e hJ, askAt_e hJ, modelAt_e hJ, shelfAt_e hJ, isShelf_e, isGroup_e, isAsked_e, rZ_bI, dec_none, dec_s, dec_1, lt_e, bI_T, bI_F, bI_0, bI_1, Int32.add_zero, Int32.zero_add, if_true, if_false, Option.some.injEq, lt_irr, iF_T, iF_F, c, q, d, e3, e4, hbt, hvi2, f1, f2]
              exact hK
          · by_cases f3 : aI h 125 (m 125) i = -1
            · rw [bI_n (fun u => u.elim f1 (fun u => u.2 f3)), Int32.add_zero] at hK
              by_cases e3 : k = 3
              · simp only [gI_e, gR_e, pI_e, pZ_e, pR_e, ldI_e, ldZ_e, ldL_e, ldR_e, stI_e, stZ_e, stL_e, stR_e, alN_e, nwA_e, nwO_e, dvI_e, rmI_e, oV_e, oN_e, lt_e, rZ_e, br_T, br_F, fR_sI, aI_sI, aL_sI, aR_sI, kd_sI, ln_sI, hn_sI, hm_sI, fI_sI_n, fI_sR, aI_sR, aL_sR, aR_sR, kd_sR, ln_sR, hn_sR, hm_sR, fR_sR_n, fI_tI, fR_tI, aL_tI, aR_tI, kd_tI, ln_tI, hn_tI, hm_tI, aI_tI_n, fI_tL, fR_tL, aI_tL, aR_tL, kd_tL, ln_tL, hn_tL, hm_tL, aL_tL_n, fI_tR, fR_tR, aI_tR, aL_tR, kd_tR, ln_tR, hn_tR, hm_tR, aR_tR_n, hn_nw, hm_nw, rc400, rc403, rc404, rc405, rc407, rc409, rc420, rc440, bI_0, bI_1, bI_T, bI_F, iF_T, iF_F, br_not, le_nlt, not_true_eq_false, not_false_eq_true, and_self, and_true, true_and, and_false, false_and, or_true, true_or, or_false, false_or, ne_eq, reduceCtorEq, Nat.reduceLeDiff, Nat.reduceEqDiff, Nat.reduceLT, Nat.reduceAdd, Nat.reduceSub, Nat.reduceMul, Int32.reduceLT, Int32.reduceLE, Int32.reduceToNatClampNeg, Int32.reduceAdd, Int32.reduceSub, implies_true, forall_const, isIn_e, bit_e, lits, hA, hB, hC, hf, hn, hn1, hp, ha, hp1, ha1, placeAt_e hJ, askAt_e hJ, modelAt_e hJ, shelfAt_e hJ, isShelf_e, isGroup_e, isAsked_e, rZ_bI, dec_none, dec_s, dec_1, lt_e, bI_T, bI_F, bI_0, bI_1, Int32.add_zero, Int32.zero_add, if_true, if_false, Option.some.injEq, lt_irr, iF_T, iF_F, c, q, d, e3, hbt, hvi2, f1, f2, f3]
                exact hK
              · have e4 := e.resolve_left e3
                simp only [gI_e, gR_e, pI_e, pZ_e, pR_e, ldI_e, ldZ_e, ldL_e, ldR_e, stI_e, stZ_e, stL_e, stR_e, alN_e, nwA_e, nwO_e, dvI_e, rmI_e, oV_e, oN_e, lt_e, rZ_e, br_T, br_F, fR_sI, aI_sI, aL_sI, aR_sI, kd_sI, ln_sI, hn_sI, hm_sI, fI_sI_n, fI_sR, aI_sR, aL_sR, aR_sR, kd_sR, ln_sR, hn_sR, hm_sR, fR_sR_n, fI_tI, fR_tI, aL_tI, aR_tI, kd_tI, ln_tI, hn_tI, hm_tI, aI_tI_n, fI_tL, fR_tL, aI_tL, aR_tL, kd_tL, ln_tL, hn_tL, hm_tL, aL_tL_n, fI_tR, fR_tR, aI_tR, aL_tR, kd_tR, ln_tR, hn_tR, hm_tR, aR_tR_n, hn_nw, hm_nw, rc400, rc403, rc404, rc405, rc407, rc409, rc420, rc440, bI_0, bI_1, bI_T, bI_F, iF_T, iF_F, br_not, le_nlt, not_true_eq_false, not_false_eq_true, and_self, and_true, true_and, and_false, false_and, or_true, true_or, or_false, false_or, ne_eq, reduceCtorEq, Nat.reduceLeDiff, Nat.reduceEqDiff, Nat.reduceLT, Nat.reduceAdd, Nat.reduceSub, Nat.reduceMul, Int32.reduceLT, Int32.reduceLE, Int32.reduceToNatClampNeg, Int32.reduceAdd, Int32.reduceSub, implies_true, forall_const, isIn_e, bit_e, lits, hA, hB, hC, hf, hn, hn1, hp, ha, hp1, ha1, placeAt_e hJ, askAt_e hJ, modelAt_e hJ, shelfAt_e hJ, isShelf_e, isGroup_e, isAsked_e, rZ_bI, dec_none, dec_s, dec_1, lt_e, bI_T, bI_F, bI_0, bI_1, Int32.add_zero, Int32.zero_add, if_true, if_false, Option.some.injEq, lt_irr, iF_T, iF_F, c, q, d, e3, e4, hbt, hvi2, f1, f2, f3]
                exact hK
            · rw [bI_y (Or.inr ⟨f2, f3⟩)] at hK
              by_cases e3 : k = 3
              · simp only [gI_e, gR_e, pI_e, pZ_e, pR_e, ldI_e, ldZ_e, ldL_e, ldR_e, stI_e, stZ_e, stL_e, stR_e, alN_e, nwA_e, nwO_e, dvI_e, rmI_e, oV_e, oN_e, lt_e, rZ_e, br_T, br_F, fR_sI, aI_sI, aL_sI, aR_sI, kd_sI, ln_sI, hn_sI, hm_sI, fI_sI_n, fI_sR, aI_sR, aL_sR, aR_sR, kd_sR, ln_sR, hn_sR, hm_sR, fR_sR_n, fI_tI, fR_tI, aL_tI, aR_tI, kd_tI, ln_tI, hn_tI, hm_tI, aI_tI_n, fI_tL, fR_tL, aI_tL, aR_tL, kd_tL, ln_tL, hn_tL, hm_tL, aL_tL_n, fI_tR, fR_tR, aI_tR, aL_tR, kd_tR, ln_tR, hn_tR, hm_tR, aR_tR_n, hn_nw, hm_nw, rc400, rc403, rc404, rc405, rc407, rc409, rc420, rc440, bI_0, bI_1, bI_T, bI_F, iF_T, iF_F, br_not, le_nlt, not_true_eq_false, not_false_eq_true, and_self, and_true, true_and, and_false, false_and, or_true, true_or, or_false, false_or, ne_eq, reduceCtorEq, Nat.reduceLeDiff, Nat.reduceEqDiff, Nat.reduceLT, Nat.reduceAdd, Nat.reduceSub, Nat.reduceMul, Int32.reduceLT, Int32.reduceLE, Int32.reduceToNatClampNeg, Int32.reduceAdd, Int32.reduceSub, implies_true, forall_const, isIn_e, bit_e, lits, hA, hB, hC, hf, hn, hn1, hp, ha, hp1, ha1, placeAt_e hJ, askAt_e hJ, modelAt_e hJ, shelfAt_e hJ, isShelf_e, isGroup_e, isAsked_e, rZ_bI, dec_none, dec_s, dec_1, lt_e, bI_T, bI_F, bI_0, bI_1, Int32.add_zero, Int32.zero_add, if_true, if_false, Option.some.injEq, lt_irr, iF_T, iF_F, c, q, d, e3, hbt, hvi2, f1, f2, f3]
                exact hK
              · have e4 := e.resolve_left e3
                simp only [gI_e, gR_e, pI_e, pZ_e, pR_e, ldI_e, ldZ_e, ldL_e, ldR_e, stI_e, stZ_e, stL_e, stR_e, alN_e, nwA_e, nwO_e, dvI_e, rmI_e, oV_e, oN_e, lt_e, rZ_e, br_T, br_F, fR_sI, aI_sI, aL_sI, aR_sI, kd_sI, ln_sI, hn_sI, hm_sI, fI_sI_n, fI_sR, aI_sR, aL_sR, aR_sR, kd_sR, ln_sR, hn_sR, hm_sR, fR_sR_n, fI_tI, fR_tI, aL_tI, aR_tI, kd_tI, ln_tI, hn_tI, hm_tI, aI_tI_n, fI_tL, fR_tL, aI_tL, aR_tL, kd_tL, ln_tL, hn_tL, hm_tL, aL_tL_n, fI_tR, fR_tR, aI_tR, aL_tR, kd_tR, ln_tR, hn_tR, hm_tR, aR_tR_n, hn_nw, hm_nw, rc400, rc403, rc404, rc405, rc407, rc409, rc420, rc440, bI_0, bI_1, bI_T, bI_F, iF_T, iF_F, br_not, le_nlt, not_true_eq_false, not_false_eq_true, and_self, and_true, true_and, and_false, false_and, or_true, true_or, or_false, false_or, ne_eq, reduceCtorEq, Nat.reduceLeDiff, Nat.reduceEqDiff, Nat.reduceLT, Nat.reduceAdd, Nat.reduceSub, Nat.reduceMul, Int32.reduceLT, Int32.reduceLE, Int32.reduceToNatClampNeg, Int32.reduceAdd, Int32.reduceSub, implies_true, forall_const, isIn_e, bit_e, lits, hA, hB, hC, hf, hn, hn1, hp, ha, hp1, ha1, placeAt_e hJ, askAt_e hJ, modelAt_e hJ, shelfAt_e hJ, isShelf_e, isGroup_e, isAsked_e, rZ_bI, dec_none, dec_s, dec_1, lt_e, bI_T, bI_F, bI_0, bI_1, Int32.add_zero, Int32.zero_add, if_true, if_false, Option.some.injEq, lt_irr, iF_T, iF_F, c, q, d, e3, e4, hbt, hvi2, f1, f2, f3]
                exact hK
      · rw [iF_n (fun u => e u.2), Int32.add_zero] at hK
        have e3 : ¬ k = 3 := fun u => e (Or.inl u)
        have e4 : ¬ aI h 123 (m 123) i = k := fun u => e (Or.inr u)
        simp only [gI_e, gR_e, pI_e, pZ_e, pR_e, ldI_e, ldZ_e, ldL_e, ldR_e, stI_e, stZ_e, stL_e, stR_e, alN_e, nwA_e, nwO_e, dvI_e, rmI_e, oV_e, oN_e, lt_e, rZ_e, br_T, br_F, fR_sI, aI_sI, aL_sI, aR_sI, kd_sI, ln_sI, hn_sI, hm_sI, fI_sI_n, fI_sR, aI_sR, aL_sR, aR_sR, kd_sR, ln_sR, hn_sR, hm_sR, fR_sR_n, fI_tI, fR_tI, aL_tI, aR_tI, kd_tI, ln_tI, hn_tI, hm_tI, aI_tI_n, fI_tL, fR_tL, aI_tL, aR_tL, kd_tL, ln_tL, hn_tL, hm_tL, aL_tL_n, fI_tR, fR_tR, aI_tR, aL_tR, kd_tR, ln_tR, hn_tR, hm_tR, aR_tR_n, hn_nw, hm_nw, rc400, rc403, rc404, rc405, rc407, rc409, rc420, rc440, bI_0, bI_1, bI_T, bI_F, iF_T, iF_F, br_not, le_nlt, not_true_eq_false, not_false_eq_true, and_self, and_true, true_and, and_false, false_and, or_true, true_or, or_false, false_or, ne_eq, reduceCtorEq, Nat.reduceLeDiff, Nat.reduceEqDiff, Nat.reduceLT, Nat.reduceAdd, Nat.reduceSub, Nat.reduceMul, Int32.reduceLT, Int32.reduceLE, Int32.reduceToNatClampNeg, Int32.reduceAdd, Int32.reduceSub, implies_true, forall_const, isIn_e, bit_e, lits, hA, hB, hC, hf, hn, hn1, hp, ha, hp1, ha1, placeAt_e hJ, askAt_e hJ, modelAt_e hJ, shelfAt_e hJ, isShelf_e, isGroup_e, isAsked_e, rZ_bI, dec_none, dec_s, dec_1, lt_e, bI_T, bI_F, bI_0, bI_1, Int32.add_zero, Int32.zero_add, if_true, if_false, Option.some.injEq, lt_irr, iF_T, iF_F, c, q, d, e3, e4]
        exact hK
    · rw [iF_n (fun u => d u.1), Int32.add_zero] at hK
      simp only [gI_e, gR_e, pI_e, pZ_e, pR_e, ldI_e, ldZ_e, ldL_e, ldR_e, stI_e, stZ_e, stL_e, stR_e, alN_e, nwA_e, nwO_e, dvI_e, rmI_e, oV_e, oN_e, lt_e, rZ_e, br_T, br_F, fR_sI, aI_sI, aL_sI, aR_sI, kd_sI, ln_sI, hn_sI, hm_sI, fI_sI_n, fI_sR, aI_sR, aL_sR, aR_sR, kd_sR, ln_sR, hn_sR, hm_sR, fR_sR_n, fI_tI, fR_tI, aL_tI, aR_tI, kd_tI, ln_tI, hn_tI, hm_tI, aI_tI_n, fI_tL, fR_tL, aI_tL, aR_tL, kd_tL, ln_tL, hn_tL, hm_tL, aL_tL_n, fI_tR, fR_tR, aI_tR, aL_tR, kd_tR, ln_tR, hn_tR, hm_tR, aR_tR_n, hn_nw, hm_nw, rc400, rc403, rc404, rc405, rc407, rc409, rc420, rc440, bI_0, bI_1, bI_T, bI_F, iF_T, iF_F, br_not, le_nlt, not_true_eq_false, not_false_eq_true, and_self, and_true, true_and, and_false, false_and, or_true, true_or, or_false, false_or, ne_eq, reduceCtorEq, Nat.reduceLeDiff, Nat.reduceEqDiff, Nat.reduceLT, Nat.reduceAdd, Nat.reduceSub, Nat.reduceMul, Int32.reduceLT, Int32.reduceLE, Int32.reduceToNatClampNeg, Int32.reduceAdd, Int32.reduceSub, implies_true, forall_const, isIn_e, bit_e, lits, hA, hB, hC, hf, hn, hn1, hp, ha, hp1, ha1, placeAt_e hJ, askAt_e hJ, modelAt_e hJ, shelfAt_e hJ, isShelf_e, isGroup_e, isAsked_e, rZ_bI, dec_none, dec_s, dec_1, lt_e, c, q, d]
      exact hK
  · intro K
    unfold b_X10_count_33
    simp only [gI_e, gR_e, pI_e, pZ_e, pR_e, ldI_e, ldZ_e, ldL_e, ldR_e, stI_e, stZ_e, stL_e, stR_e, alN_e, nwA_e, nwO_e, dvI_e, rmI_e, oV_e, oN_e, lt_e, rZ_e, br_T, br_F, fR_sI, aI_sI, aL_sI, aR_sI, kd_sI, ln_sI, hn_sI, hm_sI, fI_sI_n, fI_sR, aI_sR, aL_sR, aR_sR, kd_sR, ln_sR, hn_sR, hm_sR, fR_sR_n, fI_tI, fR_tI, aL_tI, aR_tI, kd_tI, ln_tI, hn_tI, hm_tI, aI_tI_n, fI_tL, fR_tL, aI_tL, aR_tL, kd_tL, ln_tL, hn_tL, hm_tL, aL_tL_n, fI_tR, fR_tR, aI_tR, aL_tR, kd_tR, ln_tR, hn_tR, hm_tR, aR_tR_n, hn_nw, hm_nw, rc400, rc403, rc404, rc405, rc407, rc409, rc420, rc440, bI_0, bI_1, bI_T, bI_F, iF_T, iF_F, br_not, le_nlt, not_true_eq_false, not_false_eq_true, and_self, and_true, true_and, and_false, false_and, or_true, true_or, or_false, false_or, ne_eq, reduceCtorEq, Nat.reduceLeDiff, Nat.reduceEqDiff, Nat.reduceLT, Nat.reduceAdd, Nat.reduceSub, Nat.reduceMul, Int32.reduceLT, Int32.reduceLE, Int32.reduceToNatClampNeg, Int32.reduceAdd, Int32.reduceSub, implies_true, forall_const, isIn_e, bit_e, lits, hA, hB, hC, hf, hn, hn1, hp, ha, hp1, ha1, placeAt_e hJ, askAt_e hJ, modelAt_e hJ, shelfAt_e hJ, isShelf_e, isGroup_e, isAsked_e, rZ_bI, dec_none, dec_s, dec_1, lt_e, c1, c2, k1, k2, lt_irr]
    unfold l_X11_count_25
    refine Lo.cnt (n := np) (fun p => iF (aI h 120 (m 120) p = 0 ∧ (k = 3 ∨ aI h 123 (m 123) p = k)) (bI (asn h m na p w o ∨ (¬ t = 0 ∧ ¬ aI h 125 (m 125) p = -1))) 0) ?_ ?_
    · intro i hi K z hK
      unfold b_X11_count_25 n_X11_count_60 n_X11_count_91 n_X11_count_94
      have c := cnF hi (show np ≤ 24 by omega) (by decide)
      by_cases d : aI h 120 (m 120) i = 0
      · by_cases e : k = 3 ∨ aI h 123 (m 123) i = k
        · rw [iF_y ⟨d, e⟩] at hK
          have go : w_X11_asksNow (some y) (nI i) (8 * w + o) h fun v5 h => br (v5 = 0) (br (t = 0) (lt (nI i + 1) fun x6 => K (z, x6) h) (gR h (some y) 12 1420 fun v7 => ldI h v7 (nI i) fun v8 => br (v8 = -1) (lt (nI i + 1) fun x6 => K (z, x6) h) (lt (z + 1) fun x9 => lt (nI i + 1) fun x6 => K (x9, x6) h))) (lt (z + 1) fun x9 => lt (nI i + 1) fun x6 => K (x9, x6) h) := by
            refine asksNow_e hR c1 c2 _ ?_
            by_cases f1 : asn h m na i w o
            · rw [bI_y (Or.inl f1)] at hK
              simp only [gI_e, gR_e, pI_e, pZ_e, pR_e, ldI_e, ldZ_e, ldL_e, ldR_e, stI_e, stZ_e, stL_e, stR_e, alN_e, nwA_e, nwO_e, dvI_e, rmI_e, oV_e, oN_e, lt_e, rZ_e, br_T, br_F, fR_sI, aI_sI, aL_sI, aR_sI, kd_sI, ln_sI, hn_sI, hm_sI, fI_sI_n, fI_sR, aI_sR, aL_sR, aR_sR, kd_sR, ln_sR, hn_sR, hm_sR, fR_sR_n, fI_tI, fR_tI, aL_tI, aR_tI, kd_tI, ln_tI, hn_tI, hm_tI, aI_tI_n, fI_tL, fR_tL, aI_tL, aR_tL, kd_tL, ln_tL, hn_tL, hm_tL, aL_tL_n, fI_tR, fR_tR, aI_tR, aL_tR, kd_tR, ln_tR, hn_tR, hm_tR, aR_tR_n, hn_nw, hm_nw, rc400, rc403, rc404, rc405, rc407, rc409, rc420, rc440, bI_0, bI_1, bI_T, bI_F, iF_T, iF_F, br_not, le_nlt, not_true_eq_false, not_false_eq_true, and_self, and_true, true_and, and_false, false_and, or_true, true_or, or_false, false_or, ne_eq, reduceCtorEq, Nat.reduceLeDiff, Nat.reduceEqDiff, Nat.reduceLT, Nat.reduceAdd, Nat.reduceSub, Nat.reduceMul, Int32.reduceLT, Int32.reduceLE, Int32.reduceToNatClampNeg, Int32.reduceAdd, Int32.reduceSub, implies_true, forall_const, isIn_e, bit_e, lits, hA, hB, hC, hf, hn, hn1, hp, ha, hp1, ha1, placeAt_e hJ, askAt_e hJ, modelAt_e hJ, shelfAt_e hJ, isShelf_e, isGroup_e, isAsked_e, rZ_bI, dec_none, dec_s, dec_1, lt_e, bI_T, bI_F, bI_0, bI_1, Int32.add_zero, Int32.zero_add, if_true, if_false, Option.some.injEq, lt_irr, iF_T, iF_F, c, f1]
              exact hK
            · by_cases f2 : t = 0
              · rw [bI_n (fun u => u.elim f1 (fun u => u.1 f2)), Int32.add_zero] at hK
                simp only [gI_e, gR_e, pI_e, pZ_e, pR_e, ldI_e, ldZ_e, ldL_e, ldR_e, stI_e, stZ_e, stL_e, stR_e, alN_e, nwA_e, nwO_e, dvI_e, rmI_e, oV_e, oN_e, lt_e, rZ_e, br_T, br_F, fR_sI, aI_sI, aL_sI, aR_sI, kd_sI, ln_sI, hn_sI, hm_sI, fI_sI_n, fI_sR, aI_sR, aL_sR, aR_sR, kd_sR, ln_sR, hn_sR, hm_sR, fR_sR_n, fI_tI, fR_tI, aL_tI, aR_tI, kd_tI, ln_tI, hn_tI, hm_tI, aI_tI_n, fI_tL, fR_tL, aI_tL, aR_tL, kd_tL, ln_tL, hn_tL, hm_tL, aL_tL_n, fI_tR, fR_tR, aI_tR, aL_tR, kd_tR, ln_tR, hn_tR, hm_tR, aR_tR_n, hn_nw, hm_nw, rc400, rc403, rc404, rc405, rc407, rc409, rc420, rc440, bI_0, bI_1, bI_T, bI_F, iF_T, iF_F, br_not, le_nlt, not_true_eq_false, not_false_eq_true, and_self, and_true, true_and, and_false, false_and, or_true, true_or, or_false, false_or, ne_eq, reduceCtorEq, Nat.reduceLeDiff, Nat.reduceEqDiff, Nat.reduceLT, Nat.reduceAdd, Nat.reduceSub, Nat.reduceMul, Int32.reduceLT, Int32.reduceLE, Int32.reduceToNatClampNeg, Int32.reduceAdd, Int32.reduceSub, implies_true, forall_const, isIn_e, bit_e, lits, hA, hB, hC, hf, hn, hn1, hp, ha, hp1, ha1, placeAt_e hJ, askAt_e hJ, modelAt_e hJ, shelfAt_e hJ, isShelf_e, isGroup_e, isAsked_e, rZ_bI, dec_none, dec_s, dec_1, lt_e, bI_T, bI_F, bI_0, bI_1, Int32.add_zero, Int32.zero_add, if_true, if_false, Option.some.injEq, lt_irr, iF_T, iF_F, c, f1, f2]
                exact hK
              · by_cases f3 : aI h 125 (m 125) i = -1
                · rw [bI_n (fun u => u.elim f1 (fun u => u.2 f3)), Int32.add_zero] at hK
                  simp only [gI_e, gR_e, pI_e, pZ_e, pR_e, ldI_e, ldZ_e, ldL_e, ldR_e, stI_e, stZ_e, stL_e, stR_e, alN_e, nwA_e, nwO_e, dvI_e, rmI_e, oV_e, oN_e, lt_e, rZ_e, br_T, br_F, fR_sI, aI_sI, aL_sI, aR_sI, kd_sI, ln_sI, hn_sI, hm_sI, fI_sI_n, fI_sR, aI_sR, aL_sR, aR_sR, kd_sR, ln_sR, hn_sR, hm_sR, fR_sR_n, fI_tI, fR_tI, aL_tI, aR_tI, kd_tI, ln_tI, hn_tI, hm_tI, aI_tI_n, fI_tL, fR_tL, aI_tL, aR_tL, kd_tL, ln_tL, hn_tL, hm_tL, aL_tL_n, fI_tR, fR_tR, aI_tR, aL_tR, kd_tR, ln_tR, hn_tR, hm_tR, aR_tR_n, hn_nw, hm_nw, rc400, rc403, rc404, rc405, rc407, rc409, rc420, rc440, bI_0, bI_1, bI_T, bI_F, iF_T, iF_F, br_not, le_nlt, not_true_eq_false, not_false_eq_true, and_self, and_true, true_and, and_false, false_and, or_true, true_or, or_false, false_or, ne_eq, reduceCtorEq, Nat.reduceLeDiff, Nat.reduceEqDiff, Nat.reduceLT, Nat.reduceAdd, Nat.reduceSub, Nat.reduceMul, Int32.reduceLT, Int32.reduceLE, Int32.reduceToNatClampNeg, Int32.reduceAdd, Int32.reduceSub, implies_true, forall_const, isIn_e, bit_e, lits, hA, hB, hC, hf, hn, hn1, hp, ha, hp1, ha1, placeAt_e hJ, askAt_e hJ, modelAt_e hJ, shelfAt_e hJ, isShelf_e, isGroup_e, isAsked_e, rZ_bI, dec_none, dec_s, dec_1, lt_e, bI_T, bI_F, bI_0, bI_1, Int32.add_zero, Int32.zero_add, if_true, if_false, Option.some.injEq, lt_irr, iF_T, iF_F, c, f1, f2, f3]
                  exact hK
                · rw [bI_y (Or.inr ⟨f2, f3⟩)] at hK
                  simp only [gI_e, gR_e, pI_e, pZ_e, pR_e, ldI_e, ldZ_e, ldL_e, ldR_e, stI_e, stZ_e, stL_e, stR_e, alN_e, nwA_e, nwO_e, dvI_e, rmI_e, oV_e, oN_e, lt_e, rZ_e, br_T, br_F, fR_sI, aI_sI, aL_sI, aR_sI, kd_sI, ln_sI, hn_sI, hm_sI, fI_sI_n, fI_sR, aI_sR, aL_sR, aR_sR, kd_sR, ln_sR, hn_sR, hm_sR, fR_sR_n, fI_tI, fR_tI, aL_tI, aR_tI, kd_tI, ln_tI, hn_tI, hm_tI, aI_tI_n, fI_tL, fR_tL, aI_tL, aR_tL, kd_tL, ln_tL, hn_tL, hm_tL, aL_tL_n, fI_tR, fR_tR, aI_tR, aL_tR, kd_tR, ln_tR, hn_tR, hm_tR, aR_tR_n, hn_nw, hm_nw, rc400, rc403, rc404, rc405, rc407, rc409, rc420, rc440, bI_0, bI_1, bI_T, bI_F, iF_T, iF_F, br_not, le_nlt, not_true_eq_false, not_false_eq_true, and_self, and_true, true_and, and_false, false_and, or_true, true_or, or_false, false_or, ne_eq, reduceCtorEq, Nat.reduceLeDiff, Nat.reduceEqDiff, Nat.reduceLT, Nat.reduceAdd, Nat.reduceSub, Nat.reduceMul, Int32.reduceLT, Int32.reduceLE, Int32.reduceToNatClampNeg, Int32.reduceAdd, Int32.reduceSub, implies_true, forall_const, isIn_e, bit_e, lits, hA, hB, hC, hf, hn, hn1, hp, ha, hp1, ha1, placeAt_e hJ, askAt_e hJ, modelAt_e hJ, shelfAt_e hJ, isShelf_e, isGroup_e, isAsked_e, rZ_bI, dec_none, dec_s, dec_1, lt_e, bI_T, bI_F, bI_0, bI_1, Int32.add_zero, Int32.zero_add, if_true, if_false, Option.some.injEq, lt_irr, iF_T, iF_F, c, f1, f2, f3]
                  exact hK
          by_cases e3 : k = 3
          · rw [gI_e hA.1, hR.2.1.1]
            have l1 : ¬ nI np ≤ nI i := fun u => absurd c.1 (by rw [le_nlt] at u; exact u)
            rw [br_n l1]
            simp only [gI_e, gR_e, pI_e, pZ_e, pR_e, ldI_e, ldZ_e, ldL_e, ldR_e, stI_e, stZ_e, stL_e, stR_e, alN_e, nwA_e, nwO_e, dvI_e, rmI_e, oV_e, oN_e, lt_e, rZ_e, br_T, br_F, fR_sI, aI_sI, aL_sI, aR_sI, kd_sI, ln_sI, hn_sI, hm_sI, fI_sI_n, fI_sR, aI_sR, aL_sR, aR_sR, kd_sR, ln_sR, hn_sR, hm_sR, fR_sR_n, fI_tI, fR_tI, aL_tI, aR_tI, kd_tI, ln_tI, hn_tI, hm_tI, aI_tI_n, fI_tL, fR_tL, aI_tL, aR_tL, kd_tL, ln_tL, hn_tL, hm_tL, aL_tL_n, fI_tR, fR_tR, aI_tR, aL_tR, kd_tR, ln_tR, hn_tR, hm_tR, aR_tR_n, hn_nw, hm_nw, rc400, rc403, rc404, rc405, rc407, rc409, rc420, rc440, bI_0, bI_1, bI_T, bI_F, iF_T, iF_F, br_not, le_nlt, not_true_eq_false, not_false_eq_true, and_self, and_true, true_and, and_false, false_and, or_true, true_or, or_false, false_or, ne_eq, reduceCtorEq, Nat.reduceLeDiff, Nat.reduceEqDiff, Nat.reduceLT, Nat.reduceAdd, Nat.reduceSub, Nat.reduceMul, Int32.reduceLT, Int32.reduceLE, Int32.reduceToNatClampNeg, Int32.reduceAdd, Int32.reduceSub, implies_true, forall_const, isIn_e, bit_e, lits, hA, c, d, e3]
            simp only [gI_e, gR_e, pI_e, pZ_e, pR_e, ldI_e, ldZ_e, ldL_e, ldR_e, stI_e, stZ_e, stL_e, stR_e, alN_e, nwA_e, nwO_e, dvI_e, rmI_e, oV_e, oN_e, lt_e, rZ_e, br_T, br_F, fR_sI, aI_sI, aL_sI, aR_sI, kd_sI, ln_sI, hn_sI, hm_sI, fI_sI_n, fI_sR, aI_sR, aL_sR, aR_sR, kd_sR, ln_sR, hn_sR, hm_sR, fR_sR_n, fI_tI, fR_tI, aL_tI, aR_tI, kd_tI, ln_tI, hn_tI, hm_tI, aI_tI_n, fI_tL, fR_tL, aI_tL, aR_tL, kd_tL, ln_tL, hn_tL, hm_tL, aL_tL_n, fI_tR, fR_tR, aI_tR, aL_tR, kd_tR, ln_tR, hn_tR, hm_tR, aR_tR_n, hn_nw, hm_nw, rc400, rc403, rc404, rc405, rc407, rc409, rc420, rc440, bI_0, bI_1, bI_T, bI_F, iF_T, iF_F, br_not, le_nlt, not_true_eq_false, not_false_eq_true, and_self, and_true, true_and, and_false, false_and, or_true, true_or, or_false, false_or, ne_eq, reduceCtorEq, Nat.reduceLeDiff, Nat.reduceEqDiff, Nat.reduceLT, Nat.reduceAdd, Nat.reduceSub, Nat.reduceMul, Int32.reduceLT, Int32.reduceLE, Int32.reduceToNatClampNeg, Int32.reduceAdd, Int32.reduceSub, implies_true, forall_const, isIn_e, bit_e, lits, c] at go
            exact go
          · have e4 := e.resolve_left e3
            simp only [gI_e, gR_e, pI_e, pZ_e, pR_e, ldI_e, ldZ_e, ldL_e, ldR_e, stI_e, stZ_e, stL_e, stR_e, alN_e, nwA_e, nwO_e, dvI_e, rmI_e, oV_e, oN_e, lt_e, rZ_e, br_T, br_F, fR_sI, aI_sI, aL_sI, aR_sI, kd_sI, ln_sI, hn_sI, hm_sI, fI_sI_n, fI_sR, aI_sR, aL_sR, aR_sR, kd_sR, ln_sR, hn_sR, hm_sR, fR_sR_n, fI_tI, fR_tI, aL_tI, aR_tI, kd_tI, ln_tI, hn_tI, hm_tI, aI_tI_n, fI_tL, fR_tL, aI_tL, aR_tL, kd_tL, ln_tL, hn_tL, hm_tL, aL_tL_n, fI_tR, fR_tR, aI_tR, aL_tR, kd_tR, ln_tR, hn_tR, hm_tR, aR_tR_n, hn_nw, hm_nw, rc400, rc403, rc404, rc405, rc407, rc409, rc420, rc440, bI_0, bI_1, bI_T, bI_F, iF_T, iF_F, br_not, le_nlt, not_true_eq_false, not_false_eq_true, and_self, and_true, true_and, and_false, false_and, or_true, true_or, or_false, false_or, ne_eq, reduceCtorEq, Nat.reduceLeDiff, Nat.reduceEqDiff, Nat.reduceLT, Nat.reduceAdd, Nat.reduceSub, Nat.reduceMul, Int32.reduceLT, Int32.reduceLE, Int32.reduceToNatClampNeg, Int32.reduceAdd, Int32.reduceSub, implies_true, forall_const, isIn_e, bit_e, lits, hA, hR.2.1.1, c, d, e3, e4]
            simp only [gI_e, gR_e, pI_e, pZ_e, pR_e, ldI_e, ldZ_e, ldL_e, ldR_e, stI_e, stZ_e, stL_e, stR_e, alN_e, nwA_e, nwO_e, dvI_e, rmI_e, oV_e, oN_e, lt_e, rZ_e, br_T, br_F, fR_sI, aI_sI, aL_sI, aR_sI, kd_sI, ln_sI, hn_sI, hm_sI, fI_sI_n, fI_sR, aI_sR, aL_sR, aR_sR, kd_sR, ln_sR, hn_sR, hm_sR, fR_sR_n, fI_tI, fR_tI, aL_tI, aR_tI, kd_tI, ln_tI, hn_tI, hm_tI, aI_tI_n, fI_tL, fR_tL, aI_tL, aR_tL, kd_tL, ln_tL, hn_tL, hm_tL, aL_tL_n, fI_tR, fR_tR, aI_tR, aL_tR, kd_tR, ln_tR, hn_tR, hm_tR, aR_tR_n, hn_nw, hm_nw, rc400, rc403, rc404, rc405, rc407, rc409, rc420, rc440, bI_0, bI_1, bI_T, bI_F, iF_T, iF_F, br_not, le_nlt, not_true_eq_false, not_false_eq_true, and_self, and_true, true_and, and_false, false_and, or_true, true_or, or_false, false_or, ne_eq, reduceCtorEq, Nat.reduceLeDiff, Nat.reduceEqDiff, Nat.reduceLT, Nat.reduceAdd, Nat.reduceSub, Nat.reduceMul, Int32.reduceLT, Int32.reduceLE, Int32.reduceToNatClampNeg, Int32.reduceAdd, Int32.reduceSub, implies_true, forall_const, isIn_e, bit_e, lits, c] at go
            exact go
        · rw [iF_n (fun u => e u.2), Int32.add_zero] at hK
          have e3 : ¬ k = 3 := fun u => e (Or.inl u)
          have e4 : ¬ aI h 123 (m 123) i = k := fun u => e (Or.inr u)
          simp only [gI_e, gR_e, pI_e, pZ_e, pR_e, ldI_e, ldZ_e, ldL_e, ldR_e, stI_e, stZ_e, stL_e, stR_e, alN_e, nwA_e, nwO_e, dvI_e, rmI_e, oV_e, oN_e, lt_e, rZ_e, br_T, br_F, fR_sI, aI_sI, aL_sI, aR_sI, kd_sI, ln_sI, hn_sI, hm_sI, fI_sI_n, fI_sR, aI_sR, aL_sR, aR_sR, kd_sR, ln_sR, hn_sR, hm_sR, fR_sR_n, fI_tI, fR_tI, aL_tI, aR_tI, kd_tI, ln_tI, hn_tI, hm_tI, aI_tI_n, fI_tL, fR_tL, aI_tL, aR_tL, kd_tL, ln_tL, hn_tL, hm_tL, aL_tL_n, fI_tR, fR_tR, aI_tR, aL_tR, kd_tR, ln_tR, hn_tR, hm_tR, aR_tR_n, hn_nw, hm_nw, rc400, rc403, rc404, rc405, rc407, rc409, rc420, rc440, bI_0, bI_1, bI_T, bI_F, iF_T, iF_F, br_not, le_nlt, not_true_eq_false, not_false_eq_true, and_self, and_true, true_and, and_false, false_and, or_true, true_or, or_false, false_or, ne_eq, reduceCtorEq, Nat.reduceLeDiff, Nat.reduceEqDiff, Nat.reduceLT, Nat.reduceAdd, Nat.reduceSub, Nat.reduceMul, Int32.reduceLT, Int32.reduceLE, Int32.reduceToNatClampNeg, Int32.reduceAdd, Int32.reduceSub, implies_true, forall_const, isIn_e, bit_e, lits, hA, hB, hC, hf, hn, hn1, hp, ha, hp1, ha1, placeAt_e hJ, askAt_e hJ, modelAt_e hJ, shelfAt_e hJ, isShelf_e, isGroup_e, isAsked_e, rZ_bI, dec_none, dec_s, dec_1, lt_e, bI_T, bI_F, bI_0, bI_1, Int32.add_zero, Int32.zero_add, if_true, if_false, Option.some.injEq, lt_irr, iF_T, iF_F, c, d, e3, e4]
          exact hK
      · rw [iF_n (fun u => d u.1), Int32.add_zero] at hK
        simp only [gI_e, gR_e, pI_e, pZ_e, pR_e, ldI_e, ldZ_e, ldL_e, ldR_e, stI_e, stZ_e, stL_e, stR_e, alN_e, nwA_e, nwO_e, dvI_e, rmI_e, oV_e, oN_e, lt_e, rZ_e, br_T, br_F, fR_sI, aI_sI, aL_sI, aR_sI, kd_sI, ln_sI, hn_sI, hm_sI, fI_sI_n, fI_sR, aI_sR, aL_sR, aR_sR, kd_sR, ln_sR, hn_sR, hm_sR, fR_sR_n, fI_tI, fR_tI, aL_tI, aR_tI, kd_tI, ln_tI, hn_tI, hm_tI, aI_tI_n, fI_tL, fR_tL, aI_tL, aR_tL, kd_tL, ln_tL, hn_tL, hm_tL, aL_tL_n, fI_tR, fR_tR, aI_tR, aL_tR, kd_tR, ln_tR, hn_tR, hm_tR, aR_tR_n, hn_nw, hm_nw, rc400, rc403, rc404, rc405, rc407, rc409, rc420, rc440, bI_0, bI_1, bI_T, bI_F, iF_T, iF_F, br_not, le_nlt, not_true_eq_false, not_false_eq_true, and_self, and_true, true_and, and_false, false_and, or_true, true_or, or_false, false_or, ne_eq, reduceCtorEq, Nat.reduceLeDiff, Nat.reduceEqDiff, Nat.reduceLT, Nat.reduceAdd, Nat.reduceSub, Nat.reduceMul, Int32.reduceLT, Int32.reduceLE, Int32.reduceToNatClampNeg, Int32.reduceAdd, Int32.reduceSub, implies_true, forall_const, isIn_e, bit_e, lits, hA, hB, hC, hf, hn, hn1, hp, ha, hp1, ha1, placeAt_e hJ, askAt_e hJ, modelAt_e hJ, shelfAt_e hJ, isShelf_e, isGroup_e, isAsked_e, rZ_bI, dec_none, dec_s, dec_1, lt_e, c, d]
        exact hK
    · intro K
      unfold b_X11_count_25
      simp only [gI_e, gR_e, pI_e, pZ_e, pR_e, ldI_e, ldZ_e, ldL_e, ldR_e, stI_e, stZ_e, stL_e, stR_e, alN_e, nwA_e, nwO_e, dvI_e, rmI_e, oV_e, oN_e, lt_e, rZ_e, br_T, br_F, fR_sI, aI_sI, aL_sI, aR_sI, kd_sI, ln_sI, hn_sI, hm_sI, fI_sI_n, fI_sR, aI_sR, aL_sR, aR_sR, kd_sR, ln_sR, hn_sR, hm_sR, fR_sR_n, fI_tI, fR_tI, aL_tI, aR_tI, kd_tI, ln_tI, hn_tI, hm_tI, aI_tI_n, fI_tL, fR_tL, aI_tL, aR_tL, kd_tL, ln_tL, hn_tL, hm_tL, aL_tL_n, fI_tR, fR_tR, aI_tR, aL_tR, kd_tR, ln_tR, hn_tR, hm_tR, aR_tR_n, hn_nw, hm_nw, rc400, rc403, rc404, rc405, rc407, rc409, rc420, rc440, bI_0, bI_1, bI_T, bI_F, iF_T, iF_F, br_not, le_nlt, not_true_eq_false, not_false_eq_true, and_self, and_true, true_and, and_false, false_and, or_true, true_or, or_false, false_or, ne_eq, reduceCtorEq, Nat.reduceLeDiff, Nat.reduceEqDiff, Nat.reduceLT, Nat.reduceAdd, Nat.reduceSub, Nat.reduceMul, Int32.reduceLT, Int32.reduceLE, Int32.reduceToNatClampNeg, Int32.reduceAdd, Int32.reduceSub, implies_true, forall_const, isIn_e, bit_e, lits, hA, hB, hC, hf, hn, hn1, hp, ha, hp1, ha1, placeAt_e hJ, askAt_e hJ, modelAt_e hJ, shelfAt_e hJ, isShelf_e, isGroup_e, isAsked_e, rZ_bI, dec_none, dec_s, dec_1, lt_e, lt_irr]
      first | exact hQ _ hJ.jj | exact ⟨rfl, hQ _ hJ.jj⟩
end MID
