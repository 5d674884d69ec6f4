theorem hb_1 {k i : Nat} (hk : k < 65536) (hi : i < 32) : ((nI k) >>> (nI i &&& 31)) &&& 1 = bI (k.testBit i = true) := by
  have e := hb_iff (nI k) hi
  rw [tb_nI (show k < 2 ^ 32 by omega)] at e
  obtain ⟨j, hj, ej⟩ := pk_andE ((nI k) >>> (nI i &&& 31)) (m := 1) 1 (by decide)
  by_cases t : k.testBit i = true
  · rw [bI_y t, ej]
    have : ¬ j = 0 := by
      intro z0
      rw [ej, z0] at e
      exact absurd t (e.mp rfl)
    have : j = 1 := by omega
    rw [this]
    rfl
  · rw [bI_n t]
    exact e.mpr t
def reF (f : Nat) : Bool := f == 1482
def reK (k : Nat) : Bool := k == 168
theorem re_bF : ∀ f, isBf f = false → reF f = false := by
  intro k q
  unfold isBf isSf at q
  unfold reF
  simp at q ⊢
  omega
theorem re_bK : ∀ k, isBk k = false → reK k = false := by
  intro k q
  unfold isBk isSk at q
  unfold reK
  simp at q ⊢
  omega
section SETS
variable {x y b0 s0 np na nm nr ne : Nat} {g : Nat → Nat → Nat} {m : Nat → Nat} {h h1 : Hp} {F K : Nat → Bool}
/-- nobody in a set clashes with one before it -/
def pcD (h : Hp) (m : Nat → Nat) (W : List Nat) (k p : Nat) : Prop := ∀ i, i < p → k.testBit i = true → ∀ j, j < i → k.testBit j = true → ¬ clP h m (W.getD i 0) (W.getD j 0)
theorem pcD_e (hW : JW y np na nm nr ne m h) {W : List Nat} (w16 : ∀ i, i < W.length → W.getD i 0 < 16) {k : Nat} (hk : k < 65536) : pcD h m W k W.length ↔ pcP h m W (tb (nI k)) := by
  have sy : ∀ a b, a < 16 → b < 16 → clP h m a b = clP h m b a := fun a b ha hb => by unfold clP; rw [hW.w_csy a b ha hb]
  have t : ∀ i, tb (nI k) i = (k.testBit i = true) := fun i => tb_nI (by omega)
  constructor
  · intro z i hi a j hj b c d
    rw [t] at a c
    rcases Nat.lt_or_gt_of_ne b with w | w
    · exact z i hi a j w c d
    · rw [sy _ _ (w16 i hi) (w16 j hj)] at d
      exact z j hj c i w a d
  · intro z i hi a j hj b
    exact z i hi (by rw [t]; exact a) j (by omega) (by omega) (by rw [t]; exact b)
theorem sets_e (hR : RJ y np na nm nr ne m h) {N : Nat} (hN : N ≤ 10) {C : Nat → Nat} (hC : ∀ i, i < N → C i < 128 ∧ aI h 171 (m 171) i = nI (C i)) {S D : Nat → Int32} (hS : ∀ i, i < N → aI h 169 (m 169) i = S i) (hD : ∀ i, i < N → aI h 170 (m 170) i = D i) {W : List Nat} (hl : W.length = N) (hw : ∀ i, i < N → W.getD i 0 = C i / 8) (l2 : Int32) (Q : Int32 → Hp → Prop) (hQ : ∀ h', eqX reF reK h h' → fI h' 1482 y = nI N → (∀ i, i < N → aI h' 168 (m 168) i = iF ((bfV (fun k => ¬ l2 < nI (pop k) ∧ pcP h m W (tb (nI k))) (tgV S N) (2 ^ N)).2.testBit i = true) (D i) 0) → Q (bfV (fun k => ¬ l2 < nI (pop k) ∧ pcP h m W (tb (nI k))) (tgV S N) (2 ^ N)).1 h') : l_X11_best_213 (some y) l2 (nI N) 0 0 1 h Q := by
  have hA := hR.1
  unfold JM at hA
  have hW := hR.2.2.2
  have pw := pow12 (show N ≤ 12 by omega)
  have pp := Nat.two_pow_pos N
  obtain ⟨al1, al2⟩ := all_e (show N ≤ 12 by omega)
  have w16 : ∀ i, i < W.length → W.getD i 0 < 16 := by
    intro i hi
    rw [hl] at hi
    rw [hw i hi]
    have := (hC i hi).1
    omega
  have Ble := bfV_le (fun k => ¬ l2 < nI (pop k) ∧ pcP h m W (tb (nI k))) (tgV S N) (2 ^ N)
  generalize hB2 : bfV (fun k => ¬ l2 < nI (pop k) ∧ pcP h m W (tb (nI k))) (tgV S N) = B at *
  have Bs : ∀ k, B (k + 1) = iF ((¬ l2 < nI (pop k) ∧ pcP h m W (tb (nI k))) ∧ (B k).1 < tgV S N k) (tgV S N k, k) (B k) := by
    intro k
    rw [← hB2]
    exact bfV_s _ _ k
  have B0 : B 0 = (0, 0) := by rw [← hB2]; rfl
  have T0 : tgV S N 0 = 0 := by
    unfold tgV
    exact acI_0 (fun i _ => iF_n (by rw [Nat.zero_testBit]; decide) _ _)
  have B1 : B 1 = (0, 0) := by
    rw [Bs 0, B0, T0]
    exact iF_n (fun w => absurd w.2 (by decide)) _ _
  unfold l_X11_best_213
  refine Lo.run (2 ^ N - 1) (fun t => (nI (B (t + 1)).2, (B (t + 1)).1, nI (t + 1))) (fun _ => h) ?_ ?_ (by rw [B1]; rfl) rfl
  · intro t ht K1 hK
    have ek : t + 1 < 2 ^ N := by omega
    generalize hk : t + 1 = k at *
    have bs := Bs k
    have c := cnF ek pw (by decide)
    unfold b_X11_best_213 n_X11_best_361
    have skip : ¬ ((¬ l2 < nI (pop k) ∧ pcP h m W (tb (nI k))) ∧ (B k).1 < tgV S N k) → K1 (nI (B k).2, (B k).1, nI (k + 1)) h := by
      intro w
      rw [iF_n w] at bs
      rw [bs] at hK
      exact hK
    simp (config := {decide := true}) only [gI_e, gR_e, pI_e, pZ_e, pR_e, ldI_e, ldZ_e, ldL_e, ldR_e, stI_e, stZ_e, stL_e, stR_e, alN_e, nwA_e, nwO_e, dvI_e, rmI_e, oV_e, oN_e, lt_e, rZ_e, br_T, br_F, fR_sI, aI_sI, aL_sI, aR_sI, kd_sI, ln_sI, hn_sI, hm_sI, fI_sI_n, fI_sR, aI_sR, aL_sR, aR_sR, kd_sR, ln_sR, hn_sR, hm_sR, fR_sR_n, fI_tI, fR_tI, aL_tI, aR_tI, kd_tI, ln_tI, hn_tI, hm_tI, aI_tI_n, fI_tL, fR_tL, aI_tL, aR_tL, kd_tL, ln_tL, hn_tL, hm_tL, aL_tL_n, fI_tR, fR_tR, aI_tR, aL_tR, kd_tR, ln_tR, hn_tR, hm_tR, aR_tR_n, hn_nw, hm_nw, rc400, rc403, rc404, rc405, rc407, rc409, rc420, rc440, bI_0, bI_1, bI_T, bI_F, iF_T, iF_F, br_not, le_nlt, not_true_eq_false, not_false_eq_true, and_self, and_true, true_and, and_false, false_and, or_true, true_or, or_false, false_or, ne_eq, reduceCtorEq, Nat.reduceLeDiff, Nat.reduceEqDiff, Nat.reduceLT, Nat.reduceAdd, Nat.reduceSub, Nat.reduceMul, Int32.reduceLT, Int32.reduceLE, Int32.reduceToNatClampNeg, Int32.reduceAdd, Int32.reduceSub, implies_true, forall_const, isIn_e, bit_e, lits, al2, c]
    refine bits_e k (by omega) _ _ ?_
    by_cases a : l2 < nI (pop k)
    · have := skip (fun w => w.1.1 a)
      simp (config := {decide := true}) only [gI_e, gR_e, pI_e, pZ_e, pR_e, ldI_e, ldZ_e, ldL_e, ldR_e, stI_e, stZ_e, stL_e, stR_e, alN_e, nwA_e, nwO_e, dvI_e, rmI_e, oV_e, oN_e, lt_e, rZ_e, br_T, br_F, fR_sI, aI_sI, aL_sI, aR_sI, kd_sI, ln_sI, hn_sI, hm_sI, fI_sI_n, fI_sR, aI_sR, aL_sR, aR_sR, kd_sR, ln_sR, hn_sR, hm_sR, fR_sR_n, fI_tI, fR_tI, aL_tI, aR_tI, kd_tI, ln_tI, hn_tI, hm_tI, aI_tI_n, fI_tL, fR_tL, aI_tL, aR_tL, kd_tL, ln_tL, hn_tL, hm_tL, aL_tL_n, fI_tR, fR_tR, aI_tR, aL_tR, kd_tR, ln_tR, hn_tR, hm_tR, aR_tR_n, hn_nw, hm_nw, rc400, rc403, rc404, rc405, rc407, rc409, rc420, rc440, bI_0, bI_1, bI_T, bI_F, iF_T, iF_F, br_not, le_nlt, not_true_eq_false, not_false_eq_true, and_self, and_true, true_and, and_false, false_and, or_true, true_or, or_false, false_or, ne_eq, reduceCtorEq, Nat.reduceLeDiff, Nat.reduceEqDiff, Nat.reduceLT, Nat.reduceAdd, Nat.reduceSub, Nat.reduceMul, Int32.reduceLT, Int32.reduceLE, Int32.reduceToNatClampNeg, Int32.reduceAdd, Int32.reduceSub, implies_true, forall_const, isIn_e, bit_e, lits, a, c]
      exact this
    simp (config := {decide := true}) only [gI_e, gR_e, pI_e, pZ_e, pR_e, ldI_e, ldZ_e, ldL_e, ldR_e, stI_e, stZ_e, stL_e, stR_e, alN_e, nwA_e, nwO_e, dvI_e, rmI_e, oV_e, oN_e, lt_e, rZ_e, br_T, br_F, fR_sI, aI_sI, aL_sI, aR_sI, kd_sI, ln_sI, hn_sI, hm_sI, fI_sI_n, fI_sR, aI_sR, aL_sR, aR_sR, kd_sR, ln_sR, hn_sR, hm_sR, fR_sR_n, fI_tI, fR_tI, aL_tI, aR_tI, kd_tI, ln_tI, hn_tI, hm_tI, aI_tI_n, fI_tL, fR_tL, aI_tL, aR_tL, kd_tL, ln_tL, hn_tL, hm_tL, aL_tL_n, fI_tR, fR_tR, aI_tR, aL_tR, kd_tR, ln_tR, hn_tR, hm_tR, aR_tR_n, hn_nw, hm_nw, rc400, rc403, rc404, rc405, rc407, rc409, rc420, rc440, bI_0, bI_1, bI_T, bI_F, iF_T, iF_F, br_not, le_nlt, not_true_eq_false, not_false_eq_true, and_self, and_true, true_and, and_false, false_and, or_true, true_or, or_false, false_or, ne_eq, reduceCtorEq, Nat.reduceLeDiff, Nat.reduceEqDiff, Nat.reduceLT, Nat.reduceAdd, Nat.reduceSub, Nat.reduceMul, Int32.reduceLT, Int32.reduceLE, Int32.reduceToNatClampNeg, Int32.reduceAdd, Int32.reduceSub, implies_true, forall_const, isIn_e, bit_e, lits, a]
    unfold l_X11_best_242
    refine Lo.run N (fun p => (acI (fun i => iF (k.testBit i = true) (S i) 0) p, bI (pcD h m W k p), nI p)) (fun _ => h) ?_ ?_ (by rw [bI_y (show pcD h m W k 0 from fun i hi => absurd hi (Nat.not_lt_zero _))]; rfl) rfl
    · intro p hp K2 hK2
      have cp := cnF hp hN (by decide)
      have hb := hb_1 (show k < 65536 by omega) (show p < 32 by omega)
      have asu : acI (fun i => iF (k.testBit i = true) (S i) 0) (p + 1) = acI (fun i => iF (k.testBit i = true) (S i) 0) p + iF (k.testBit p = true) (S p) 0 := rfl
      rw [asu] at hK2
      unfold b_X11_best_242 n_X11_best_335
      by_cases t1 : k.testBit p = true
      rotate_left
      · rw [bI_n t1] at hb
        rw [iF_n t1, Int32.add_zero] at hK2
        have e1 : pcD h m W k (p + 1) = pcD h m W k p := propext ⟨fun z i hi => z i (by omega), fun z i hi a => by
          by_cases v : i = p
          · rw [v] at a; exact absurd a t1
          · exact z i (by omega) a⟩
        rw [e1] at hK2
        simp (config := {decide := true}) only [gI_e, gR_e, pI_e, pZ_e, pR_e, ldI_e, ldZ_e, ldL_e, ldR_e, stI_e, stZ_e, stL_e, stR_e, alN_e, nwA_e, nwO_e, dvI_e, rmI_e, oV_e, oN_e, lt_e, rZ_e, br_T, br_F, fR_sI, aI_sI, aL_sI, aR_sI, kd_sI, ln_sI, hn_sI, hm_sI, fI_sI_n, fI_sR, aI_sR, aL_sR, aR_sR, kd_sR, ln_sR, hn_sR, hm_sR, fR_sR_n, fI_tI, fR_tI, aL_tI, aR_tI, kd_tI, ln_tI, hn_tI, hm_tI, aI_tI_n, fI_tL, fR_tL, aI_tL, aR_tL, kd_tL, ln_tL, hn_tL, hm_tL, aL_tL_n, fI_tR, fR_tR, aI_tR, aL_tR, kd_tR, ln_tR, hn_tR, hm_tR, aR_tR_n, hn_nw, hm_nw, rc400, rc403, rc404, rc405, rc407, rc409, rc420, rc440, bI_0, bI_1, bI_T, bI_F, iF_T, iF_F, br_not, le_nlt, not_true_eq_false, not_false_eq_true, and_self, and_true, true_and, and_false, false_and, or_true, true_or, or_false, false_or, ne_eq, reduceCtorEq, Nat.reduceLeDiff, Nat.reduceEqDiff, Nat.reduceLT, Nat.reduceAdd, Nat.reduceSub, Nat.reduceMul, Int32.reduceLT, Int32.reduceLE, Int32.reduceToNatClampNeg, Int32.reduceAdd, Int32.reduceSub, implies_true, forall_const, isIn_e, bit_e, lits, cp, hb]
        exact hK2
      rw [bI_y t1] at hb
      rw [iF_y t1] at hK2
      simp (config := {decide := true}) only [gI_e, gR_e, pI_e, pZ_e, pR_e, ldI_e, ldZ_e, ldL_e, ldR_e, stI_e, stZ_e, stL_e, stR_e, alN_e, nwA_e, nwO_e, dvI_e, rmI_e, oV_e, oN_e, lt_e, rZ_e, br_T, br_F, fR_sI, aI_sI, aL_sI, aR_sI, kd_sI, ln_sI, hn_sI, hm_sI, fI_sI_n, fI_sR, aI_sR, aL_sR, aR_sR, kd_sR, ln_sR, hn_sR, hm_sR, fR_sR_n, fI_tI, fR_tI, aL_tI, aR_tI, kd_tI, ln_tI, hn_tI, hm_tI, aI_tI_n, fI_tL, fR_tL, aI_tL, aR_tL, kd_tL, ln_tL, hn_tL, hm_tL, aL_tL_n, fI_tR, fR_tR, aI_tR, aL_tR, kd_tR, ln_tR, hn_tR, hm_tR, aR_tR_n, hn_nw, hm_nw, rc400, rc403, rc404, rc405, rc407, rc409, rc420, rc440, bI_0, bI_1, bI_T, bI_F, iF_T, iF_F, br_not, le_nlt, not_true_eq_false, not_false_eq_true, and_self, and_true, true_and, and_false, false_and, or_true, true_or, or_false, false_or, ne_eq, reduceCtorEq, Nat.reduceLeDiff, Nat.reduceEqDiff, Nat.reduceLT, Nat.reduceAdd, Nat.reduceSub, Nat.reduceMul, Int32.reduceLT, Int32.reduceLE, Int32.reduceToNatClampNeg, Int32.reduceAdd, Int32.reduceSub, implies_true, forall_const, isIn_e, bit_e, lits, hA, cp, hb, hS p hp]
      unfold l_X11_best_276
      refine Lo.run p (fun o => (bI (pcD h m W k p ∧ ∀ j, j < o → k.testBit j = true → ¬ clP h m (W.getD p 0) (W.getD j 0)), nI o)) (fun _ => h) ?_ ?_ ?_ rfl
      · intro o ho K3 hK3
        have co := cnF ho (show p ≤ 10 by omega) (by decide)
        have hbo := hb_1 (show k < 65536 by omega) (show o < 32 by omega)
        unfold b_X11_best_276 n_X11_best_329
        by_cases t2 : k.testBit o = true
        rotate_left
        · rw [bI_n t2] at hbo
          have e1 : (pcD h m W k p ∧ ∀ j, j < o + 1 → k.testBit j = true → ¬ clP h m (W.getD p 0) (W.getD j 0)) = (pcD h m W k p ∧ ∀ j, j < o → k.testBit j = true → ¬ clP h m (W.getD p 0) (W.getD j 0)) := propext ⟨fun z => ⟨z.1, fun j hj => z.2 j (by omega)⟩, fun z => ⟨z.1, fun j hj a => by
            by_cases v : j = o
            · rw [v] at a; exact absurd a t2
            · exact z.2 j (by omega) a⟩⟩
          rw [e1] at hK3
          simp (config := {decide := true}) only [gI_e, gR_e, pI_e, pZ_e, pR_e, ldI_e, ldZ_e, ldL_e, ldR_e, stI_e, stZ_e, stL_e, stR_e, alN_e, nwA_e, nwO_e, dvI_e, rmI_e, oV_e, oN_e, lt_e, rZ_e, br_T, br_F, fR_sI, aI_sI, aL_sI, aR_sI, kd_sI, ln_sI, hn_sI, hm_sI, fI_sI_n, fI_sR, aI_sR, aL_sR, aR_sR, kd_sR, ln_sR, hn_sR, hm_sR, fR_sR_n, fI_tI, fR_tI, aL_tI, aR_tI, kd_tI, ln_tI, hn_tI, hm_tI, aI_tI_n, fI_tL, fR_tL, aI_tL, aR_tL, kd_tL, ln_tL, hn_tL, hm_tL, aL_tL_n, fI_tR, fR_tR, aI_tR, aL_tR, kd_tR, ln_tR, hn_tR, hm_tR, aR_tR_n, hn_nw, hm_nw, rc400, rc403, rc404, rc405, rc407, rc409, rc420, rc440, bI_0, bI_1, bI_T, bI_F, iF_T, iF_F, br_not, le_nlt, not_true_eq_false, not_false_eq_true, and_self, and_true, true_and, and_false, false_and, or_true, true_or, or_false, false_or, ne_eq, reduceCtorEq, Nat.reduceLeDiff, Nat.reduceEqDiff, Nat.reduceLT, Nat.reduceAdd, Nat.reduceSub, Nat.reduceMul, Int32.reduceLT, Int32.reduceLE, Int32.reduceToNatClampNeg, Int32.reduceAdd, Int32.reduceSub, implies_true, forall_const, isIn_e, bit_e, lits, co, hbo]
          exact hK3
        rw [bI_y t2] at hbo
        obtain ⟨c1, c2⟩ := hC p hp
        obtain ⟨d1, d2⟩ := hC o (by omega)
        have v1 := div8_e (C p) c1
        have v2 := div8_e (C o) d1
        have ix : (16 : Int32) * nI (C p / 8) + nI (C o / 8) = nI (16 * (C p / 8) + C o / 8) := by
          rw [show (16 : Int32) = nI 16 from rfl, pk_mul, nI_add]
        have cx := cnF (show 16 * (C p / 8) + C o / 8 < 256 by omega) (Nat.le_refl 256) (by decide)
        have z8 : ¬ (8 : Int32) = 0 := by decide
        have h01 := hW.w_cla (16 * (C p / 8) + C o / 8) (by omega)
        by_cases t3 : clP h m (W.getD p 0) (W.getD o 0)
        · have no : ¬ (pcD h m W k p ∧ ∀ j, j < o + 1 → k.testBit j = true → ¬ clP h m (W.getD p 0) (W.getD j 0)) := fun z => z.2 o (by omega) t2 t3
          rw [bI_n no] at hK3
          have t4 : aI h 204 (m 204) (16 * (C p / 8) + C o / 8) = 1 := by
            rw [hw p hp, hw o (by omega)] at t3
            exact t3
          simp (config := {decide := true}) only [gI_e, gR_e, pI_e, pZ_e, pR_e, ldI_e, ldZ_e, ldL_e, ldR_e, stI_e, stZ_e, stL_e, stR_e, alN_e, nwA_e, nwO_e, dvI_e, rmI_e, oV_e, oN_e, lt_e, rZ_e, br_T, br_F, fR_sI, aI_sI, aL_sI, aR_sI, kd_sI, ln_sI, hn_sI, hm_sI, fI_sI_n, fI_sR, aI_sR, aL_sR, aR_sR, kd_sR, ln_sR, hn_sR, hm_sR, fR_sR_n, fI_tI, fR_tI, aL_tI, aR_tI, kd_tI, ln_tI, hn_tI, hm_tI, aI_tI_n, fI_tL, fR_tL, aI_tL, aR_tL, kd_tL, ln_tL, hn_tL, hm_tL, aL_tL_n, fI_tR, fR_tR, aI_tR, aL_tR, kd_tR, ln_tR, hn_tR, hm_tR, aR_tR_n, hn_nw, hm_nw, rc400, rc403, rc404, rc405, rc407, rc409, rc420, rc440, bI_0, bI_1, bI_T, bI_F, iF_T, iF_F, br_not, le_nlt, not_true_eq_false, not_false_eq_true, and_self, and_true, true_and, and_false, false_and, or_true, true_or, or_false, false_or, ne_eq, reduceCtorEq, Nat.reduceLeDiff, Nat.reduceEqDiff, Nat.reduceLT, Nat.reduceAdd, Nat.reduceSub, Nat.reduceMul, Int32.reduceLT, Int32.reduceLE, Int32.reduceToNatClampNeg, Int32.reduceAdd, Int32.reduceSub, implies_true, forall_const, isIn_e, bit_e, lits, hA, cp, co, hbo, c2, d2, v1, v2, z8, ix, cx, t4]
          exact hK3
        · have e1 : (pcD h m W k p ∧ ∀ j, j < o + 1 → k.testBit j = true → ¬ clP h m (W.getD p 0) (W.getD j 0)) = (pcD h m W k p ∧ ∀ j, j < o → k.testBit j = true → ¬ clP h m (W.getD p 0) (W.getD j 0)) := propext ⟨fun z => ⟨z.1, fun j hj => z.2 j (by omega)⟩, fun z => ⟨z.1, fun j hj a => by
            by_cases v : j = o
            · rw [v]; exact t3
            · exact z.2 j (by omega) a⟩⟩
          rw [e1] at hK3
          have t4 : aI h 204 (m 204) (16 * (C p / 8) + C o / 8) = 0 := by
            refine h01.resolve_right (fun w => t3 ?_)
            rw [hw p hp, hw o (by omega)]
            exact w
          simp (config := {decide := true}) only [gI_e, gR_e, pI_e, pZ_e, pR_e, ldI_e, ldZ_e, ldL_e, ldR_e, stI_e, stZ_e, stL_e, stR_e, alN_e, nwA_e, nwO_e, dvI_e, rmI_e, oV_e, oN_e, lt_e, rZ_e, br_T, br_F, fR_sI, aI_sI, aL_sI, aR_sI, kd_sI, ln_sI, hn_sI, hm_sI, fI_sI_n, fI_sR, aI_sR, aL_sR, aR_sR, kd_sR, ln_sR, hn_sR, hm_sR, fR_sR_n, fI_tI, fR_tI, aL_tI, aR_tI, kd_tI, ln_tI, hn_tI, hm_tI, aI_tI_n, fI_tL, fR_tL, aI_tL, aR_tL, kd_tL, ln_tL, hn_tL, hm_tL, aL_tL_n, fI_tR, fR_tR, aI_tR, aL_tR, kd_tR, ln_tR, hn_tR, hm_tR, aR_tR_n, hn_nw, hm_nw, rc400, rc403, rc404, rc405, rc407, rc409, rc420, rc440, bI_0, bI_1, bI_T, bI_F, iF_T, iF_F, br_not, le_nlt, not_true_eq_false, not_false_eq_true, and_self, and_true, true_and, and_false, false_and, or_true, true_or, or_false, false_or, ne_eq, reduceCtorEq, Nat.reduceLeDiff, Nat.reduceEqDiff, Nat.reduceLT, Nat.reduceAdd, Nat.reduceSub, Nat.reduceMul, Int32.reduceLT, Int32.reduceLE, Int32.reduceToNatClampNeg, Int32.reduceAdd, Int32.reduceSub, implies_true, forall_const, isIn_e, bit_e, lits, hA, cp, co, hbo, c2, d2, v1, v2, z8, ix, cx, t4]
          exact hK3
      · intro K3
        have e1 : (pcD h m W k p ∧ ∀ j, j < p → k.testBit j = true → ¬ clP h m (W.getD p 0) (W.getD j 0)) = pcD h m W k (p + 1) := propext ⟨fun z i hi a j hj b => by
          by_cases v : i = p
          · rw [v] at hj ⊢
            exact z.2 j hj b
          · exact z.1 i (by omega) a j hj b, fun z => ⟨fun i hi => z i (by omega), fun j hj b => z p (by omega) t1 j hj b⟩⟩
        rw [e1]
        unfold b_X11_best_276 n_X11_best_335
        simp (config := {decide := true}) only [gI_e, gR_e, pI_e, pZ_e, pR_e, ldI_e, ldZ_e, ldL_e, ldR_e, stI_e, stZ_e, stL_e, stR_e, alN_e, nwA_e, nwO_e, dvI_e, rmI_e, oV_e, oN_e, lt_e, rZ_e, br_T, br_F, fR_sI, aI_sI, aL_sI, aR_sI, kd_sI, ln_sI, hn_sI, hm_sI, fI_sI_n, fI_sR, aI_sR, aL_sR, aR_sR, kd_sR, ln_sR, hn_sR, hm_sR, fR_sR_n, fI_tI, fR_tI, aL_tI, aR_tI, kd_tI, ln_tI, hn_tI, hm_tI, aI_tI_n, fI_tL, fR_tL, aI_tL, aR_tL, kd_tL, ln_tL, hn_tL, hm_tL, aL_tL_n, fI_tR, fR_tR, aI_tR, aL_tR, kd_tR, ln_tR, hn_tR, hm_tR, aR_tR_n, hn_nw, hm_nw, rc400, rc403, rc404, rc405, rc407, rc409, rc420, rc440, bI_0, bI_1, bI_T, bI_F, iF_T, iF_F, br_not, le_nlt, not_true_eq_false, not_false_eq_true, and_self, and_true, true_and, and_false, false_and, or_true, true_or, or_false, false_or, ne_eq, reduceCtorEq, Nat.reduceLeDiff, Nat.reduceEqDiff, Nat.reduceLT, Nat.reduceAdd, Nat.reduceSub, Nat.reduceMul, Int32.reduceLT, Int32.reduceLE, Int32.reduceToNatClampNeg, Int32.reduceAdd, Int32.reduceSub, implies_true, forall_const, isIn_e, bit_e, lits, lt_irr, cp]
        exact hK2
      · have e1 : (pcD h m W k p ∧ ∀ j, j < 0 → k.testBit j = true → ¬ clP h m (W.getD p 0) (W.getD j 0)) = pcD h m W k p := propext ⟨fun z => z.1, fun z => ⟨z, fun j hj => absurd hj (Nat.not_lt_zero _)⟩⟩
        rw [e1]
        rfl
    · intro K2
      have pe := pcD_e hW w16 (show k < 65536 by omega)
      rw [hl] at pe
      unfold b_X11_best_242 n_X11_best_361
      by_cases b : pcD h m W k N
      · have b2 := pe.mp b
        rw [bI_y b]
        by_cases d : (B k).1 < tgV S N k
        · have d2 : (B k).1 < acI (fun i => iF (k.testBit i = true) (S i) 0) N := d
          rw [iF_y ⟨⟨a, b2⟩, d⟩] at bs
          rw [bs] at hK
          simp (config := {decide := true}) only [gI_e, gR_e, pI_e, pZ_e, pR_e, ldI_e, ldZ_e, ldL_e, ldR_e, stI_e, stZ_e, stL_e, stR_e, alN_e, nwA_e, nwO_e, dvI_e, rmI_e, oV_e, oN_e, lt_e, rZ_e, br_T, br_F, fR_sI, aI_sI, aL_sI, aR_sI, kd_sI, ln_sI, hn_sI, hm_sI, fI_sI_n, fI_sR, aI_sR, aL_sR, aR_sR, kd_sR, ln_sR, hn_sR, hm_sR, fR_sR_n, fI_tI, fR_tI, aL_tI, aR_tI, kd_tI, ln_tI, hn_tI, hm_tI, aI_tI_n, fI_tL, fR_tL, aI_tL, aR_tL, kd_tL, ln_tL, hn_tL, hm_tL, aL_tL_n, fI_tR, fR_tR, aI_tR, aL_tR, kd_tR, ln_tR, hn_tR, hm_tR, aR_tR_n, hn_nw, hm_nw, rc400, rc403, rc404, rc405, rc407, rc409, rc420, rc440, bI_0, bI_1, bI_T, bI_F, iF_T, iF_F, br_not, le_nlt, not_true_eq_false, not_false_eq_true, and_self, and_true, true_and, and_false, false_and, or_true, true_or, or_false, false_or, ne_eq, reduceCtorEq, Nat.reduceLeDiff, Nat.reduceEqDiff, Nat.reduceLT, Nat.reduceAdd, Nat.reduceSub, Nat.reduceMul, Int32.reduceLT, Int32.reduceLE, Int32.reduceToNatClampNeg, Int32.reduceAdd, Int32.reduceSub, implies_true, forall_const, isIn_e, bit_e, lits, lt_irr, d2, c]
          exact hK
        · have d2 : ¬ (B k).1 < acI (fun i => iF (k.testBit i = true) (S i) 0) N := d
          have := skip (fun w => d w.2)
          simp (config := {decide := true}) only [gI_e, gR_e, pI_e, pZ_e, pR_e, ldI_e, ldZ_e, ldL_e, ldR_e, stI_e, stZ_e, stL_e, stR_e, alN_e, nwA_e, nwO_e, dvI_e, rmI_e, oV_e, oN_e, lt_e, rZ_e, br_T, br_F, fR_sI, aI_sI, aL_sI, aR_sI, kd_sI, ln_sI, hn_sI, hm_sI, fI_sI_n, fI_sR, aI_sR, aL_sR, aR_sR, kd_sR, ln_sR, hn_sR, hm_sR, fR_sR_n, fI_tI, fR_tI, aL_tI, aR_tI, kd_tI, ln_tI, hn_tI, hm_tI, aI_tI_n, fI_tL, fR_tL, aI_tL, aR_tL, kd_tL, ln_tL, hn_tL, hm_tL, aL_tL_n, fI_tR, fR_tR, aI_tR, aL_tR, kd_tR, ln_tR, hn_tR, hm_tR, aR_tR_n, hn_nw, hm_nw, rc400, rc403, rc404, rc405, rc407, rc409, rc420, rc440, bI_0, bI_1, bI_T, bI_F, iF_T, iF_F, br_not, le_nlt, not_true_eq_false, not_false_eq_true, and_self, and_true, true_and, and_false, false_and, or_true, true_or, or_false, false_or, ne_eq, reduceCtorEq, Nat.reduceLeDiff, Nat.reduceEqDiff, Nat.reduceLT, Nat.reduceAdd, Nat.reduceSub, Nat.reduceMul, Int32.reduceLT, Int32.reduceLE, Int32.reduceToNatClampNeg, Int32.reduceAdd, Int32.reduceSub, implies_true, forall_const, isIn_e, bit_e, lits, lt_irr, d2, c]
          exact this
      · rw [bI_n b]
        have := skip (fun w => b (pe.mpr w.1.2))
        simp (config := {decide := true}) only [gI_e, gR_e, pI_e, pZ_e, pR_e, ldI_e, ldZ_e, ldL_e, ldR_e, stI_e, stZ_e, stL_e, stR_e, alN_e, nwA_e, nwO_e, dvI_e, rmI_e, oV_e, oN_e, lt_e, rZ_e, br_T, br_F, fR_sI, aI_sI, aL_sI, aR_sI, kd_sI, ln_sI, hn_sI, hm_sI, fI_sI_n, fI_sR, aI_sR, aL_sR, aR_sR, kd_sR, ln_sR, hn_sR, hm_sR, fR_sR_n, fI_tI, fR_tI, aL_tI, aR_tI, kd_tI, ln_tI, hn_tI, hm_tI, aI_tI_n, fI_tL, fR_tL, aI_tL, aR_tL, kd_tL, ln_tL, hn_tL, hm_tL, aL_tL_n, fI_tR, fR_tR, aI_tR, aL_tR, kd_tR, ln_tR, hn_tR, hm_tR, aR_tR_n, hn_nw, hm_nw, rc400, rc403, rc404, rc405, rc407, rc409, rc420, rc440, bI_0, bI_1, bI_T, bI_F, iF_T, iF_F, br_not, le_nlt, not_true_eq_false, not_false_eq_true, and_self, and_true, true_and, and_false, false_and, or_true, true_or, or_false, false_or, ne_eq, reduceCtorEq, Nat.reduceLeDiff, Nat.reduceEqDiff, Nat.reduceLT, Nat.reduceAdd, Nat.reduceSub, Nat.reduceMul, Int32.reduceLT, Int32.reduceLE, Int32.reduceToNatClampNeg, Int32.reduceAdd, Int32.reduceSub, implies_true, forall_const, isIn_e, bit_e, lits, lt_irr, c]
        exact this
  · intro K1
    have ek : 2 ^ N - 1 + 1 = 2 ^ N := by omega
    show b_X11_best_213 (some y) l2 (nI N) (nI (B (2 ^ N - 1 + 1)).2) (B (2 ^ N - 1 + 1)).1 (nI (2 ^ N - 1 + 1)) h Q _
    rw [ek]
    generalize hb : (B (2 ^ N)).2 = b at *
    unfold b_X11_best_213
    simp (config := {decide := true}) only [gI_e, gR_e, pI_e, pZ_e, pR_e, ldI_e, ldZ_e, ldL_e, ldR_e, stI_e, stZ_e, stL_e, stR_e, alN_e, nwA_e, nwO_e, dvI_e, rmI_e, oV_e, oN_e, lt_e, rZ_e, br_T, br_F, fR_sI, aI_sI, aL_sI, aR_sI, kd_sI, ln_sI, hn_sI, hm_sI, fI_sI_n, fI_sR, aI_sR, aL_sR, aR_sR, kd_sR, ln_sR, hn_sR, hm_sR, fR_sR_n, fI_tI, fR_tI, aL_tI, aR_tI, kd_tI, ln_tI, hn_tI, hm_tI, aI_tI_n, fI_tL, fR_tL, aI_tL, aR_tL, kd_tL, ln_tL, hn_tL, hm_tL, aL_tL_n, fI_tR, fR_tR, aI_tR, aL_tR, kd_tR, ln_tR, hn_tR, hm_tR, aR_tR_n, hn_nw, hm_nw, rc400, rc403, rc404, rc405, rc407, rc409, rc420, rc440, bI_0, bI_1, bI_T, bI_F, iF_T, iF_F, br_not, le_nlt, not_true_eq_false, not_false_eq_true, and_self, and_true, true_and, and_false, false_and, or_true, true_or, or_false, false_or, ne_eq, reduceCtorEq, Nat.reduceLeDiff, Nat.reduceEqDiff, Nat.reduceLT, Nat.reduceAdd, Nat.reduceSub, Nat.reduceMul, Int32.reduceLT, Int32.reduceLE, Int32.reduceToNatClampNeg, Int32.reduceAdd, Int32.reduceSub, implies_true, forall_const, isIn_e, bit_e, lits, hA, al2, lt_irr]
    unfold l_X11_best_375
    refine Lo.count N (fun i s h' => eqX reF reK h h' ∧ s = nI i ∧ fI h' 1482 y = nI N ∧ ∀ j, j < i → aI h' 168 (m 168) j = iF (b.testBit j = true) (D j) 0) ?_ 0 (Nat.zero_le _) _ _ ⟨(eqX.rf h).sI rfl _ _, rfl, ?_, fun j hj => absurd hj (Nat.not_lt_zero _)⟩
    rotate_left
    · simp (config := {decide := true}) only [fI_sI_e, fR_sR_e, aI_tI_e, aL_tL_e, aR_tR_e, if_true]
    rintro i s h' hi ⟨eX, rfl, q1, q2⟩ K2 hK2
    have E := eqB_l (eqX.b re_bF re_bK eX)
    unfold b_X11_best_375 n_X11_best_409
    by_cases e : i < N
    · have ci := cnF e hN (by decide)
      have hb1 := hb_1 (show b < 65536 by omega) (show i < 32 by omega)
      have hd : aI h' 170 (m 170) i = D i := by rw [eX.2.2.2.2.2.2.1 170 rfl]; exact hD i e
      by_cases t : b.testBit i = true
      · rw [bI_y t] at hb1
        simp (config := {decide := true}) only [gI_e, gR_e, pI_e, pZ_e, pR_e, ldI_e, ldZ_e, ldL_e, ldR_e, stI_e, stZ_e, stL_e, stR_e, alN_e, nwA_e, nwO_e, dvI_e, rmI_e, oV_e, oN_e, lt_e, rZ_e, br_T, br_F, fR_sI, aI_sI, aL_sI, aR_sI, kd_sI, ln_sI, hn_sI, hm_sI, fI_sI_n, fI_sR, aI_sR, aL_sR, aR_sR, kd_sR, ln_sR, hn_sR, hm_sR, fR_sR_n, fI_tI, fR_tI, aL_tI, aR_tI, kd_tI, ln_tI, hn_tI, hm_tI, aI_tI_n, fI_tL, fR_tL, aI_tL, aR_tL, kd_tL, ln_tL, hn_tL, hm_tL, aL_tL_n, fI_tR, fR_tR, aI_tR, aL_tR, kd_tR, ln_tR, hn_tR, hm_tR, aR_tR_n, hn_nw, hm_nw, rc400, rc403, rc404, rc405, rc407, rc409, rc420, rc440, bI_0, bI_1, bI_T, bI_F, iF_T, iF_F, br_not, le_nlt, not_true_eq_false, not_false_eq_true, and_self, and_true, true_and, and_false, false_and, or_true, true_or, or_false, false_or, ne_eq, reduceCtorEq, Nat.reduceLeDiff, Nat.reduceEqDiff, Nat.reduceLT, Nat.reduceAdd, Nat.reduceSub, Nat.reduceMul, Int32.reduceLT, Int32.reduceLE, Int32.reduceToNatClampNeg, Int32.reduceAdd, Int32.reduceSub, implies_true, forall_const, isIn_e, bit_e, lits, E, hA, ci, hb1, hd]
        refine hK2 _ _ e ⟨eX.tI rfl _ _ _, rfl, ?_, ?_⟩
        · simp (config := {decide := true}) only [fR_sI, aI_sI, aL_sI, aR_sI, kd_sI, ln_sI, hn_sI, hm_sI, fI_sI_n, fI_sR, aI_sR, aL_sR, aR_sR, kd_sR, ln_sR, hn_sR, hm_sR, fR_sR_n, fI_tI, fR_tI, aL_tI, aR_tI, kd_tI, ln_tI, hn_tI, hm_tI, aI_tI_n, fI_tL, fR_tL, aI_tL, aR_tL, kd_tL, ln_tL, hn_tL, hm_tL, aL_tL_n, fI_tR, fR_tR, aI_tR, aL_tR, kd_tR, ln_tR, hn_tR, hm_tR, aR_tR_n, hn_nw, hm_nw]
          exact q1
        · intro j hj
          simp (config := {decide := true}) only [fI_sI_e, fR_sR_e, aI_tI_e, aL_tL_e, aR_tR_e, true_and]
          by_cases v : j = i
          · rw [if_pos v, v, iF_y t]
          · rw [if_neg v]
            exact q2 j (by omega)
      · rw [bI_n t] at hb1
        simp (config := {decide := true}) only [gI_e, gR_e, pI_e, pZ_e, pR_e, ldI_e, ldZ_e, ldL_e, ldR_e, stI_e, stZ_e, stL_e, stR_e, alN_e, nwA_e, nwO_e, dvI_e, rmI_e, oV_e, oN_e, lt_e, rZ_e, br_T, br_F, fR_sI, aI_sI, aL_sI, aR_sI, kd_sI, ln_sI, hn_sI, hm_sI, fI_sI_n, fI_sR, aI_sR, aL_sR, aR_sR, kd_sR, ln_sR, hn_sR, hm_sR, fR_sR_n, fI_tI, fR_tI, aL_tI, aR_tI, kd_tI, ln_tI, hn_tI, hm_tI, aI_tI_n, fI_tL, fR_tL, aI_tL, aR_tL, kd_tL, ln_tL, hn_tL, hm_tL, aL_tL_n, fI_tR, fR_tR, aI_tR, aL_tR, kd_tR, ln_tR, hn_tR, hm_tR, aR_tR_n, hn_nw, hm_nw, rc400, rc403, rc404, rc405, rc407, rc409, rc420, rc440, bI_0, bI_1, bI_T, bI_F, iF_T, iF_F, br_not, le_nlt, not_true_eq_false, not_false_eq_true, and_self, and_true, true_and, and_false, false_and, or_true, true_or, or_false, false_or, ne_eq, reduceCtorEq, Nat.reduceLeDiff, Nat.reduceEqDiff, Nat.reduceLT, Nat.reduceAdd, Nat.reduceSub, Nat.reduceMul, Int32.reduceLT, Int32.reduceLE, Int32.reduceToNatClampNeg, Int32.reduceAdd, Int32.reduceSub, implies_true, forall_const, isIn_e, bit_e, lits, E, hA, ci, hb1]
        refine hK2 _ _ e ⟨eX.tI rfl _ _ _, rfl, ?_, ?_⟩
        · simp (config := {decide := true}) only [fR_sI, aI_sI, aL_sI, aR_sI, kd_sI, ln_sI, hn_sI, hm_sI, fI_sI_n, fI_sR, aI_sR, aL_sR, aR_sR, kd_sR, ln_sR, hn_sR, hm_sR, fR_sR_n, fI_tI, fR_tI, aL_tI, aR_tI, kd_tI, ln_tI, hn_tI, hm_tI, aI_tI_n, fI_tL, fR_tL, aI_tL, aR_tL, kd_tL, ln_tL, hn_tL, hm_tL, aL_tL_n, fI_tR, fR_tR, aI_tR, aL_tR, kd_tR, ln_tR, hn_tR, hm_tR, aR_tR_n, hn_nw, hm_nw]
          exact q1
        · intro j hj
          simp (config := {decide := true}) only [fI_sI_e, fR_sR_e, aI_tI_e, aL_tL_e, aR_tR_e, true_and]
          by_cases v : j = i
          · rw [if_pos v, v, iF_n t]
          · rw [if_neg v]
            exact q2 j (by omega)
    · obtain rfl : i = N := by omega
      simp (config := {decide := true}) only [gI_e, gR_e, pI_e, pZ_e, pR_e, ldI_e, ldZ_e, ldL_e, ldR_e, stI_e, stZ_e, stL_e, stR_e, alN_e, nwA_e, nwO_e, dvI_e, rmI_e, oV_e, oN_e, lt_e, rZ_e, br_T, br_F, fR_sI, aI_sI, aL_sI, aR_sI, kd_sI, ln_sI, hn_sI, hm_sI, fI_sI_n, fI_sR, aI_sR, aL_sR, aR_sR, kd_sR, ln_sR, hn_sR, hm_sR, fR_sR_n, fI_tI, fR_tI, aL_tI, aR_tI, kd_tI, ln_tI, hn_tI, hm_tI, aI_tI_n, fI_tL, fR_tL, aI_tL, aR_tL, kd_tL, ln_tL, hn_tL, hm_tL, aL_tL_n, fI_tR, fR_tR, aI_tR, aL_tR, kd_tR, ln_tR, hn_tR, hm_tR, aR_tR_n, hn_nw, hm_nw, rc400, rc403, rc404, rc405, rc407, rc409, rc420, rc440, bI_0, bI_1, bI_T, bI_F, iF_T, iF_F, br_not, le_nlt, not_true_eq_false, not_false_eq_true, and_self, and_true, true_and, and_false, false_and, or_true, true_or, or_false, false_or, ne_eq, reduceCtorEq, Nat.reduceLeDiff, Nat.reduceEqDiff, Nat.reduceLT, Nat.reduceAdd, Nat.reduceSub, Nat.reduceMul, Int32.reduceLT, Int32.reduceLE, Int32.reduceToNatClampNeg, Int32.reduceAdd, Int32.reduceSub, implies_true, forall_const, isIn_e, bit_e, lits, lt_irr]
      exact hQ h' eX q1 q2
end SETS
