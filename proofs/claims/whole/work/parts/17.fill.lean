/-- v at n places from b on -/
def flL (h : Hp) (c a b n : Nat) (v : Int64) : Hp := (h.1, h.2.1, h.2.2.1, fun c2 q x => if c2 = c ∧ q = a ∧ b ≤ x ∧ x < b + n then v else h.2.2.2.1 c2 q x, h.2.2.2.2)
def flI (h : Hp) (c a b n : Nat) (v : Int32) : Hp := (h.1, h.2.1, fun c2 q x => if c2 = c ∧ q = a ∧ b ≤ x ∧ x < b + n then v else h.2.2.1 c2 q x, h.2.2.2)
theorem flL_0 (h : Hp) (c a b : Nat) (v : Int64) : flL h c a b 0 v = h := by
  have e : (fun c2 q x => if c2 = c ∧ q = a ∧ b ≤ x ∧ x < b + 0 then v else h.2.2.2.1 c2 q x) = h.2.2.2.1 := by
    funext c2 q x
    rw [if_neg (by omega)]
  unfold flL
  rw [e]
theorem flI_0 (h : Hp) (c a b : Nat) (v : Int32) : flI h c a b 0 v = h := by
  have e : (fun c2 q x => if c2 = c ∧ q = a ∧ b ≤ x ∧ x < b + 0 then v else h.2.2.1 c2 q x) = h.2.2.1 := by
    funext c2 q x
    rw [if_neg (by omega)]
  unfold flI
  rw [e]
theorem flL_s (h : Hp) (c a b n : Nat) (v : Int64) : tL (flL h c a b n v) c a (b + n) v = flL h c a b (n + 1) v := by
  have e : u3 (fun c2 q x => if c2 = c ∧ q = a ∧ b ≤ x ∧ x < b + n then v else h.2.2.2.1 c2 q x) c a (b + n) v = (fun c2 q x => if c2 = c ∧ q = a ∧ b ≤ x ∧ x < b + (n + 1) then v else h.2.2.2.1 c2 q x) := by
    funext c2 q x
    unfold u3
    by_cases w : c2 = c ∧ q = a ∧ x = b + n
    · rw [if_pos w, if_pos ⟨w.1, w.2.1, by omega, by omega⟩]
    · rw [if_neg w]
      by_cases u : c2 = c ∧ q = a ∧ b ≤ x ∧ x < b + n
      · simp only []
        rw [if_pos u, if_pos ⟨u.1, u.2.1, u.2.2.1, by omega⟩]
      · simp only []
        rw [if_neg u, if_neg (fun z => u ⟨z.1, z.2.1, z.2.2.1, by have : x ≠ b + n := fun k => w ⟨z.1, z.2.1, k⟩; omega⟩)]
  unfold tL flL
  rw [show (h.1, h.2.1, h.2.2.1, (fun c2 q x => if c2 = c ∧ q = a ∧ b ≤ x ∧ x < b + n then v else h.2.2.2.1 c2 q x), h.2.2.2.2).2.2.2.1 = (fun c2 q x => if c2 = c ∧ q = a ∧ b ≤ x ∧ x < b + n then v else h.2.2.2.1 c2 q x) from rfl, e]
theorem flI_s (h : Hp) (c a b n : Nat) (v : Int32) : tI (flI h c a b n v) c a (b + n) v = flI h c a b (n + 1) v := by
  have e : u3 (fun c2 q x => if c2 = c ∧ q = a ∧ b ≤ x ∧ x < b + n then v else h.2.2.1 c2 q x) c a (b + n) v = (fun c2 q x => if c2 = c ∧ q = a ∧ b ≤ x ∧ x < b + (n + 1) then v else h.2.2.1 c2 q x) := by
    funext c2 q x
    unfold u3
    by_cases w : c2 = c ∧ q = a ∧ x = b + n
    · rw [if_pos w, if_pos ⟨w.1, w.2.1, by omega, by omega⟩]
    · rw [if_neg w]
      by_cases u : c2 = c ∧ q = a ∧ b ≤ x ∧ x < b + n
      · simp only []
        rw [if_pos u, if_pos ⟨u.1, u.2.1, u.2.2.1, by omega⟩]
      · simp only []
        rw [if_neg u, if_neg (fun z => u ⟨z.1, z.2.1, z.2.2.1, by have : x ≠ b + n := fun k => w ⟨z.1, z.2.1, k⟩; omega⟩)]
  unfold tI flI
  rw [show (h.1, h.2.1, (fun c2 q x => if c2 = c ∧ q = a ∧ b ≤ x ∧ x < b + n then v else h.2.2.1 c2 q x), h.2.2.2).2.2.1 = (fun c2 q x => if c2 = c ∧ q = a ∧ b ≤ x ∧ x < b + n then v else h.2.2.1 c2 q x) from rfl, e]
theorem aL_flL_n (h : Hp) (c a b n : Nat) (v : Int64) (c2 : Nat) (hc : c2 ≠ c) : aL (flL h c a b n v) c2 = aL h c2 := funext fun _ => funext fun _ => if_neg (fun q => hc q.1)
theorem aL_flL_e (h : Hp) (c a b n : Nat) (v : Int64) (q x : Nat) : aL (flL h c a b n v) c q x = if q = a ∧ b ≤ x ∧ x < b + n then v else aL h c q x := by
  unfold aL flL
  simp
theorem aI_flI_n (h : Hp) (c a b n : Nat) (v : Int32) (c2 : Nat) (hc : c2 ≠ c) : aI (flI h c a b n v) c2 = aI h c2 := funext fun _ => funext fun _ => if_neg (fun q => hc q.1)
theorem aI_flI_e (h : Hp) (c a b n : Nat) (v : Int32) (q x : Nat) : aI (flI h c a b n v) c q x = if q = a ∧ b ≤ x ∧ x < b + n then v else aI h c q x := by
  unfold aI flI
  simp
theorem fI_flL (h : Hp) (c a b n : Nat) (v : Int64) : fI (flL h c a b n v) = fI h := rfl
theorem fR_flL (h : Hp) (c a b n : Nat) (v : Int64) : fR (flL h c a b n v) = fR h := rfl
theorem aI_flL (h : Hp) (c a b n : Nat) (v : Int64) : aI (flL h c a b n v) = aI h := rfl
theorem aR_flL (h : Hp) (c a b n : Nat) (v : Int64) : aR (flL h c a b n v) = aR h := rfl
theorem kd_flL (h : Hp) (c a b n : Nat) (v : Int64) : kd (flL h c a b n v) = kd h := rfl
theorem ln_flL (h : Hp) (c a b n : Nat) (v : Int64) : ln (flL h c a b n v) = ln h := rfl
theorem hn_flL (h : Hp) (c a b n : Nat) (v : Int64) : hn (flL h c a b n v) = hn h := rfl
theorem hm_flL (h : Hp) (c a b n : Nat) (v : Int64) : hm (flL h c a b n v) = hm h := rfl
theorem fI_flI (h : Hp) (c a b n : Nat) (v : Int32) : fI (flI h c a b n v) = fI h := rfl
theorem fR_flI (h : Hp) (c a b n : Nat) (v : Int32) : fR (flI h c a b n v) = fR h := rfl
theorem aL_flI (h : Hp) (c a b n : Nat) (v : Int32) : aL (flI h c a b n v) = aL h := rfl
theorem aR_flI (h : Hp) (c a b n : Nat) (v : Int32) : aR (flI h c a b n v) = aR h := rfl
theorem kd_flI (h : Hp) (c a b n : Nat) (v : Int32) : kd (flI h c a b n v) = kd h := rfl
theorem ln_flI (h : Hp) (c a b n : Nat) (v : Int32) : ln (flI h c a b n v) = ln h := rfl
theorem hn_flI (h : Hp) (c a b n : Nat) (v : Int32) : hn (flI h c a b n v) = hn h := rfl
theorem hm_flI (h : Hp) (c a b n : Nat) (v : Int32) : hm (flI h c a b n v) = hm h := rfl
theorem eqM.flL {h h1 : Hp} (a : eqM h h1) {k : Nat} (hk : k < 310 ∨ 399 ≤ k) (q b n : Nat) (v : Int64) : eqM h (flL h1 k q b n v) :=
  a.tr ⟨Nat.le_refl _, fun _ _ _ _ => rfl, fun _ _ _ _ => rfl, fun _ _ _ _ _ => rfl, fun k2 c q r _ => by rw [aL_flL_n _ _ _ _ _ _ _ (by omega)], fun _ _ => rfl, fun _ _ => rfl⟩
theorem fillL {h : Hp} {a n : Nat} {v : Int64} {Q : Hp → Prop} (h1 : 300 ≤ kd h a) (h2 : kd h a < 400) (hl : ln h a = n) (hn : n < 2 ^ 31) (hQ : Q (flL h (kd h a) a 0 n v)) : w_J7_fill_d0a16 (some a) v h Q := by
  unfold w_J7_fill_d0a16 n_J7_fill_d0a16_0 l_J7_fill_d0a16_6
  rw [alN_e (by omega) (fun q => absurd q (by omega)), hl]
  refine Lo.count n (fun k s h' => s = nI k ∧ h' = flL h (kd h a) a 0 k v) ?_ 0 (Nat.zero_le _) _ _ ⟨rfl, (flL_0 _ _ _ _ _).symm⟩
  rintro k s h' hk ⟨rfl, rfl⟩ K hK
  unfold b_J7_fill_d0a16_6
  by_cases e : k < n
  · have e1 : ¬ nI n ≤ nI k := fun q => by have := (nI_leI hn (by omega)).mp q; omega
    have e2 : vp_in (nI k) (ln (flL h (kd h a) a 0 k v) a) := by
      show vp_in (nI k) (ln h a)
      rw [hl]; exact vp_in_nI e hn
    rw [br_n e1, stL_e (by exact h1) (by exact h2) e2, lt_e]
    refine hK _ _ e ⟨n1 k, ?_⟩
    show tL _ (kd h a) a (nI k).toNatClampNeg v = _
    rw [nI_clamp (by omega)]
    have := flL_s h (kd h a) a 0 k v
    rwa [Nat.zero_add] at this
  · have e1 : nI n ≤ nI k := nI_le (by omega) (by omega)
    obtain rfl : k = n := by omega
    rw [br_y e1]
    exact hQ
theorem fillI {h : Hp} {a n : Nat} {v : Int32} {Q : Hp → Prop} (h1 : 100 ≤ kd h a) (h2 : kd h a < 200) (hl : ln h a = n) (hn : n < 2 ^ 31) (hQ : Q (flI h (kd h a) a 0 n v)) : w_J7_fill_53178 (some a) v h Q := by
  unfold w_J7_fill_53178 n_J7_fill_53178_0 l_J7_fill_53178_5
  rw [alN_e (by omega) (fun q => absurd q (by omega)), hl]
  refine Lo.count n (fun k s h' => s = nI k ∧ h' = flI h (kd h a) a 0 k v) ?_ 0 (Nat.zero_le _) _ _ ⟨rfl, (flI_0 _ _ _ _ _).symm⟩
  rintro k s h' hk ⟨rfl, rfl⟩ K hK
  unfold b_J7_fill_53178_5
  by_cases e : k < n
  · have e1 : ¬ nI n ≤ nI k := fun q => by have := (nI_leI hn (by omega)).mp q; omega
    have e2 : vp_in (nI k) (ln (flI h (kd h a) a 0 k v) a) := by
      show vp_in (nI k) (ln h a)
      rw [hl]; exact vp_in_nI e hn
    rw [br_n e1, stI_e (by exact h1) (by exact h2) e2, lt_e]
    refine hK _ _ e ⟨n1 k, ?_⟩
    show tI _ (kd h a) a (nI k).toNatClampNeg v = _
    rw [nI_clamp (by omega)]
    have := flI_s h (kd h a) a 0 k v
    rwa [Nat.zero_add] at this
  · have e1 : nI n ≤ nI k := nI_le (by omega) (by omega)
    obtain rfl : k = n := by omega
    rw [br_y e1]
    exact hQ
theorem rangeI {v : Int32} {k : Int32} (a : ¬ v < 0) (b : ¬ k < v) : 0 ≤ v.toInt ∧ v.toInt ≤ k.toInt := ⟨Int32.le_iff_toInt_le.mp (Int32.not_lt.mp a), Int32.le_iff_toInt_le.mp (Int32.not_lt.mp b)⟩
section K5
variable {x y b0 s0 np na nm nr ne : Nat} {g : Nat → Nat → Nat} {m : Nat → Nat} {h : Hp}
theorem rowLoop (hA : JM y m h) {k : Nat} (hk : k < 8) (Q : Int32 → Hp → Prop) (hQ : Q 1 (flL h 310 (m 310) (60 * k) 60 0)) : l_X11_row_77 (some y) (nI k) 0 h Q := by
  unfold JM at hA
  unfold l_X11_row_77
  refine Lo.count 60 (fun j s h' => s = nI j ∧ h' = flL h 310 (m 310) (60 * k) j 0) ?_ 0 (Nat.zero_le _) _ _ ⟨rfl, (flL_0 _ _ _ _ _).symm⟩
  rintro j s h' hj ⟨rfl, rfl⟩ K hK
  unfold b_X11_row_77
  by_cases e : j < 60
  · have e1 : nI j < 60 := (nI_ltI (b := 60) (by omega) (by omega)).mpr e
    have e6 := idx60 hk e
    simp only [gI_e, gR_e, pI_e, pZ_e, pR_e, ldI_e, ldZ_e, ldL_e, ldR_e, stI_e, stZ_e, stL_e, stR_e, alN_e, nwA_e, nwO_e, dvI_e, rmI_e, oV_e, oN_e, lt_e, rZ_e, br_T, br_F, fR_sI, aI_sI, aL_sI, aR_sI, kd_sI, ln_sI, hn_sI, hm_sI, fI_sI_n, fI_sR, aI_sR, aL_sR, aR_sR, kd_sR, ln_sR, hn_sR, hm_sR, fR_sR_n, fI_tI, fR_tI, aL_tI, aR_tI, kd_tI, ln_tI, hn_tI, hm_tI, aI_tI_n, fI_tL, fR_tL, aI_tL, aR_tL, kd_tL, ln_tL, hn_tL, hm_tL, aL_tL_n, fI_tR, fR_tR, aI_tR, aL_tR, kd_tR, ln_tR, hn_tR, hm_tR, aR_tR_n, hn_nw, hm_nw, rc400, rc403, rc404, rc405, rc407, rc409, rc420, rc440, bI_0, bI_1, bI_T, bI_F, iF_T, iF_F, br_not, le_nlt, not_true_eq_false, not_false_eq_true, and_self, and_true, true_and, and_false, false_and, or_true, true_or, or_false, false_or, ne_eq, reduceCtorEq, Nat.reduceLeDiff, Nat.reduceEqDiff, Nat.reduceLT, Nat.reduceAdd, Nat.reduceSub, Nat.reduceMul, Int32.reduceLT, Int32.reduceLE, Int32.reduceToNatClampNeg, Int32.reduceAdd, Int32.reduceSub, implies_true, forall_const, isIn_e, bit_e, lits, aL_flL_n, aI_flI_n, fI_flL, fR_flL, aI_flL, aR_flL, kd_flL, ln_flL, hn_flL, hm_flL, fI_flI, fR_flI, aL_flI, aR_flI, kd_flI, ln_flI, hn_flI, hm_flI, hA, e1, e6]
    exact hK _ _ e ⟨n1 j, flL_s _ _ _ _ _ _⟩
  · obtain rfl : j = 60 := by omega
    have e1 : ¬ nI 60 < 60 := by decide
    simp only [gI_e, gR_e, pI_e, pZ_e, pR_e, ldI_e, ldZ_e, ldL_e, ldR_e, stI_e, stZ_e, stL_e, stR_e, alN_e, nwA_e, nwO_e, dvI_e, rmI_e, oV_e, oN_e, lt_e, rZ_e, br_T, br_F, fR_sI, aI_sI, aL_sI, aR_sI, kd_sI, ln_sI, hn_sI, hm_sI, fI_sI_n, fI_sR, aI_sR, aL_sR, aR_sR, kd_sR, ln_sR, hn_sR, hm_sR, fR_sR_n, fI_tI, fR_tI, aL_tI, aR_tI, kd_tI, ln_tI, hn_tI, hm_tI, aI_tI_n, fI_tL, fR_tL, aI_tL, aR_tL, kd_tL, ln_tL, hn_tL, hm_tL, aL_tL_n, fI_tR, fR_tR, aI_tR, aL_tR, kd_tR, ln_tR, hn_tR, hm_tR, aR_tR_n, hn_nw, hm_nw, rc400, rc403, rc404, rc405, rc407, rc409, rc420, rc440, bI_0, bI_1, bI_T, bI_F, iF_T, iF_F, br_not, le_nlt, not_true_eq_false, not_false_eq_true, and_self, and_true, true_and, and_false, false_and, or_true, true_or, or_false, false_or, ne_eq, reduceCtorEq, Nat.reduceLeDiff, Nat.reduceEqDiff, Nat.reduceLT, Nat.reduceAdd, Nat.reduceSub, Nat.reduceMul, Int32.reduceLT, Int32.reduceLE, Int32.reduceToNatClampNeg, Int32.reduceAdd, Int32.reduceSub, implies_true, forall_const, isIn_e, bit_e, lits, e1]
    exact hQ
theorem K_row (hJ : JA x y b0 s0 np na nm nr ne g m h) (n s l : Int32) (Q : Hp → Prop) (hQ : ∀ h2, JJ x y b0 s0 m h2 → Q h2) : w_X10_row (some x) n s l h (fun r h1 => w_X11_row (some y) n s l h1 (fun r2 h2 => r = r2 ∧ Q h2)) := by
  have hA := hJ.1; unfold JM at hA; have hB := hJ.2.1; unfold JS at hB; have hC := hJ.2.2.1.1; have hR := hJ.rj; have hf := rf_l hJ; have hn := no_l hR; have hn1 := fun k v => no_l (hJ.rj1 k v); have hp := isPlace_e hR; have ha := isAsk_e hR; have hp1 := fun k v => isPlace_e (hJ.rj1 k v); have ha1 := fun k v => isAsk_e (hJ.rj1 k v)
  have hbd := hJ.2.2.1.2
  have hW := hJ.2.2.2.2.2.1
  have hD := hJ.2.2.2.2.1
  have hG := hJ.2.2.2.1
  unfold w_X10_row n_X10_row_0 w_X9_takeRow n_X9_takeRow_0 w_X11_row n_X11_row_0 n_X11_row_33
  by_cases c : vp_in n 8
  · obtain ⟨k, hk, rfl⟩ := vp_ex c
    have ek : (nI k).toNatClampNeg = k := nI_clamp (by omega)
    have q := shF hJ hk
    by_cases d1 : l < 0
    · simp only [gI_e, gR_e, pI_e, pZ_e, pR_e, ldI_e, ldZ_e, ldL_e, ldR_e, stI_e, stZ_e, stL_e, stR_e, alN_e, nwA_e, nwO_e, dvI_e, rmI_e, oV_e, oN_e, lt_e, rZ_e, br_T, br_F, fR_sI, aI_sI, aL_sI, aR_sI, kd_sI, ln_sI, hn_sI, hm_sI, fI_sI_n, fI_sR, aI_sR, aL_sR, aR_sR, kd_sR, ln_sR, hn_sR, hm_sR, fR_sR_n, fI_tI, fR_tI, aL_tI, aR_tI, kd_tI, ln_tI, hn_tI, hm_tI, aI_tI_n, fI_tL, fR_tL, aI_tL, aR_tL, kd_tL, ln_tL, hn_tL, hm_tL, aL_tL_n, fI_tR, fR_tR, aI_tR, aL_tR, kd_tR, ln_tR, hn_tR, hm_tR, aR_tR_n, hn_nw, hm_nw, rc400, rc403, rc404, rc405, rc407, rc409, rc420, rc440, bI_0, bI_1, bI_T, bI_F, iF_T, iF_F, br_not, le_nlt, not_true_eq_false, not_false_eq_true, and_self, and_true, true_and, and_false, false_and, or_true, true_or, or_false, false_or, ne_eq, reduceCtorEq, Nat.reduceLeDiff, Nat.reduceEqDiff, Nat.reduceLT, Nat.reduceAdd, Nat.reduceSub, Nat.reduceMul, Int32.reduceLT, Int32.reduceLE, Int32.reduceToNatClampNeg, Int32.reduceAdd, Int32.reduceSub, implies_true, forall_const, isIn_e, bit_e, lits, hA, hB, hC, hf, hn, hn1, hp, ha, hp1, ha1, placeAt_e hJ, askAt_e hJ, modelAt_e hJ, shelfAt_e hJ, isShelf_e, isGroup_e, isAsked_e, rZ_bI, dec_none, dec_s, dec_1, lt_e, c, ek, q, d1]
      exact hQ _ (hJ.ref 4 (by decide)).jj
    by_cases d2 : s < 0
    · simp only [gI_e, gR_e, pI_e, pZ_e, pR_e, ldI_e, ldZ_e, ldL_e, ldR_e, stI_e, stZ_e, stL_e, stR_e, alN_e, nwA_e, nwO_e, dvI_e, rmI_e, oV_e, oN_e, lt_e, rZ_e, br_T, br_F, fR_sI, aI_sI, aL_sI, aR_sI, kd_sI, ln_sI, hn_sI, hm_sI, fI_sI_n, fI_sR, aI_sR, aL_sR, aR_sR, kd_sR, ln_sR, hn_sR, hm_sR, fR_sR_n, fI_tI, fR_tI, aL_tI, aR_tI, kd_tI, ln_tI, hn_tI, hm_tI, aI_tI_n, fI_tL, fR_tL, aI_tL, aR_tL, kd_tL, ln_tL, hn_tL, hm_tL, aL_tL_n, fI_tR, fR_tR, aI_tR, aL_tR, kd_tR, ln_tR, hn_tR, hm_tR, aR_tR_n, hn_nw, hm_nw, rc400, rc403, rc404, rc405, rc407, rc409, rc420, rc440, bI_0, bI_1, bI_T, bI_F, iF_T, iF_F, br_not, le_nlt, not_true_eq_false, not_false_eq_true, and_self, and_true, true_and, and_false, false_and, or_true, true_or, or_false, false_or, ne_eq, reduceCtorEq, Nat.reduceLeDiff, Nat.reduceEqDiff, Nat.reduceLT, Nat.reduceAdd, Nat.reduceSub, Nat.reduceMul, Int32.reduceLT, Int32.reduceLE, Int32.reduceToNatClampNeg, Int32.reduceAdd, Int32.reduceSub, implies_true, forall_const, isIn_e, bit_e, lits, hA, hB, hC, hf, hn, hn1, hp, ha, hp1, ha1, placeAt_e hJ, askAt_e hJ, modelAt_e hJ, shelfAt_e hJ, isShelf_e, isGroup_e, isAsked_e, rZ_bI, dec_none, dec_s, dec_1, lt_e, c, ek, q, d1, d2]
      exact hQ _ (hJ.ref 6 (by decide)).jj
    by_cases d3 : 3 < s
    · simp only [gI_e, gR_e, pI_e, pZ_e, pR_e, ldI_e, ldZ_e, ldL_e, ldR_e, stI_e, stZ_e, stL_e, stR_e, alN_e, nwA_e, nwO_e, dvI_e, rmI_e, oV_e, oN_e, lt_e, rZ_e, br_T, br_F, fR_sI, aI_sI, aL_sI, aR_sI, kd_sI, ln_sI, hn_sI, hm_sI, fI_sI_n, fI_sR, aI_sR, aL_sR, aR_sR, kd_sR, ln_sR, hn_sR, hm_sR, fR_sR_n, fI_tI, fR_tI, aL_tI, aR_tI, kd_tI, ln_tI, hn_tI, hm_tI, aI_tI_n, fI_tL, fR_tL, aI_tL, aR_tL, kd_tL, ln_tL, hn_tL, hm_tL, aL_tL_n, fI_tR, fR_tR, aI_tR, aL_tR, kd_tR, ln_tR, hn_tR, hm_tR, aR_tR_n, hn_nw, hm_nw, rc400, rc403, rc404, rc405, rc407, rc409, rc420, rc440, bI_0, bI_1, bI_T, bI_F, iF_T, iF_F, br_not, le_nlt, not_true_eq_false, not_false_eq_true, and_self, and_true, true_and, and_false, false_and, or_true, true_or, or_false, false_or, ne_eq, reduceCtorEq, Nat.reduceLeDiff, Nat.reduceEqDiff, Nat.reduceLT, Nat.reduceAdd, Nat.reduceSub, Nat.reduceMul, Int32.reduceLT, Int32.reduceLE, Int32.reduceToNatClampNeg, Int32.reduceAdd, Int32.reduceSub, implies_true, forall_const, isIn_e, bit_e, lits, hA, hB, hC, hf, hn, hn1, hp, ha, hp1, ha1, placeAt_e hJ, askAt_e hJ, modelAt_e hJ, shelfAt_e hJ, isShelf_e, isGroup_e, isAsked_e, rZ_bI, dec_none, dec_s, dec_1, lt_e, c, ek, q, d1, d2, d3]
      exact hQ _ (hJ.ref 6 (by decide)).jj
    by_cases d4 : 60 < l
    · simp only [gI_e, gR_e, pI_e, pZ_e, pR_e, ldI_e, ldZ_e, ldL_e, ldR_e, stI_e, stZ_e, stL_e, stR_e, alN_e, nwA_e, nwO_e, dvI_e, rmI_e, oV_e, oN_e, lt_e, rZ_e, br_T, br_F, fR_sI, aI_sI, aL_sI, aR_sI, kd_sI, ln_sI, hn_sI, hm_sI, fI_sI_n, fI_sR, aI_sR, aL_sR, aR_sR, kd_sR, ln_sR, hn_sR, hm_sR, fR_sR_n, fI_tI, fR_tI, aL_tI, aR_tI, kd_tI, ln_tI, hn_tI, hm_tI, aI_tI_n, fI_tL, fR_tL, aI_tL, aR_tL, kd_tL, ln_tL, hn_tL, hm_tL, aL_tL_n, fI_tR, fR_tR, aI_tR, aL_tR, kd_tR, ln_tR, hn_tR, hm_tR, aR_tR_n, hn_nw, hm_nw, rc400, rc403, rc404, rc405, rc407, rc409, rc420, rc440, bI_0, bI_1, bI_T, bI_F, iF_T, iF_F, br_not, le_nlt, not_true_eq_false, not_false_eq_true, and_self, and_true, true_and, and_false, false_and, or_true, true_or, or_false, false_or, ne_eq, reduceCtorEq, Nat.reduceLeDiff, Nat.reduceEqDiff, Nat.reduceLT, Nat.reduceAdd, Nat.reduceSub, Nat.reduceMul, Int32.reduceLT, Int32.reduceLE, Int32.reduceToNatClampNeg, Int32.reduceAdd, Int32.reduceSub, implies_true, forall_const, isIn_e, bit_e, lits, hA, hB, hC, hf, hn, hn1, hp, ha, hp1, ha1, placeAt_e hJ, askAt_e hJ, modelAt_e hJ, shelfAt_e hJ, isShelf_e, isGroup_e, isAsked_e, rZ_bI, dec_none, dec_s, dec_1, lt_e, c, ek, q, d1, d2, d3, d4]
      exact hQ _ (hJ.ref 7 (by decide)).jj
    simp only [gI_e, gR_e, pI_e, pZ_e, pR_e, ldI_e, ldZ_e, ldL_e, ldR_e, stI_e, stZ_e, stL_e, stR_e, alN_e, nwA_e, nwO_e, dvI_e, rmI_e, oV_e, oN_e, lt_e, rZ_e, br_T, br_F, fR_sI, aI_sI, aL_sI, aR_sI, kd_sI, ln_sI, hn_sI, hm_sI, fI_sI_n, fI_sR, aI_sR, aL_sR, aR_sR, kd_sR, ln_sR, hn_sR, hm_sR, fR_sR_n, fI_tI, fR_tI, aL_tI, aR_tI, kd_tI, ln_tI, hn_tI, hm_tI, aI_tI_n, fI_tL, fR_tL, aI_tL, aR_tL, kd_tL, ln_tL, hn_tL, hm_tL, aL_tL_n, fI_tR, fR_tR, aI_tR, aL_tR, kd_tR, ln_tR, hn_tR, hm_tR, aR_tR_n, hn_nw, hm_nw, rc400, rc403, rc404, rc405, rc407, rc409, rc420, rc440, bI_0, bI_1, bI_T, bI_F, iF_T, iF_F, br_not, le_nlt, not_true_eq_false, not_false_eq_true, and_self, and_true, true_and, and_false, false_and, or_true, true_or, or_false, false_or, ne_eq, reduceCtorEq, Nat.reduceLeDiff, Nat.reduceEqDiff, Nat.reduceLT, Nat.reduceAdd, Nat.reduceSub, Nat.reduceMul, Int32.reduceLT, Int32.reduceLE, Int32.reduceToNatClampNeg, Int32.reduceAdd, Int32.reduceSub, implies_true, forall_const, isIn_e, bit_e, lits, hA, hB, hC, hf, hn, hn1, hp, ha, hp1, ha1, placeAt_e hJ, askAt_e hJ, modelAt_e hJ, shelfAt_e hJ, isShelf_e, isGroup_e, isAsked_e, rZ_bI, dec_none, dec_s, dec_1, lt_e, c, ek, q, d1, d2, d3, d4]
    refine fillL (n := 60) (by simp only [gI_e, gR_e, pI_e, pZ_e, pR_e, ldI_e, ldZ_e, ldL_e, ldR_e, stI_e, stZ_e, stL_e, stR_e, alN_e, nwA_e, nwO_e, dvI_e, rmI_e, oV_e, oN_e, lt_e, rZ_e, br_T, br_F, fR_sI, aI_sI, aL_sI, aR_sI, kd_sI, ln_sI, hn_sI, hm_sI, fI_sI_n, fI_sR, aI_sR, aL_sR, aR_sR, kd_sR, ln_sR, hn_sR, hm_sR, fR_sR_n, fI_tI, fR_tI, aL_tI, aR_tI, kd_tI, ln_tI, hn_tI, hm_tI, aI_tI_n, fI_tL, fR_tL, aI_tL, aR_tL, kd_tL, ln_tL, hn_tL, hm_tL, aL_tL_n, fI_tR, fR_tR, aI_tR, aL_tR, kd_tR, ln_tR, hn_tR, hm_tR, aR_tR_n, hn_nw, hm_nw, rc400, rc403, rc404, rc405, rc407, rc409, rc420, rc440, bI_0, bI_1, bI_T, bI_F, iF_T, iF_F, br_not, le_nlt, not_true_eq_false, not_false_eq_true, and_self, and_true, true_and, and_false, false_and, or_true, true_or, or_false, false_or, ne_eq, reduceCtorEq, Nat.reduceLeDiff, Nat.reduceEqDiff, Nat.reduceLT, Nat.reduceAdd, Nat.reduceSub, Nat.reduceMul, Int32.reduceLT, Int32.reduceLE, Int32.reduceToNatClampNeg, Int32.reduceAdd, Int32.reduceSub, implies_true, forall_const, isIn_e, bit_e, lits, hA, hB, hC, hf, hn, hn1, hp, ha, hp1, ha1, placeAt_e hJ, askAt_e hJ, modelAt_e hJ, shelfAt_e hJ, isShelf_e, isGroup_e, isAsked_e, rZ_bI, dec_none, dec_s, dec_1, lt_e, q]) (by simp only [gI_e, gR_e, pI_e, pZ_e, pR_e, ldI_e, ldZ_e, ldL_e, ldR_e, stI_e, stZ_e, stL_e, stR_e, alN_e, nwA_e, nwO_e, dvI_e, rmI_e, oV_e, oN_e, lt_e, rZ_e, br_T, br_F, fR_sI, aI_sI, aL_sI, aR_sI, kd_sI, ln_sI, hn_sI, hm_sI, fI_sI_n, fI_sR, aI_sR, aL_sR, aR_sR, kd_sR, ln_sR, hn_sR, hm_sR, fR_sR_n, fI_tI, fR_tI, aL_tI, aR_tI, kd_tI, ln_tI, hn_tI, hm_tI, aI_tI_n, fI_tL, fR_tL, aI_tL, aR_tL, kd_tL, ln_tL, hn_tL, hm_tL, aL_tL_n, fI_tR, fR_tR, aI_tR, aL_tR, kd_tR, ln_tR, hn_tR, hm_tR, aR_tR_n, hn_nw, hm_nw, rc400, rc403, rc404, rc405, rc407, rc409, rc420, rc440, bI_0, bI_1, bI_T, bI_F, iF_T, iF_F, br_not, le_nlt, not_true_eq_false, not_false_eq_true, and_self, and_true, true_and, and_false, false_and, or_true, true_or, or_false, false_or, ne_eq, reduceCtorEq, Nat.reduceLeDiff, Nat.reduceEqDiff, Nat.reduceLT, Nat.reduceAdd, Nat.reduceSub, Nat.reduceMul, Int32.reduceLT, Int32.reduceLE, Int32.reduceToNatClampNeg, Int32.reduceAdd, Int32.reduceSub, implies_true, forall_const, isIn_e, bit_e, lits, hA, hB, hC, hf, hn, hn1, hp, ha, hp1, ha1, placeAt_e hJ, askAt_e hJ, modelAt_e hJ, shelfAt_e hJ, isShelf_e, isGroup_e, isAsked_e, rZ_bI, dec_none, dec_s, dec_1, lt_e, q]) (by simp only [gI_e, gR_e, pI_e, pZ_e, pR_e, ldI_e, ldZ_e, ldL_e, ldR_e, stI_e, stZ_e, stL_e, stR_e, alN_e, nwA_e, nwO_e, dvI_e, rmI_e, oV_e, oN_e, lt_e, rZ_e, br_T, br_F, fR_sI, aI_sI, aL_sI, aR_sI, kd_sI, ln_sI, hn_sI, hm_sI, fI_sI_n, fI_sR, aI_sR, aL_sR, aR_sR, kd_sR, ln_sR, hn_sR, hm_sR, fR_sR_n, fI_tI, fR_tI, aL_tI, aR_tI, kd_tI, ln_tI, hn_tI, hm_tI, aI_tI_n, fI_tL, fR_tL, aI_tL, aR_tL, kd_tL, ln_tL, hn_tL, hm_tL, aL_tL_n, fI_tR, fR_tR, aI_tR, aL_tR, kd_tR, ln_tR, hn_tR, hm_tR, aR_tR_n, hn_nw, hm_nw, rc400, rc403, rc404, rc405, rc407, rc409, rc420, rc440, bI_0, bI_1, bI_T, bI_F, iF_T, iF_F, br_not, le_nlt, not_true_eq_false, not_false_eq_true, and_self, and_true, true_and, and_false, false_and, or_true, true_or, or_false, false_or, ne_eq, reduceCtorEq, Nat.reduceLeDiff, Nat.reduceEqDiff, Nat.reduceLT, Nat.reduceAdd, Nat.reduceSub, Nat.reduceMul, Int32.reduceLT, Int32.reduceLE, Int32.reduceToNatClampNeg, Int32.reduceAdd, Int32.reduceSub, implies_true, forall_const, isIn_e, bit_e, lits, hA, hB, hC, hf, hn, hn1, hp, ha, hp1, ha1, placeAt_e hJ, askAt_e hJ, modelAt_e hJ, shelfAt_e hJ, isShelf_e, isGroup_e, isAsked_e, rZ_bI, dec_none, dec_s, dec_1, lt_e, q]) (by decide) ?_
    simp only [gI_e, gR_e, pI_e, pZ_e, pR_e, ldI_e, ldZ_e, ldL_e, ldR_e, stI_e, stZ_e, stL_e, stR_e, alN_e, nwA_e, nwO_e, dvI_e, rmI_e, oV_e, oN_e, lt_e, rZ_e, br_T, br_F, fR_sI, aI_sI, aL_sI, aR_sI, kd_sI, ln_sI, hn_sI, hm_sI, fI_sI_n, fI_sR, aI_sR, aL_sR, aR_sR, kd_sR, ln_sR, hn_sR, hm_sR, fR_sR_n, fI_tI, fR_tI, aL_tI, aR_tI, kd_tI, ln_tI, hn_tI, hm_tI, aI_tI_n, fI_tL, fR_tL, aI_tL, aR_tL, kd_tL, ln_tL, hn_tL, hm_tL, aL_tL_n, fI_tR, fR_tR, aI_tR, aL_tR, kd_tR, ln_tR, hn_tR, hm_tR, aR_tR_n, hn_nw, hm_nw, rc400, rc403, rc404, rc405, rc407, rc409, rc420, rc440, bI_0, bI_1, bI_T, bI_F, iF_T, iF_F, br_not, le_nlt, not_true_eq_false, not_false_eq_true, and_self, and_true, true_and, and_false, false_and, or_true, true_or, or_false, false_or, ne_eq, reduceCtorEq, Nat.reduceLeDiff, Nat.reduceEqDiff, Nat.reduceLT, Nat.reduceAdd, Nat.reduceSub, Nat.reduceMul, Int32.reduceLT, Int32.reduceLE, Int32.reduceToNatClampNeg, Int32.reduceAdd, Int32.reduceSub, implies_true, forall_const, isIn_e, bit_e, lits, hA, hB, hC, hf, hn, hn1, hp, ha, hp1, ha1, placeAt_e hJ, askAt_e hJ, modelAt_e hJ, shelfAt_e hJ, isShelf_e, isGroup_e, isAsked_e, rZ_bI, dec_none, dec_s, dec_1, lt_e, q]
    have hR1 := hR.of (((((eqM.rf h).sR (f := 1155) (by decide) (g 2 k) none).sI (f := 1153) (by decide) (g 2 k) s).sI (f := 1154) (by decide) (g 2 k) l).flL (k := 300) (Or.inl (by decide)) (g 8 k) 0 60 0)
    have hM1 := hR1.1
    simp only [gI_e, gR_e, pI_e, pZ_e, pR_e, ldI_e, ldZ_e, ldL_e, ldR_e, stI_e, stZ_e, stL_e, stR_e, alN_e, nwA_e, nwO_e, dvI_e, rmI_e, oV_e, oN_e, lt_e, rZ_e, br_T, br_F, fR_sI, aI_sI, aL_sI, aR_sI, kd_sI, ln_sI, hn_sI, hm_sI, fI_sI_n, fI_sR, aI_sR, aL_sR, aR_sR, kd_sR, ln_sR, hn_sR, hm_sR, fR_sR_n, fI_tI, fR_tI, aL_tI, aR_tI, kd_tI, ln_tI, hn_tI, hm_tI, aI_tI_n, fI_tL, fR_tL, aI_tL, aR_tL, kd_tL, ln_tL, hn_tL, hm_tL, aL_tL_n, fI_tR, fR_tR, aI_tR, aL_tR, kd_tR, ln_tR, hn_tR, hm_tR, aR_tR_n, hn_nw, hm_nw, rc400, rc403, rc404, rc405, rc407, rc409, rc420, rc440, bI_0, bI_1, bI_T, bI_F, iF_T, iF_F, br_not, le_nlt, not_true_eq_false, not_false_eq_true, and_self, and_true, true_and, and_false, false_and, or_true, true_or, or_false, false_or, ne_eq, reduceCtorEq, Nat.reduceLeDiff, Nat.reduceEqDiff, Nat.reduceLT, Nat.reduceAdd, Nat.reduceSub, Nat.reduceMul, Int32.reduceLT, Int32.reduceLE, Int32.reduceToNatClampNeg, Int32.reduceAdd, Int32.reduceSub, implies_true, forall_const, isIn_e, bit_e, lits, hA, hB, hC, hf, hn, hn1, hp, ha, hp1, ha1, placeAt_e hJ, askAt_e hJ, modelAt_e hJ, shelfAt_e hJ, isShelf_e, isGroup_e, isAsked_e, rZ_bI, dec_none, dec_s, dec_1, lt_e, aL_flL_n, aI_flI_n, fI_flL, fR_flL, aI_flL, aR_flL, kd_flL, ln_flL, hn_flL, hm_flL, fI_flI, fR_flI, aL_flI, aR_flI, kd_flI, ln_flI, hn_flI, hm_flI, hA, c, ek, d1, d2, d3, d4]
    refine rowLoop (m := m) (by exact hM1) hk _ ?_
    refine ⟨rfl, hQ _ ?_⟩
    refine JA.jj (np := np) (na := na) (nm := nm) (nr := nr) (ne := ne) (g := g) ?_
    refine ⟨hM1, ?_, ?_, ?_, ?_, ?_, ?_, hJ.2.2.2.2.2.2.2⟩
    · unfold JS
      simp (config := {decide := true}) only [fR_sI, aI_sI, aL_sI, aR_sI, kd_sI, ln_sI, hn_sI, hm_sI, fI_sI_n, fI_sR, aI_sR, aL_sR, aR_sR, kd_sR, ln_sR, hn_sR, hm_sR, fR_sR_n, fI_tI, fR_tI, aL_tI, aR_tI, kd_tI, ln_tI, hn_tI, hm_tI, aI_tI_n, fI_tL, fR_tL, aI_tL, aR_tL, kd_tL, ln_tL, hn_tL, hm_tL, aL_tL_n, fI_tR, fR_tR, aI_tR, aL_tR, kd_tR, ln_tR, hn_tR, hm_tR, aR_tR_n, hn_nw, hm_nw, aL_flL_n, aI_flI_n, fI_flL, fR_flL, aI_flL, aR_flL, kd_flL, ln_flL, hn_flL, hm_flL, fI_flI, fR_flI, aL_flI, aR_flI, kd_flI, ln_flI, hn_flI, hm_flI]
      exact hJ.2.1
    · unfold JC
      simp (config := {decide := true}) only [fR_sI, aI_sI, aL_sI, aR_sI, kd_sI, ln_sI, hn_sI, hm_sI, fI_sI_n, fI_sR, aI_sR, aL_sR, aR_sR, kd_sR, ln_sR, hn_sR, hm_sR, fR_sR_n, fI_tI, fR_tI, aL_tI, aR_tI, kd_tI, ln_tI, hn_tI, hm_tI, aI_tI_n, fI_tL, fR_tL, aI_tL, aR_tL, kd_tL, ln_tL, hn_tL, hm_tL, aL_tL_n, fI_tR, fR_tR, aI_tR, aL_tR, kd_tR, ln_tR, hn_tR, hm_tR, aR_tR_n, hn_nw, hm_nw, aL_flL_n, aI_flI_n, fI_flL, fR_flL, aI_flL, aR_flL, kd_flL, ln_flL, hn_flL, hm_flL, fI_flI, fR_flI, aL_flI, aR_flI, kd_flI, ln_flI, hn_flI, hm_flI]
      exact hJ.2.2.1
    · unfold JG
      simp (config := {decide := true}) only [fR_sI, aI_sI, aL_sI, aR_sI, kd_sI, ln_sI, hn_sI, hm_sI, fI_sI_n, fI_sR, aI_sR, aL_sR, aR_sR, kd_sR, ln_sR, hn_sR, hm_sR, fR_sR_n, fI_tI, fR_tI, aL_tI, aR_tI, kd_tI, ln_tI, hn_tI, hm_tI, aI_tI_n, fI_tL, fR_tL, aI_tL, aR_tL, kd_tL, ln_tL, hn_tL, hm_tL, aL_tL_n, fI_tR, fR_tR, aI_tR, aL_tR, kd_tR, ln_tR, hn_tR, hm_tR, aR_tR_n, hn_nw, hm_nw, aL_flL_n, aI_flI_n, fI_flL, fR_flL, aI_flL, aR_flL, kd_flL, ln_flL, hn_flL, hm_flL, fI_flI, fR_flI, aL_flI, aR_flI, kd_flI, ln_flI, hn_flI, hm_flI]
      exact hG
    · unfold JD
      simp (config := {decide := true}) only [fR_sI, aI_sI, aL_sI, aR_sI, kd_sI, ln_sI, hn_sI, hm_sI, fI_sI_n, fI_sR, aI_sR, aL_sR, aR_sR, kd_sR, ln_sR, hn_sR, hm_sR, fR_sR_n, fI_tI, fR_tI, aL_tI, aR_tI, kd_tI, ln_tI, hn_tI, hm_tI, aI_tI_n, fI_tL, fR_tL, aI_tL, aR_tL, kd_tL, ln_tL, hn_tL, hm_tL, aL_tL_n, fI_tR, fR_tR, aI_tR, aL_tR, kd_tR, ln_tR, hn_tR, hm_tR, aR_tR_n, hn_nw, hm_nw, fI_sI_e, fR_sR_e, aI_tI_e, aL_tL_e, aR_tR_e, aL_flL_n, aI_flI_n, fI_flL, fR_flL, aI_flL, aR_flL, kd_flL, ln_flL, hn_flL, hm_flL, fI_flI, fR_flI, aL_flI, aR_flI, kd_flI, ln_flI, hn_flI, hm_flI, aL_flL_e, aI_flI_e, true_and]
      refine ⟨JD.d_lev hD, JD.d_und hD, JD.d_way hD, JD.d_ord hD, JD.d_mad hD, JD.d_tor hD, JD.d_cho hD, JD.d_yes hD, ?_, ?_, ?_, ?_, JD.d_at hD, JD.d_wha hD, JD.d_who hD, JD.d_muc hD, JD.d_wri hD, JD.d_kin hD, JD.d_lat hD, JD.d_gap hD, JD.d_gon hD, JD.d_yie hD, JD.d_wor hD, JD.d_mod hD, JD.d_int hD, JD.d_dro hD, JD.d_wds hD, JD.d_wdn hD, JD.d_mwh hD, JD.d_mda hD, JD.d_mpl hD, JD.d_mwd hD, JD.d_rle hD, JD.d_rda hD, JD.d_rst hD, JD.d_ppl hD, JD.d_pbo hD, JD.d_cla hD, JD.d_ref hD⟩
      · intro i hi
        by_cases e : i = k
        · subst e
          simp only [if_true]
        · have e2 : ¬ g 2 i = g 2 k := fun u => e (hG.sh_in i k hi hk u)
          simp only [e, e2, if_false]
          exact hD.d_srt i hi
      · intro i hi
        by_cases e : i = k
        · subst e
          simp only [if_true]
        · have e2 : ¬ g 2 i = g 2 k := fun u => e (hG.sh_in i k hi hk u)
          simp only [e, e2, if_false]
          exact hD.d_siz i hi
      · intro i hi
        by_cases e : i = k
        · subst e
          simp only [if_true, lits, if_false]
        · have e2 : ¬ g 2 i = g 2 k := fun u => e (hG.sh_in i k hi hk u)
          simp only [e, e2, if_false]
          exact hD.d_sha i hi
      · intro i j hi hj w
        by_cases e : i = k
        · subst e
          rw [if_pos ⟨rfl, by omega, by omega⟩, if_pos (by omega)]
        · have e2 : ¬ g 8 i = g 8 k := fun u => e (hG.se_in i k hi hk u)
          rw [if_neg e] at w
          rw [if_neg (fun u => e2 u.1), if_neg (by omega)]
          exact hD.d_cel i j hi hj w
    · unfold JW
      simp (config := {decide := true}) only [fR_sI, aI_sI, aL_sI, aR_sI, kd_sI, ln_sI, hn_sI, hm_sI, fI_sI_n, fI_sR, aI_sR, aL_sR, aR_sR, kd_sR, ln_sR, hn_sR, hm_sR, fR_sR_n, fI_tI, fR_tI, aL_tI, aR_tI, kd_tI, ln_tI, hn_tI, hm_tI, aI_tI_n, fI_tL, fR_tL, aI_tL, aR_tL, kd_tL, ln_tL, hn_tL, hm_tL, aL_tL_n, fI_tR, fR_tR, aI_tR, aL_tR, kd_tR, ln_tR, hn_tR, hm_tR, aR_tR_n, hn_nw, hm_nw, fI_sI_e, fR_sR_e, aI_tI_e, aL_tL_e, aR_tR_e, aL_flL_n, aI_flI_n, fI_flL, fR_flL, aI_flL, aR_flL, kd_flL, ln_flL, hn_flL, hm_flL, fI_flI, fR_flI, aL_flI, aR_flI, kd_flI, ln_flI, hn_flI, hm_flI, aL_flL_e, aI_flI_e, true_and]
      refine ⟨JW.w_l0 hW, JW.w_u0 hW, JW.w_und hW, JW.w_lev hW, JW.w_lv3 hW, JW.w_way hW, JW.w_hea hW, JW.w_tor hW, JW.w_tlv hW, JW.w_cho hW, JW.w_c0 hW, JW.w_mad hW, JW.w_mlv hW, JW.w_yes hW, ?_, ?_, ?_, ?_, JW.w_at hW, JW.w_wha hW, JW.w_who hW, JW.w_muc hW, JW.w_wri hW, JW.w_kin hW, JW.w_klv hW, JW.w_mod hW, JW.w_kmo hW, JW.w_int hW, JW.w_dro hW, JW.w_gon hW, JW.w_lat hW, JW.w_gap hW, JW.w_yie hW, JW.w_wor hW, JW.w_wdn hW, JW.w_nsg hW, JW.w_gto hW, JW.w_one hW, JW.w_mwh hW, JW.w_mpl hW, JW.w_mda hW, JW.w_mn hW, JW.w_rle hW, JW.w_rda hW, JW.w_rst hW, JW.w_ppl hW, JW.w_pbo hW, JW.w_cla hW, JW.w_csy hW, JW.w_now hW, JW.w_amd hW, JW.w_hl0 hW, JW.w_src hW, JW.w_zgp hW, JW.w_zyi hW, JW.w_zwn hW, JW.w_zma hW, JW.w_zys hW⟩
      · intro i hi
        by_cases e : i = k
        · simp only [e, if_true, true_or, or_true]
        · simp only [e, if_false]
          exact hW.w_hel i hi
      · intro i hi
        by_cases e : i = k
        · simp only [e, if_true]
          intro _
          exact rangeI d2 d3
        · simp only [e, if_false]
          exact hW.w_srt i hi
      · intro i hi
        by_cases e : i = k
        · simp only [e, if_true]
          exact rangeI d1 d4
        · simp only [e, if_false]
          exact hW.w_siz i hi
      · intro i hi
        by_cases e : i = k
        · simp only [e, if_true]
          intro z
          exact absurd z (by decide)
        · simp only [e, if_false]
          exact hW.w_sho i hi
    · unfold JE
      simp (config := {decide := true}) only [fR_sI, aI_sI, aL_sI, aR_sI, kd_sI, ln_sI, hn_sI, hm_sI, fI_sI_n, fI_sR, aI_sR, aL_sR, aR_sR, kd_sR, ln_sR, hn_sR, hm_sR, fR_sR_n, fI_tI, fR_tI, aL_tI, aR_tI, kd_tI, ln_tI, hn_tI, hm_tI, aI_tI_n, fI_tL, fR_tL, aI_tL, aR_tL, kd_tL, ln_tL, hn_tL, hm_tL, aL_tL_n, fI_tR, fR_tR, aI_tR, aL_tR, kd_tR, ln_tR, hn_tR, hm_tR, aR_tR_n, hn_nw, hm_nw, aL_flL_n, aI_flI_n, fI_flL, fR_flL, aI_flL, aR_flL, kd_flL, ln_flL, hn_flL, hm_flL, fI_flI, fR_flI, aL_flI, aR_flI, kd_flI, ln_flI, hn_flI, hm_flI]
      exact hJ.2.2.2.2.2.2.1
  · simp only [gI_e, gR_e, pI_e, pZ_e, pR_e, ldI_e, ldZ_e, ldL_e, ldR_e, stI_e, stZ_e, stL_e, stR_e, alN_e, nwA_e, nwO_e, dvI_e, rmI_e, oV_e, oN_e, lt_e, rZ_e, br_T, br_F, fR_sI, aI_sI, aL_sI, aR_sI, kd_sI, ln_sI, hn_sI, hm_sI, fI_sI_n, fI_sR, aI_sR, aL_sR, aR_sR, kd_sR, ln_sR, hn_sR, hm_sR, fR_sR_n, fI_tI, fR_tI, aL_tI, aR_tI, kd_tI, ln_tI, hn_tI, hm_tI, aI_tI_n, fI_tL, fR_tL, aI_tL, aR_tL, kd_tL, ln_tL, hn_tL, hm_tL, aL_tL_n, fI_tR, fR_tR, aI_tR, aL_tR, kd_tR, ln_tR, hn_tR, hm_tR, aR_tR_n, hn_nw, hm_nw, rc400, rc403, rc404, rc405, rc407, rc409, rc420, rc440, bI_0, bI_1, bI_T, bI_F, iF_T, iF_F, br_not, le_nlt, not_true_eq_false, not_false_eq_true, and_self, and_true, true_and, and_false, false_and, or_true, true_or, or_false, false_or, ne_eq, reduceCtorEq, Nat.reduceLeDiff, Nat.reduceEqDiff, Nat.reduceLT, Nat.reduceAdd, Nat.reduceSub, Nat.reduceMul, Int32.reduceLT, Int32.reduceLE, Int32.reduceToNatClampNeg, Int32.reduceAdd, Int32.reduceSub, implies_true, forall_const, isIn_e, bit_e, lits, hA, hB, hC, hf, hn, hn1, hp, ha, hp1, ha1, placeAt_e hJ, askAt_e hJ, modelAt_e hJ, shelfAt_e hJ, isShelf_e, isGroup_e, isAsked_e, rZ_bI, dec_none, dec_s, dec_1, lt_e, c]
    exact hQ _ (hJ.ref 1 (by decide)).jj
end K5
