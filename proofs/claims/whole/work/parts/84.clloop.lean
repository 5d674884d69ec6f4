theorem cN_ge (P : Nat → Prop) (a : Nat) : ∀ d, cN P a ≤ cN P (a + d) := by
  intro d
  induction d with
  | zero => exact Nat.le_refl _
  | succ d ih =>
    show cN P a ≤ cN P (a + d + 1)
    by_cases c : P (a + d)
    · rw [cN_y c]; omega
    · rw [cN_n c]; exact ih
theorem cN_to {P : Nat → Prop} {a b : Nat} (h : a ≤ b) : cN P a ≤ cN P b := by
  have := cN_ge P a (b - a)
  rw [show a + (b - a) = b by omega] at this
  exact this
/-- the class's turn for a group: merged or dropped -/
noncomputable def clT (g : Nat → Nat → Nat) (x pl : Nat) (kp : Prop) (v : Int32) (L : List Nat) (n : Nat) (h : Hp) : Hp := iF kp (mgH g x h n pl (fI h 2 (g 3 (L.getD 0 0))) (fI h 3 (g 3 (L.getD 0 0))) v (fI h 1297 x) (acI (fun i => fI h 7 (g 3 (L.getD i 0))) L.length) L) (drH g pl L L.length h)
noncomputable def clH (g : Nat → Nat → Nat) (x pl : Nat) (kp : Nat → Prop) (v : Nat → Int32) (M : Nat → List Nat) (n0 : Nat) (h : Hp) : Nat → Hp
  | 0 => h
  | j + 1 => clT g x pl (kp j) (v j) (M j) (n0 + cN kp j) (clH g x pl kp v M n0 h j)
theorem dr_fI (g : Nat → Nat → Nat) (pl : Nat) (L : List Nat) (h : Hp) : ∀ i, fI (drH g pl L i h) = fI h := by
  intro i
  induction i with
  | zero => rfl
  | succ i ih => exact ih
theorem dr_hn (g : Nat → Nat → Nat) (pl : Nat) (L : List Nat) (h : Hp) : ∀ i, hn (drH g pl L i h) = hn h := by
  intro i
  induction i with
  | zero => rfl
  | succ i ih => exact ih
theorem lk_hn (g : Nat → Nat → Nat) (A N : Nat) (L : List Nat) (h : Hp) : ∀ i, hn (lkH g A N L i h) = hn h := by
  intro i
  induction i with
  | zero => rfl
  | succ i ih => exact ih
theorem mg_hn (g : Nat → Nat → Nat) (x : Nat) (h : Hp) (na pl : Nat) (c d v now hs : Int32) (L : List Nat) : hn (mgH g x h na pl c d v now hs L) = hn h + 2 := by
  show hn (lkH g (hn h + 1) (hn h) L L.length (mkH h na pl c d v now hs L.length)) = hn h + 2
  rw [lk_hn]
  rfl
theorem mg_kd (g : Nat → Nat → Nat) (x : Nat) (h : Hp) (na pl : Nat) (c d v now hs : Int32) (L : List Nat) : kd (mgH g x h na pl c d v now hs L) = kd (mkH h na pl c d v now hs L.length) := by
  show kd (lkH g (hn h + 1) (hn h) L L.length (mkH h na pl c d v now hs L.length)) = _
  rw [lk_kd]
theorem mk_kz {h : Hp} (hz : ∀ a, hn h ≤ a → kd h a = 0) (na pl : Nat) (c d v now hs : Int32) (n : Nat) : ∀ a, hn h + 2 ≤ a → kd (mkH h na pl c d v now hs n) a = 0 := by
  intro a ha
  have e : ∀ H : Hp, hn H = hn h + 1 → kd H = kd (nw h 1 19) → kd (nw H 420 n) a = 0 := by
    intro H e1 e2
    rw [kd_nw_o _ _ _ _ (by omega), e2, kd_nw_o _ _ _ _ (by omega)]
    exact hz a (by omega)
  exact e _ rfl rfl
theorem eqU_mg {g : Nat → Nat → Nat} {x : Nat} {h : Hp} (hz : ∀ a, hn h ≤ a → kd h a = 0) (na pl : Nat) (c d v now hs : Int32) (L : List Nat) : eqU h (mgH g x h na pl c d v now hs L) :=
  eqU_sI (eqU_tR (eqU_sR (eqU_lk (eqU_mk hz na pl c d v now hs L.length) (hz _ (by omega)) L.length) (Or.inl (hz _ (Nat.le_refl _))) _) (Or.inr rfl) _ _) (Or.inr rfl) _
section CLLP
variable {x y b0 s0 np na nm nr ne : Nat} {g : Nat → Nat → Nat} {m : Nat → Nat} {h h1 : Hp} {M : Nat → List Nat} {N : Nat}
theorem cl_inv (hx : fI h 1293 x = nI na) (kx : kd h x ≠ 0) (hz0 : ∀ a, hn h ≤ a → kd h a = 0) (pl : Nat) (kp : Nat → Prop) (v : Nat → Int32) (M : Nat → List Nat) : ∀ j, eqU h (clH g x pl kp v M na h j) ∧ (∀ a, hn (clH g x pl kp v M na h j) ≤ a → kd (clH g x pl kp v M na h j) a = 0) ∧ fI (clH g x pl kp v M na h j) 1293 x = nI (na + cN kp j) := by
  intro j
  induction j with
  | zero => exact ⟨eqU.rf h, hz0, hx⟩
  | succ j ih =>
    obtain ⟨i1, i2, i3⟩ := ih
    show eqU h (clT g x pl (kp j) (v j) (M j) (na + cN kp j) (clH g x pl kp v M na h j)) ∧ (∀ a, hn (clT g x pl (kp j) (v j) (M j) (na + cN kp j) (clH g x pl kp v M na h j)) ≤ a → kd (clT g x pl (kp j) (v j) (M j) (na + cN kp j) (clH g x pl kp v M na h j)) a = 0) ∧ fI (clT g x pl (kp j) (v j) (M j) (na + cN kp j) (clH g x pl kp v M na h j)) 1293 x = nI (na + cN kp (j + 1))
    unfold clT
    by_cases c : kp j
    · rw [iF_y c, cN_y c]
      refine ⟨i1.tr (eqU_mg i2 _ _ _ _ _ _ _ _), fun a ha => ?_, ?_⟩
      · rw [mg_hn] at ha
        rw [mg_kd]
        exact mk_kz i2 _ _ _ _ _ _ _ _ a ha
      · unfold mgH
        exact fI_s _ _ _ _
    · rw [iF_n c, cN_n c]
      refine ⟨eqU_dr i1 _, fun a ha => ?_, ?_⟩
      · rw [dr_hn] at ha
        rw [dr_kd]
        exact i2 a ha
      · rw [dr_fI]
        exact i3
theorem clLoop_e (hM : JM y m h) (hC : CB x na g m h) (hG : GQ h g na N M) (hN : N ≤ 128) (hl : ∀ j, j < N → (M j).length ≤ 24) {kp : Nat → Prop} {d : Nat} (hd : d < 3) (hjn : ∀ j, j < N → aI h 103 (g 0 16) j = iF (kp j) (jnV d) (-1)) (hz0 : ∀ a, hn h ≤ a → kd h a = 0) (hx : fI h 1293 x = nI na) (room : na + cN kp N ≤ 160) {pl : Nat} (kpl : kd h pl = 6) (w : Int32) (Q : Int32 → Hp → Prop) (hQ : Q w (sI (clH g x pl kp (fun j => nI (jvN (mgF h m (M j)) (M j).length (rkN (M j).length d))) M na h N) 648 pl 1)) : l_X10_make_70 (some x) (some pl) w 0 h Q := by
  have hB := hC.1
  unfold JS at hB
  have inv := cl_inv (g := g) hx (by simp only [hB]; decide) hz0 pl kp (fun j => nI (jvN (mgF h m (M j)) (M j).length (rkN (M j).length d))) M
  have hA := hM
  unfold JM at hA
  unfold l_X10_make_70
  refine Lo.run N (fun t => nI t) (fun t => clH g x pl kp (fun j => nI (jvN (mgF h m (M j)) (M j).length (rkN (M j).length d))) M na h t) ?_ ?_ rfl rfl
  · intro j e K hK
    have c := cnF e (show N ≤ 160 by omega) (by decide)
    have c1 := cnF (show j < 160 by omega) (Nat.le_refl 160) (by decide)
    obtain ⟨i1, i2, i3⟩ := inv j
    have hK2 : K (nI (j + 1)) (clT g x pl (kp j) (nI (jvN (mgF h m (M j)) (M j).length (rkN (M j).length d))) (M j) (na + cN kp j) (clH g x pl kp (fun j => nI (jvN (mgF h m (M j)) (M j).length (rkN (M j).length d))) M na h j)) := hK
    clear hK
    generalize clH g x pl kp (fun j => nI (jvN (mgF h m (M j)) (M j).length (rkN (M j).length d))) M na h j = H at *
    have hCH := hC.u hM i1
    have hGH := hG.u hC.1 i1
    have hMH := JM.u hM i1
    have hBH := hCH.1
    unfold JS at hBH
    have hn := hGH.1
    have a103 : aI H 103 (g 0 16) j = iF (kp j) (jnV d) (-1) := by
      rw [(i1 (g 0 16) (by simp only [hB]; decide)).2.2.2.2.1 103]
      exact hjn j e
    have mgS : mgF H m (M j) = mgF h m (M j) := by
      funext i
      unfold mgF mcN
      rw [(i1 (m 135) (by simp only [hA]; decide)).2.2.2.2.1 135]
    have fin : ∀ H2, H2 = clT g x pl (kp j) (nI (jvN (mgF h m (M j)) (M j).length (rkN (M j).length d))) (M j) (na + cN kp j) H → n_X10_make_116 (some x) (some pl) w (nI j) H2 Q (fun l4 h => K (l4) h) := by
      intro H2 e2
      unfold n_X10_make_116
      simp only [lt_e, c]
      rw [e2]
      exact hK2
    have cle := cN_le kp j
    unfold b_X10_make_70
    by_cases kj : kp j
    · rw [iF_y kj] at a103
      have nm : ¬ jnV d = -1 := by
        unfold jnV
        split
        · decide
        · split <;> decide
      have cs := cN_y kj
      have cm : cN kp (j + 1) ≤ cN kp N := cN_to (by omega)
      simp (config := {decide := true}) only [gI_e, gR_e, pI_e, pZ_e, pR_e, ldI_e, ldZ_e, ldL_e, ldR_e, stI_e, stZ_e, stL_e, stR_e, alN_e, nwA_e, nwO_e, dvI_e, rmI_e, oV_e, oN_e, lt_e, rZ_e, br_T, br_F, fR_sI, aI_sI, aL_sI, aR_sI, kd_sI, ln_sI, hn_sI, hm_sI, fI_sI_n, fI_sR, aI_sR, aL_sR, aR_sR, kd_sR, ln_sR, hn_sR, hm_sR, fR_sR_n, fI_tI, fR_tI, aL_tI, aR_tI, kd_tI, ln_tI, hn_tI, hm_tI, aI_tI_n, fI_tL, fR_tL, aI_tL, aR_tL, kd_tL, ln_tL, hn_tL, hm_tL, aL_tL_n, fI_tR, fR_tR, aI_tR, aL_tR, kd_tR, ln_tR, hn_tR, hm_tR, aR_tR_n, hn_nw, hm_nw, rc400, rc403, rc404, rc405, rc407, rc409, rc420, rc440, bI_0, bI_1, bI_T, bI_F, iF_T, iF_F, br_not, le_nlt, not_true_eq_false, not_false_eq_true, and_self, and_true, true_and, and_false, false_and, or_true, true_or, or_false, false_or, ne_eq, reduceCtorEq, Nat.reduceLeDiff, Nat.reduceEqDiff, Nat.reduceLT, Nat.reduceAdd, Nat.reduceSub, Nat.reduceMul, Int32.reduceLT, Int32.reduceLE, Int32.reduceToNatClampNeg, Int32.reduceAdd, Int32.reduceSub, implies_true, forall_const, isIn_e, bit_e, lits, hBH, hn, c, c1, a103, nm]
      refine merge_e hMH hCH hGH hN e hd (hl j e) (show na + cN kp j < 160 by omega) i3 i2 a103 _ ?_
      refine fin _ ?_
      unfold clT
      rw [iF_y kj, mgS]
    · rw [iF_n kj] at a103
      simp (config := {decide := true}) only [gI_e, gR_e, pI_e, pZ_e, pR_e, ldI_e, ldZ_e, ldL_e, ldR_e, stI_e, stZ_e, stL_e, stR_e, alN_e, nwA_e, nwO_e, dvI_e, rmI_e, oV_e, oN_e, lt_e, rZ_e, br_T, br_F, fR_sI, aI_sI, aL_sI, aR_sI, kd_sI, ln_sI, hn_sI, hm_sI, fI_sI_n, fI_sR, aI_sR, aL_sR, aR_sR, kd_sR, ln_sR, hn_sR, hm_sR, fR_sR_n, fI_tI, fR_tI, aL_tI, aR_tI, kd_tI, ln_tI, hn_tI, hm_tI, aI_tI_n, fI_tL, fR_tL, aI_tL, aR_tL, kd_tL, ln_tL, hn_tL, hm_tL, aL_tL_n, fI_tR, fR_tR, aI_tR, aL_tR, kd_tR, ln_tR, hn_tR, hm_tR, aR_tR_n, hn_nw, hm_nw, rc400, rc403, rc404, rc405, rc407, rc409, rc420, rc440, bI_0, bI_1, bI_T, bI_F, iF_T, iF_F, br_not, le_nlt, not_true_eq_false, not_false_eq_true, and_self, and_true, true_and, and_false, false_and, or_true, true_or, or_false, false_or, ne_eq, reduceCtorEq, Nat.reduceLeDiff, Nat.reduceEqDiff, Nat.reduceLT, Nat.reduceAdd, Nat.reduceSub, Nat.reduceMul, Int32.reduceLT, Int32.reduceLE, Int32.reduceToNatClampNeg, Int32.reduceAdd, Int32.reduceSub, implies_true, forall_const, isIn_e, bit_e, lits, hBH, hn, c, c1, a103]
      refine dropAtC_e hMH hCH hGH hN e _ ?_
      refine fin _ ?_
      unfold clT
      rw [iF_n kj]
  · intro K
    obtain ⟨i1, i2, i3⟩ := inv N
    have hCH := hC.u hM i1
    have hGH := hG.u hC.1 i1
    have kH := (i1 pl (by rw [kpl]; decide)).1.trans kpl
    generalize clH g x pl kp (fun j => nI (jvN (mgF h m (M j)) (M j).length (rkN (M j).length d))) M na h N = H at *
    have hBH := hCH.1
    unfold JS at hBH
    have hn := hGH.1
    unfold b_X10_make_70
    simp (config := {decide := true}) only [gI_e, gR_e, pI_e, pZ_e, pR_e, ldI_e, ldZ_e, ldL_e, ldR_e, stI_e, stZ_e, stL_e, stR_e, alN_e, nwA_e, nwO_e, dvI_e, rmI_e, oV_e, oN_e, lt_e, rZ_e, br_T, br_F, fR_sI, aI_sI, aL_sI, aR_sI, kd_sI, ln_sI, hn_sI, hm_sI, fI_sI_n, fI_sR, aI_sR, aL_sR, aR_sR, kd_sR, ln_sR, hn_sR, hm_sR, fR_sR_n, fI_tI, fR_tI, aL_tI, aR_tI, kd_tI, ln_tI, hn_tI, hm_tI, aI_tI_n, fI_tL, fR_tL, aI_tL, aR_tL, kd_tL, ln_tL, hn_tL, hm_tL, aL_tL_n, fI_tR, fR_tR, aI_tR, aL_tR, kd_tR, ln_tR, hn_tR, hm_tR, aR_tR_n, hn_nw, hm_nw, rc400, rc403, rc404, rc405, rc407, rc409, rc420, rc440, bI_0, bI_1, bI_T, bI_F, iF_T, iF_F, br_not, le_nlt, not_true_eq_false, not_false_eq_true, and_self, and_true, true_and, and_false, false_and, or_true, true_or, or_false, false_or, ne_eq, reduceCtorEq, Nat.reduceLeDiff, Nat.reduceEqDiff, Nat.reduceLT, Nat.reduceAdd, Nat.reduceSub, Nat.reduceMul, Int32.reduceLT, Int32.reduceLE, Int32.reduceToNatClampNeg, Int32.reduceAdd, Int32.reduceSub, implies_true, forall_const, isIn_e, bit_e, lits, hBH, hn, lt_irr, kH]
    exact hQ
end CLLP
