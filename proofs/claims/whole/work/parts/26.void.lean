def img (G : Nat → Nat) (S : Nat → Prop) (a : Nat) : Prop := ∃ q, S q ∧ a = G q
theorem img_in {G : Nat → Nat} {S : Nat → Prop} {n : Nat} (inj : ∀ i j, i < n → j < n → G i = G j → i = j) (hS : ∀ q, S q → q < n) {i : Nat} (hi : i < n) : img G S (G i) ↔ S i := by
  constructor
  · rintro ⟨q, h1, h2⟩
    rw [inj i q hi (hS q h1) h2]
    exact h1
  · intro h
    exact ⟨i, h, rfl⟩
def vdS (cho und : Nat → Int32) (w : Int32) : Nat → Nat → Nat → Prop
  | 0, _, _ => False
  | f + 1, c, q => cho c = w ∧ (q = c ∨ (¬ und c = -1 ∧ vdS cho und w f (und c).toNatClampNeg q))
noncomputable def vdN (cho und : Nat → Int32) (w : Int32) : Nat → Nat → Nat
  | 0, _ => 0
  | f + 1, c => iF (cho c = w) (1 + iF (und c = -1) 0 (vdN cho und w f (und c).toNatClampNeg)) 0
theorem vdS_s (cho und : Nat → Int32) (w : Int32) (f c q : Nat) : vdS cho und w (f + 1) c q ↔ cho c = w ∧ (q = c ∨ (¬ und c = -1 ∧ vdS cho und w f (und c).toNatClampNeg q)) := Iff.rfl
theorem vdN_s (cho und : Nat → Int32) (w : Int32) (f c : Nat) : vdN cho und w (f + 1) c = iF (cho c = w) (1 + iF (und c = -1) 0 (vdN cho und w f (und c).toNatClampNeg)) 0 := rfl
section VOID
variable {x y b0 s0 np na nm nr ne : Nat} {g : Nat → Nat → Nat} {m : Nat → Nat} {h : Hp}
theorem vdS_lt (hW : JW y np na nm nr ne m h) (hb : np ≤ 24) (w : Int32) : ∀ f c q, c < np → vdS (aI h 126 (m 126)) (aI h 121 (m 121)) w f c q → q < np := by
  intro f
  induction f with
  | zero => intro c q _ z; exact z.elim
  | succ f ih =>
    intro c q hc z
    rcases z.2 with e | ⟨e1, e2⟩
    · rw [e]; exact hc
    · have zc : ¬ c = 0 := fun zz => by rw [zz] at e1; exact e1 hW.w_u0
      exact ih _ _ (un_e hW hc hb zc).1.1 e2
theorem unchC_e (hJ : JA x y b0 s0 np na nm nr ne g m h) {p w : Nat} (hp : p < np) (hw : w < ne) (Q : Int32 → Hp → Prop) (hQ : Q (nI (vdN (aI h 126 (m 126)) (aI h 121 (m 121)) (nI w) 4 p)) (vR h 650 (img (g 1) (vdS (aI h 126 (m 126)) (aI h 121 (m 121)) (nI w) 4 p)) none)) : l_X10_unchoose_38 (some (g 6 w)) 0 (some (g 1 p)) h Q := by
  have hW := hJ.2.2.2.2.2.1
  have hbd := hJ.2.2.1.2
  have hG := hJ.2.2.2.1
  unfold l_X10_unchoose_38
  refine Lo.count 4 (fun t s h' => (∃ (c : Nat) (S : Nat → Prop), c < np ∧ t ≤ lvN h m c ∧ s = (nI t, some (g 1 c)) ∧ h' = vR h 650 (img (g 1) S) none ∧ (∀ q, S q → q < np ∧ lvN h m q < lvN h m c) ∧ (∀ q, vdS (aI h 126 (m 126)) (aI h 121 (m 121)) (nI w) 4 p q ↔ S q ∨ vdS (aI h 126 (m 126)) (aI h 121 (m 121)) (nI w) (4 - t) c q) ∧ vdN (aI h 126 (m 126)) (aI h 121 (m 121)) (nI w) 4 p = t + vdN (aI h 126 (m 126)) (aI h 121 (m 121)) (nI w) (4 - t) c) ∨ (s = (nI t, none) ∧ h' = vR h 650 (img (g 1) (vdS (aI h 126 (m 126)) (aI h 121 (m 121)) (nI w) 4 p)) none ∧ vdN (aI h 126 (m 126)) (aI h 121 (m 121)) (nI w) 4 p = t)) ?_ 0 (Nat.zero_le _) _ _ (Or.inl ⟨p, fun _ => False, hp, Nat.zero_le _, rfl, (vR_0 _ _ _ _ (fun a ⟨q, z, _⟩ => z)).symm, fun q z => z.elim, fun q => ⟨Or.inr, fun z => z.elim False.elim id⟩, by rw [Nat.zero_add]⟩)
  rintro t s h' ht (⟨c, S, hc, hl, rfl, rfl, hS, hT, hN⟩ | ⟨rfl, rfl, hN⟩) K hK
  rotate_left
  · unfold b_X10_unchoose_38 n_X10_unchoose_71
    rw [hN] at hQ
    simp only [gI_e, gR_e, pI_e, pZ_e, pR_e, ldI_e, ldZ_e, ldL_e, ldR_e, stI_e, stZ_e, stL_e, stR_e, alN_e, nwA_e, nwO_e, dvI_e, rmI_e, oV_e, oN_e, lt_e, rZ_e, br_T, br_F, fR_sI, aI_sI, aL_sI, aR_sI, kd_sI, ln_sI, hn_sI, hm_sI, fI_sI_n, fI_sR, aI_sR, aL_sR, aR_sR, kd_sR, ln_sR, hn_sR, hm_sR, fR_sR_n, fI_tI, fR_tI, aL_tI, aR_tI, kd_tI, ln_tI, hn_tI, hm_tI, aI_tI_n, fI_tL, fR_tL, aI_tL, aR_tL, kd_tL, ln_tL, hn_tL, hm_tL, aL_tL_n, fI_tR, fR_tR, aI_tR, aL_tR, kd_tR, ln_tR, hn_tR, hm_tR, aR_tR_n, hn_nw, hm_nw, rc400, rc403, rc404, rc405, rc407, rc409, rc420, rc440, bI_0, bI_1, bI_T, bI_F, iF_T, iF_F, br_not, le_nlt, not_true_eq_false, not_false_eq_true, and_self, and_true, true_and, and_false, false_and, or_true, true_or, or_false, false_or, ne_eq, reduceCtorEq, Nat.reduceLeDiff, Nat.reduceEqDiff, Nat.reduceLT, Nat.reduceAdd, Nat.reduceSub, Nat.reduceMul, Int32.reduceLT, Int32.reduceLE, Int32.reduceToNatClampNeg, Int32.reduceAdd, Int32.reduceSub, implies_true, forall_const, isIn_e, bit_e, lits]
    exact hQ
  unfold b_X10_unchoose_38 n_X10_unchoose_71
  have q := plF hJ hc
  have l3 := (lv_e hW hc).1
  obtain ⟨f, hf⟩ : ∃ f, 4 - t = f + 1 := ⟨3 - t, by omega⟩
  rw [hf] at hT hN
  have inj := hG.pl_in (by omega)
  have nS : ¬ img (g 1) S (g 1 c) := fun z => by
    have := (hS _ ((img_in inj (fun q z => (hS q z).1) hc).mp z)).2
    omega
  have eqv : (dec (g 6) (aI h 126 (m 126) c) = some (g 6 w)) = (aI h 126 (m 126) c = nI w) := by
    apply propext
    rcases hW.w_cho c hc with e | e
    · rw [e, dec_1]
      exact ⟨(fun z => by cases z), (fun z => absurd z.symm (nI_m1 (by omega)))⟩
    · obtain ⟨j, hj, ej⟩ := vp_ex e
      rw [ej, dec_s _ (nI_m1 (by omega)), nI_clamp (by omega), nI_eq (by omega) (by omega)]
      constructor
      · intro z
        exact hG.pe_in (by omega) j w hj hw (Option.some.inj z)
      · intro z
        rw [z]
  have nmw : ¬ nI w = -1 := nI_m1 (by omega)
  have ew2 : (nI w).toNatClampNeg = w := nI_clamp (by omega)
  by_cases d : aI h 126 (m 126) c = nI w
  · have st : sR (vR h 650 (img (g 1) S) none) 650 (g 1 c) none = vR h 650 (img (g 1) (fun q => S q ∨ q = c)) none := by
      apply vR_s
      intro a
      constructor
      · rintro ⟨q, z | z, e⟩
        · exact Or.inl ⟨q, z, e⟩
        · exact Or.inr (by rw [e, z])
      · rintro (⟨q, z, e⟩ | z)
        · exact ⟨q, Or.inl z, e⟩
        · exact ⟨c, Or.inr rfl, z⟩
    by_cases z : c = 0
    · have u : aI h 121 (m 121) c = -1 := by rw [z]; exact hW.w_u0
      simp (config := {decide := true}) only [gI_e, gR_e, pI_e, pZ_e, pR_e, ldI_e, ldZ_e, ldL_e, ldR_e, stI_e, stZ_e, stL_e, stR_e, alN_e, nwA_e, nwO_e, dvI_e, rmI_e, oV_e, oN_e, lt_e, rZ_e, br_T, br_F, fR_sI, aI_sI, aL_sI, aR_sI, kd_sI, ln_sI, hn_sI, hm_sI, fI_sI_n, fI_sR, aI_sR, aL_sR, aR_sR, kd_sR, ln_sR, hn_sR, hm_sR, fR_sR_n, fI_tI, fR_tI, aL_tI, aR_tI, kd_tI, ln_tI, hn_tI, hm_tI, aI_tI_n, fI_tL, fR_tL, aI_tL, aR_tL, kd_tL, ln_tL, hn_tL, hm_tL, aL_tL_n, fI_tR, fR_tR, aI_tR, aL_tR, kd_tR, ln_tR, hn_tR, hm_tR, aR_tR_n, hn_nw, hm_nw, rc400, rc403, rc404, rc405, rc407, rc409, rc420, rc440, bI_0, bI_1, bI_T, bI_F, iF_T, iF_F, br_not, le_nlt, not_true_eq_false, not_false_eq_true, and_self, and_true, true_and, and_false, false_and, or_true, true_or, or_false, false_or, ne_eq, reduceCtorEq, Nat.reduceLeDiff, Nat.reduceEqDiff, Nat.reduceLT, Nat.reduceAdd, Nat.reduceSub, Nat.reduceMul, Int32.reduceLT, Int32.reduceLE, Int32.reduceToNatClampNeg, Int32.reduceAdd, Int32.reduceSub, implies_true, forall_const, isIn_e, bit_e, lits, bI_T, bI_F, bI_0, bI_1, Int32.add_zero, Int32.zero_add, if_true, if_false, Option.some.injEq, lt_irr, iF_T, iF_F, fR_vR_n, fI_vI_n, aI_vA_n, fI_vR, aI_vR, aL_vR, aR_vR, kd_vR, ln_vR, hn_vR, hm_vR, fR_vI, aI_vI, aL_vI, aR_vI, kd_vI, ln_vI, hn_vI, hm_vI, fI_vA, fR_vA, aL_vA, aR_vA, kd_vA, ln_vA, hn_vA, hm_vA, fR_vR_e, fI_vI_e, aI_vA_e, q, nS, dec_s _ nmw, ew2, d, u, dec_1, st, n1]
      have hS2 : vR h 650 (img (g 1) (fun q => S q ∨ q = c)) none = vR h 650 (img (g 1) (vdS (aI h 126 (m 126)) (aI h 121 (m 121)) (nI w) 4 p)) none := by
        congr 1
        congr 1
        funext q
        apply propext
        rw [hT q, vdS_s, u]
        constructor
        · rintro (z | z)
          · exact Or.inl z
          · exact Or.inr ⟨d, Or.inl z⟩
        · rintro (z | ⟨_, z | z⟩)
          · exact Or.inl z
          · exact Or.inr z
          · exact absurd rfl z.1
      refine hK _ _ (by omega) (Or.inr ⟨rfl, hS2, ?_⟩)
      rw [hN, vdN_s, u, iF_y d, iF_y rfl]
    · obtain ⟨⟨u1, u2⟩, -, u3, u4⟩ := un_e hW hc (by omega) z
      have u5 : (nI (unN h m c)).toNatClampNeg = unN h m c := nI_clamp (by omega)
      have u6 : ¬ nI (unN h m c) = -1 := nI_m1 (by omega)
      simp (config := {decide := true}) only [gI_e, gR_e, pI_e, pZ_e, pR_e, ldI_e, ldZ_e, ldL_e, ldR_e, stI_e, stZ_e, stL_e, stR_e, alN_e, nwA_e, nwO_e, dvI_e, rmI_e, oV_e, oN_e, lt_e, rZ_e, br_T, br_F, fR_sI, aI_sI, aL_sI, aR_sI, kd_sI, ln_sI, hn_sI, hm_sI, fI_sI_n, fI_sR, aI_sR, aL_sR, aR_sR, kd_sR, ln_sR, hn_sR, hm_sR, fR_sR_n, fI_tI, fR_tI, aL_tI, aR_tI, kd_tI, ln_tI, hn_tI, hm_tI, aI_tI_n, fI_tL, fR_tL, aI_tL, aR_tL, kd_tL, ln_tL, hn_tL, hm_tL, aL_tL_n, fI_tR, fR_tR, aI_tR, aL_tR, kd_tR, ln_tR, hn_tR, hm_tR, aR_tR_n, hn_nw, hm_nw, rc400, rc403, rc404, rc405, rc407, rc409, rc420, rc440, bI_0, bI_1, bI_T, bI_F, iF_T, iF_F, br_not, le_nlt, not_true_eq_false, not_false_eq_true, and_self, and_true, true_and, and_false, false_and, or_true, true_or, or_false, false_or, ne_eq, reduceCtorEq, Nat.reduceLeDiff, Nat.reduceEqDiff, Nat.reduceLT, Nat.reduceAdd, Nat.reduceSub, Nat.reduceMul, Int32.reduceLT, Int32.reduceLE, Int32.reduceToNatClampNeg, Int32.reduceAdd, Int32.reduceSub, implies_true, forall_const, isIn_e, bit_e, lits, bI_T, bI_F, bI_0, bI_1, Int32.add_zero, Int32.zero_add, if_true, if_false, Option.some.injEq, lt_irr, iF_T, iF_F, fR_vR_n, fI_vI_n, aI_vA_n, fI_vR, aI_vR, aL_vR, aR_vR, kd_vR, ln_vR, hn_vR, hm_vR, fR_vI, aI_vI, aL_vI, aR_vI, kd_vI, ln_vI, hn_vI, hm_vI, fI_vA, fR_vA, aL_vA, aR_vA, kd_vA, ln_vA, hn_vA, hm_vA, fR_vR_e, fI_vI_e, aI_vA_e, q, nS, dec_s _ nmw, ew2, d, u3, u5, u6, dec_s _ u6, st, n1]
      refine hK _ _ (by omega) (Or.inl ⟨unN h m c, fun q => S q ∨ q = c, u1, by omega, rfl, rfl, ?_, ?_, ?_⟩)
      · rintro q (z | z)
        · have := hS q z
          exact ⟨this.1, by omega⟩
        · rw [z]
          exact ⟨hc, by omega⟩
      · intro q
        rw [hT q, vdS_s, show 4 - (t + 1) = f by omega]
        show _ ↔ (S q ∨ q = c) ∨ vdS _ _ _ f (unN h m c) q
        constructor
        · rintro (z | ⟨_, z | z⟩)
          · exact Or.inl (Or.inl z)
          · exact Or.inl (Or.inr z)
          · exact Or.inr z.2
        · rintro ((z | z) | z)
          · exact Or.inl z
          · exact Or.inr ⟨d, Or.inl z⟩
          · exact Or.inr ⟨d, Or.inr ⟨u4, z⟩⟩
      · rw [hN, vdN_s, iF_y d, iF_n u4, show 4 - (t + 1) = f by omega]
        show t + (1 + vdN _ _ _ f (unN h m c)) = _
        omega
  · have e0 : vdN (aI h 126 (m 126)) (aI h 121 (m 121)) (nI w) (f + 1) c = 0 := by rw [vdN_s, iF_n d]
    have eS : (fun q => S q) = vdS (aI h 126 (m 126)) (aI h 121 (m 121)) (nI w) 4 p := by
      funext q
      apply propext
      rw [hT q, vdS_s]
      exact ⟨Or.inl, fun z => z.elim id (fun z => absurd z.1 d)⟩
    rw [hN, e0, Nat.add_zero, ← eS] at hQ
    simp (config := {decide := true}) only [gI_e, gR_e, pI_e, pZ_e, pR_e, ldI_e, ldZ_e, ldL_e, ldR_e, stI_e, stZ_e, stL_e, stR_e, alN_e, nwA_e, nwO_e, dvI_e, rmI_e, oV_e, oN_e, lt_e, rZ_e, br_T, br_F, fR_sI, aI_sI, aL_sI, aR_sI, kd_sI, ln_sI, hn_sI, hm_sI, fI_sI_n, fI_sR, aI_sR, aL_sR, aR_sR, kd_sR, ln_sR, hn_sR, hm_sR, fR_sR_n, fI_tI, fR_tI, aL_tI, aR_tI, kd_tI, ln_tI, hn_tI, hm_tI, aI_tI_n, fI_tL, fR_tL, aI_tL, aR_tL, kd_tL, ln_tL, hn_tL, hm_tL, aL_tL_n, fI_tR, fR_tR, aI_tR, aL_tR, kd_tR, ln_tR, hn_tR, hm_tR, aR_tR_n, hn_nw, hm_nw, rc400, rc403, rc404, rc405, rc407, rc409, rc420, rc440, bI_0, bI_1, bI_T, bI_F, iF_T, iF_F, br_not, le_nlt, not_true_eq_false, not_false_eq_true, and_self, and_true, true_and, and_false, false_and, or_true, true_or, or_false, false_or, ne_eq, reduceCtorEq, Nat.reduceLeDiff, Nat.reduceEqDiff, Nat.reduceLT, Nat.reduceAdd, Nat.reduceSub, Nat.reduceMul, Int32.reduceLT, Int32.reduceLE, Int32.reduceToNatClampNeg, Int32.reduceAdd, Int32.reduceSub, implies_true, forall_const, isIn_e, bit_e, lits, bI_T, bI_F, bI_0, bI_1, Int32.add_zero, Int32.zero_add, if_true, if_false, Option.some.injEq, lt_irr, iF_T, iF_F, fR_vR_n, fI_vI_n, aI_vA_n, fI_vR, aI_vR, aL_vR, aR_vR, kd_vR, ln_vR, hn_vR, hm_vR, fR_vI, aI_vI, aL_vI, aR_vI, kd_vI, ln_vI, hn_vI, hm_vI, fI_vA, fR_vA, aL_vA, aR_vA, kd_vA, ln_vA, hn_vA, hm_vA, fR_vR_e, fI_vI_e, aI_vA_e, q, nS, eqv, d]
    exact hQ
theorem unchR_e (hR : RJ y np na nm nr ne m h) {p w : Nat} (hp : p < np) (hw : w < ne) (Q : Int32 → Hp → Prop) (hQ : Q (nI (vdN (aI h 126 (m 126)) (aI h 121 (m 121)) (nI w) 4 p)) (vA h 126 (m 126) (vdS (aI h 126 (m 126)) (aI h 121 (m 121)) (nI w) 4 p) (-1))) : l_X11_unchoose_43 (some y) (nI w) 0 (nI p) h Q := by
  have hA := hR.1
  unfold JM at hA
  have hW := hR.2.2.2
  have hbd := hR.2.2.1
  unfold l_X11_unchoose_43
  refine Lo.count 4 (fun t s h' => (∃ (c : Nat) (S : Nat → Prop), c < np ∧ t ≤ lvN h m c ∧ s = (nI t, nI c) ∧ h' = vA h 126 (m 126) S (-1) ∧ (∀ q, S q → q < np ∧ lvN h m q < lvN h m c) ∧ (∀ q, vdS (aI h 126 (m 126)) (aI h 121 (m 121)) (nI w) 4 p q ↔ S q ∨ vdS (aI h 126 (m 126)) (aI h 121 (m 121)) (nI w) (4 - t) c q) ∧ vdN (aI h 126 (m 126)) (aI h 121 (m 121)) (nI w) 4 p = t + vdN (aI h 126 (m 126)) (aI h 121 (m 121)) (nI w) (4 - t) c) ∨ (s = (nI t, -1) ∧ h' = vA h 126 (m 126) (vdS (aI h 126 (m 126)) (aI h 121 (m 121)) (nI w) 4 p) (-1) ∧ vdN (aI h 126 (m 126)) (aI h 121 (m 121)) (nI w) 4 p = t)) ?_ 0 (Nat.zero_le _) _ _ (Or.inl ⟨p, fun _ => False, hp, Nat.zero_le _, rfl, (vA_0 _ _ _ _ _ (fun a z => z)).symm, fun q z => z.elim, fun q => ⟨Or.inr, fun z => z.elim False.elim id⟩, by rw [Nat.zero_add]⟩)
  rintro t s h' ht (⟨c, S, hc, hl, rfl, rfl, hS, hT, hN⟩ | ⟨rfl, rfl, hN⟩) K hK
  rotate_left
  · unfold b_X11_unchoose_43 n_X11_unchoose_83
    rw [hN] at hQ
    simp only [gI_e, gR_e, pI_e, pZ_e, pR_e, ldI_e, ldZ_e, ldL_e, ldR_e, stI_e, stZ_e, stL_e, stR_e, alN_e, nwA_e, nwO_e, dvI_e, rmI_e, oV_e, oN_e, lt_e, rZ_e, br_T, br_F, fR_sI, aI_sI, aL_sI, aR_sI, kd_sI, ln_sI, hn_sI, hm_sI, fI_sI_n, fI_sR, aI_sR, aL_sR, aR_sR, kd_sR, ln_sR, hn_sR, hm_sR, fR_sR_n, fI_tI, fR_tI, aL_tI, aR_tI, kd_tI, ln_tI, hn_tI, hm_tI, aI_tI_n, fI_tL, fR_tL, aI_tL, aR_tL, kd_tL, ln_tL, hn_tL, hm_tL, aL_tL_n, fI_tR, fR_tR, aI_tR, aL_tR, kd_tR, ln_tR, hn_tR, hm_tR, aR_tR_n, hn_nw, hm_nw, rc400, rc403, rc404, rc405, rc407, rc409, rc420, rc440, bI_0, bI_1, bI_T, bI_F, iF_T, iF_F, br_not, le_nlt, not_true_eq_false, not_false_eq_true, and_self, and_true, true_and, and_false, false_and, or_true, true_or, or_false, false_or, ne_eq, reduceCtorEq, Nat.reduceLeDiff, Nat.reduceEqDiff, Nat.reduceLT, Nat.reduceAdd, Nat.reduceSub, Nat.reduceMul, Int32.reduceLT, Int32.reduceLE, Int32.reduceToNatClampNeg, Int32.reduceAdd, Int32.reduceSub, implies_true, forall_const, isIn_e, bit_e, lits]
    exact hQ
  unfold b_X11_unchoose_43 n_X11_unchoose_83
  have cc := cnF hc (show np ≤ 24 by omega) (by decide)
  have l3 := (lv_e hW hc).1
  obtain ⟨f, hf⟩ : ∃ f, 4 - t = f + 1 := ⟨3 - t, by omega⟩
  rw [hf] at hT hN
  have nS : ¬ S c := fun z => by
    have := (hS _ z).2
    omega
  have nm : ¬ nI c = -1 := nI_m1 (by omega)
  by_cases d : aI h 126 (m 126) c = nI w
  · have st : tI (vA h 126 (m 126) S (-1)) 126 (m 126) c (-1) = vA h 126 (m 126) (fun q => S q ∨ q = c) (-1) := vA_s _ _ _ _ _ _ _ (fun a => Iff.rfl)
    by_cases z : c = 0
    · have u : aI h 121 (m 121) c = -1 := by rw [z]; exact hW.w_u0
      simp (config := {decide := true}) only [gI_e, gR_e, pI_e, pZ_e, pR_e, ldI_e, ldZ_e, ldL_e, ldR_e, stI_e, stZ_e, stL_e, stR_e, alN_e, nwA_e, nwO_e, dvI_e, rmI_e, oV_e, oN_e, lt_e, rZ_e, br_T, br_F, fR_sI, aI_sI, aL_sI, aR_sI, kd_sI, ln_sI, hn_sI, hm_sI, fI_sI_n, fI_sR, aI_sR, aL_sR, aR_sR, kd_sR, ln_sR, hn_sR, hm_sR, fR_sR_n, fI_tI, fR_tI, aL_tI, aR_tI, kd_tI, ln_tI, hn_tI, hm_tI, aI_tI_n, fI_tL, fR_tL, aI_tL, aR_tL, kd_tL, ln_tL, hn_tL, hm_tL, aL_tL_n, fI_tR, fR_tR, aI_tR, aL_tR, kd_tR, ln_tR, hn_tR, hm_tR, aR_tR_n, hn_nw, hm_nw, rc400, rc403, rc404, rc405, rc407, rc409, rc420, rc440, bI_0, bI_1, bI_T, bI_F, iF_T, iF_F, br_not, le_nlt, not_true_eq_false, not_false_eq_true, and_self, and_true, true_and, and_false, false_and, or_true, true_or, or_false, false_or, ne_eq, reduceCtorEq, Nat.reduceLeDiff, Nat.reduceEqDiff, Nat.reduceLT, Nat.reduceAdd, Nat.reduceSub, Nat.reduceMul, Int32.reduceLT, Int32.reduceLE, Int32.reduceToNatClampNeg, Int32.reduceAdd, Int32.reduceSub, implies_true, forall_const, isIn_e, bit_e, lits, bI_T, bI_F, bI_0, bI_1, Int32.add_zero, Int32.zero_add, if_true, if_false, Option.some.injEq, lt_irr, iF_T, iF_F, fR_vR_n, fI_vI_n, aI_vA_n, fI_vR, aI_vR, aL_vR, aR_vR, kd_vR, ln_vR, hn_vR, hm_vR, fR_vI, aI_vI, aL_vI, aR_vI, kd_vI, ln_vI, hn_vI, hm_vI, fI_vA, fR_vA, aL_vA, aR_vA, kd_vA, ln_vA, hn_vA, hm_vA, fR_vR_e, fI_vI_e, aI_vA_e, hA, cc, nm, nS, d, u, st, n1]
      have hS2 : vA h 126 (m 126) (fun q => S q ∨ q = c) (-1) = vA h 126 (m 126) (vdS (aI h 126 (m 126)) (aI h 121 (m 121)) (nI w) 4 p) (-1) := by
        congr 1
        funext q
        apply propext
        rw [hT q, vdS_s, u]
        constructor
        · rintro (z | z)
          · exact Or.inl z
          · exact Or.inr ⟨d, Or.inl z⟩
        · rintro (z | ⟨_, z | z⟩)
          · exact Or.inl z
          · exact Or.inr z
          · exact absurd rfl z.1
      refine hK _ _ (by omega) (Or.inr ⟨rfl, hS2, ?_⟩)
      rw [hN, vdN_s, u, iF_y d, iF_y rfl]
    · obtain ⟨⟨u1, u2⟩, -, u3, u4⟩ := un_e hW hc (by omega) z
      simp (config := {decide := true}) only [gI_e, gR_e, pI_e, pZ_e, pR_e, ldI_e, ldZ_e, ldL_e, ldR_e, stI_e, stZ_e, stL_e, stR_e, alN_e, nwA_e, nwO_e, dvI_e, rmI_e, oV_e, oN_e, lt_e, rZ_e, br_T, br_F, fR_sI, aI_sI, aL_sI, aR_sI, kd_sI, ln_sI, hn_sI, hm_sI, fI_sI_n, fI_sR, aI_sR, aL_sR, aR_sR, kd_sR, ln_sR, hn_sR, hm_sR, fR_sR_n, fI_tI, fR_tI, aL_tI, aR_tI, kd_tI, ln_tI, hn_tI, hm_tI, aI_tI_n, fI_tL, fR_tL, aI_tL, aR_tL, kd_tL, ln_tL, hn_tL, hm_tL, aL_tL_n, fI_tR, fR_tR, aI_tR, aL_tR, kd_tR, ln_tR, hn_tR, hm_tR, aR_tR_n, hn_nw, hm_nw, rc400, rc403, rc404, rc405, rc407, rc409, rc420, rc440, bI_0, bI_1, bI_T, bI_F, iF_T, iF_F, br_not, le_nlt, not_true_eq_false, not_false_eq_true, and_self, and_true, true_and, and_false, false_and, or_true, true_or, or_false, false_or, ne_eq, reduceCtorEq, Nat.reduceLeDiff, Nat.reduceEqDiff, Nat.reduceLT, Nat.reduceAdd, Nat.reduceSub, Nat.reduceMul, Int32.reduceLT, Int32.reduceLE, Int32.reduceToNatClampNeg, Int32.reduceAdd, Int32.reduceSub, implies_true, forall_const, isIn_e, bit_e, lits, bI_T, bI_F, bI_0, bI_1, Int32.add_zero, Int32.zero_add, if_true, if_false, Option.some.injEq, lt_irr, iF_T, iF_F, fR_vR_n, fI_vI_n, aI_vA_n, fI_vR, aI_vR, aL_vR, aR_vR, kd_vR, ln_vR, hn_vR, hm_vR, fR_vI, aI_vI, aL_vI, aR_vI, kd_vI, ln_vI, hn_vI, hm_vI, fI_vA, fR_vA, aL_vA, aR_vA, kd_vA, ln_vA, hn_vA, hm_vA, fR_vR_e, fI_vI_e, aI_vA_e, hA, cc, nm, nS, d, u3, st, n1]
      refine hK _ _ (by omega) (Or.inl ⟨unN h m c, fun q => S q ∨ q = c, u1, by omega, rfl, rfl, ?_, ?_, ?_⟩)
      · rintro q (z | z)
        · have := hS q z
          exact ⟨this.1, by omega⟩
        · rw [z]
          exact ⟨hc, by omega⟩
      · intro q
        rw [hT q, vdS_s, show 4 - (t + 1) = f by omega]
        show _ ↔ (S q ∨ q = c) ∨ vdS _ _ _ f (unN h m c) q
        constructor
        · rintro (z | ⟨_, z | z⟩)
          · exact Or.inl (Or.inl z)
          · exact Or.inl (Or.inr z)
          · exact Or.inr z.2
        · rintro ((z | z) | z)
          · exact Or.inl z
          · exact Or.inr ⟨d, Or.inl z⟩
          · exact Or.inr ⟨d, Or.inr ⟨u4, z⟩⟩
      · rw [hN, vdN_s, iF_y d, iF_n u4, show 4 - (t + 1) = f by omega]
        show t + (1 + vdN _ _ _ f (unN h m c)) = _
        omega
  · have e0 : vdN (aI h 126 (m 126)) (aI h 121 (m 121)) (nI w) (f + 1) c = 0 := by rw [vdN_s, iF_n d]
    have eS : (fun q => S q) = vdS (aI h 126 (m 126)) (aI h 121 (m 121)) (nI w) 4 p := by
      funext q
      apply propext
      rw [hT q, vdS_s]
      exact ⟨Or.inl, fun z => z.elim id (fun z => absurd z.1 d)⟩
    rw [hN, e0, Nat.add_zero, ← eS] at hQ
    simp (config := {decide := true}) only [gI_e, gR_e, pI_e, pZ_e, pR_e, ldI_e, ldZ_e, ldL_e, ldR_e, stI_e, stZ_e, stL_e, stR_e, alN_e, nwA_e, nwO_e, dvI_e, rmI_e, oV_e, oN_e, lt_e, rZ_e, br_T, br_F, fR_sI, aI_sI, aL_sI, aR_sI, kd_sI, ln_sI, hn_sI, hm_sI, fI_sI_n, fI_sR, aI_sR, aL_sR, aR_sR, kd_sR, ln_sR, hn_sR, hm_sR, fR_sR_n, fI_tI, fR_tI, aL_tI, aR_tI, kd_tI, ln_tI, hn_tI, hm_tI, aI_tI_n, fI_tL, fR_tL, aI_tL, aR_tL, kd_tL, ln_tL, hn_tL, hm_tL, aL_tL_n, fI_tR, fR_tR, aI_tR, aL_tR, kd_tR, ln_tR, hn_tR, hm_tR, aR_tR_n, hn_nw, hm_nw, rc400, rc403, rc404, rc405, rc407, rc409, rc420, rc440, bI_0, bI_1, bI_T, bI_F, iF_T, iF_F, br_not, le_nlt, not_true_eq_false, not_false_eq_true, and_self, and_true, true_and, and_false, false_and, or_true, true_or, or_false, false_or, ne_eq, reduceCtorEq, Nat.reduceLeDiff, Nat.reduceEqDiff, Nat.reduceLT, Nat.reduceAdd, Nat.reduceSub, Nat.reduceMul, Int32.reduceLT, Int32.reduceLE, Int32.reduceToNatClampNeg, Int32.reduceAdd, Int32.reduceSub, implies_true, forall_const, isIn_e, bit_e, lits, bI_T, bI_F, bI_0, bI_1, Int32.add_zero, Int32.zero_add, if_true, if_false, Option.some.injEq, lt_irr, iF_T, iF_F, fR_vR_n, fI_vI_n, aI_vA_n, fI_vR, aI_vR, aL_vR, aR_vR, kd_vR, ln_vR, hn_vR, hm_vR, fR_vI, aI_vI, aL_vI, aR_vI, kd_vI, ln_vI, hn_vI, hm_vI, fI_vA, fR_vA, aL_vA, aR_vA, kd_vA, ln_vA, hn_vA, hm_vA, fR_vR_e, fI_vI_e, aI_vA_e, hA, cc, nm, nS, d]
    exact hQ
theorem K_unchoose (hJ : JA x y b0 s0 np na nm nr ne g m h) (a : Int32) (Q : Hp → Prop) (hQ : ∀ h2, JJ x y b0 s0 m h2 → Q h2) : w_X10_unchoose (some x) a h (fun r h1 => w_X11_unchoose (some y) a h1 (fun r2 h2 => r = r2 ∧ Q h2)) := by
  have hA := hJ.1; unfold JM at hA; have hB := hJ.2.1; unfold JS at hB; have hC := hJ.2.2.1.1; have hR := hJ.rj; have hf := rf_l hJ; have hn := no_l hR; have hn1 := fun k v => no_l (hJ.rj1 k v); have hp := isPlace_e hR; have ha := isAsk_e hR; have hp1 := fun k v => isPlace_e (hJ.rj1 k v); have ha1 := fun k v => isAsk_e (hJ.rj1 k v)
  have hbd := hJ.2.2.1.2
  have hG := hJ.2.2.2.1
  have hD := hJ.2.2.2.2.1
  have hW := hJ.2.2.2.2.2.1
  unfold w_X10_unchoose n_X10_unchoose_0 w_X11_unchoose n_X11_unchoose_0
  by_cases c : vp_in a np
  rotate_left
  · simp only [gI_e, gR_e, pI_e, pZ_e, pR_e, ldI_e, ldZ_e, ldL_e, ldR_e, stI_e, stZ_e, stL_e, stR_e, alN_e, nwA_e, nwO_e, dvI_e, rmI_e, oV_e, oN_e, lt_e, rZ_e, br_T, br_F, fR_sI, aI_sI, aL_sI, aR_sI, kd_sI, ln_sI, hn_sI, hm_sI, fI_sI_n, fI_sR, aI_sR, aL_sR, aR_sR, kd_sR, ln_sR, hn_sR, hm_sR, fR_sR_n, fI_tI, fR_tI, aL_tI, aR_tI, kd_tI, ln_tI, hn_tI, hm_tI, aI_tI_n, fI_tL, fR_tL, aI_tL, aR_tL, kd_tL, ln_tL, hn_tL, hm_tL, aL_tL_n, fI_tR, fR_tR, aI_tR, aL_tR, kd_tR, ln_tR, hn_tR, hm_tR, aR_tR_n, hn_nw, hm_nw, rc400, rc403, rc404, rc405, rc407, rc409, rc420, rc440, bI_0, bI_1, bI_T, bI_F, iF_T, iF_F, br_not, le_nlt, not_true_eq_false, not_false_eq_true, and_self, and_true, true_and, and_false, false_and, or_true, true_or, or_false, false_or, ne_eq, reduceCtorEq, Nat.reduceLeDiff, Nat.reduceEqDiff, Nat.reduceLT, Nat.reduceAdd, Nat.reduceSub, Nat.reduceMul, Int32.reduceLT, Int32.reduceLE, Int32.reduceToNatClampNeg, Int32.reduceAdd, Int32.reduceSub, implies_true, forall_const, isIn_e, bit_e, lits, hA, hB, hC, hf, hn, hn1, hp, ha, hp1, ha1, placeAt_e hJ, askAt_e hJ, modelAt_e hJ, shelfAt_e hJ, isShelf_e, isGroup_e, isAsked_e, rZ_bI, dec_none, dec_s, dec_1, lt_e, c]
    exact hQ _ (hJ.ref 1 (by decide)).jj
  obtain ⟨p, hpp, rfl⟩ := vp_ex c
  have ep : (nI p).toNatClampNeg = p := nI_clamp (by omega)
  have c24 : vp_in (nI p) 24 := vp_le c (by omega)
  have q := plF hJ hpp
  rcases hW.w_cho p hpp with d | d
  · simp only [gI_e, gR_e, pI_e, pZ_e, pR_e, ldI_e, ldZ_e, ldL_e, ldR_e, stI_e, stZ_e, stL_e, stR_e, alN_e, nwA_e, nwO_e, dvI_e, rmI_e, oV_e, oN_e, lt_e, rZ_e, br_T, br_F, fR_sI, aI_sI, aL_sI, aR_sI, kd_sI, ln_sI, hn_sI, hm_sI, fI_sI_n, fI_sR, aI_sR, aL_sR, aR_sR, kd_sR, ln_sR, hn_sR, hm_sR, fR_sR_n, fI_tI, fR_tI, aL_tI, aR_tI, kd_tI, ln_tI, hn_tI, hm_tI, aI_tI_n, fI_tL, fR_tL, aI_tL, aR_tL, kd_tL, ln_tL, hn_tL, hm_tL, aL_tL_n, fI_tR, fR_tR, aI_tR, aL_tR, kd_tR, ln_tR, hn_tR, hm_tR, aR_tR_n, hn_nw, hm_nw, rc400, rc403, rc404, rc405, rc407, rc409, rc420, rc440, bI_0, bI_1, bI_T, bI_F, iF_T, iF_F, br_not, le_nlt, not_true_eq_false, not_false_eq_true, and_self, and_true, true_and, and_false, false_and, or_true, true_or, or_false, false_or, ne_eq, reduceCtorEq, Nat.reduceLeDiff, Nat.reduceEqDiff, Nat.reduceLT, Nat.reduceAdd, Nat.reduceSub, Nat.reduceMul, Int32.reduceLT, Int32.reduceLE, Int32.reduceToNatClampNeg, Int32.reduceAdd, Int32.reduceSub, implies_true, forall_const, isIn_e, bit_e, lits, hA, hB, hC, hf, hn, hn1, hp, ha, hp1, ha1, placeAt_e hJ, askAt_e hJ, modelAt_e hJ, shelfAt_e hJ, isShelf_e, isGroup_e, isAsked_e, rZ_bI, dec_none, dec_s, dec_1, lt_e, c, c24, ep, q, d]
    exact hQ _ (hJ.ref 6 (by decide)).jj
  · obtain ⟨w, hw, ew⟩ := vp_ex d
    have nw1 : ¬ nI w = -1 := nI_m1 (by omega)
    have ew2 : (nI w).toNatClampNeg = w := nI_clamp (by omega)
    simp only [gI_e, gR_e, pI_e, pZ_e, pR_e, ldI_e, ldZ_e, ldL_e, ldR_e, stI_e, stZ_e, stL_e, stR_e, alN_e, nwA_e, nwO_e, dvI_e, rmI_e, oV_e, oN_e, lt_e, rZ_e, br_T, br_F, fR_sI, aI_sI, aL_sI, aR_sI, kd_sI, ln_sI, hn_sI, hm_sI, fI_sI_n, fI_sR, aI_sR, aL_sR, aR_sR, kd_sR, ln_sR, hn_sR, hm_sR, fR_sR_n, fI_tI, fR_tI, aL_tI, aR_tI, kd_tI, ln_tI, hn_tI, hm_tI, aI_tI_n, fI_tL, fR_tL, aI_tL, aR_tL, kd_tL, ln_tL, hn_tL, hm_tL, aL_tL_n, fI_tR, fR_tR, aI_tR, aL_tR, kd_tR, ln_tR, hn_tR, hm_tR, aR_tR_n, hn_nw, hm_nw, rc400, rc403, rc404, rc405, rc407, rc409, rc420, rc440, bI_0, bI_1, bI_T, bI_F, iF_T, iF_F, br_not, le_nlt, not_true_eq_false, not_false_eq_true, and_self, and_true, true_and, and_false, false_and, or_true, true_or, or_false, false_or, ne_eq, reduceCtorEq, Nat.reduceLeDiff, Nat.reduceEqDiff, Nat.reduceLT, Nat.reduceAdd, Nat.reduceSub, Nat.reduceMul, Int32.reduceLT, Int32.reduceLE, Int32.reduceToNatClampNeg, Int32.reduceAdd, Int32.reduceSub, implies_true, forall_const, isIn_e, bit_e, lits, hA, hB, hC, hf, hn, hn1, hp, ha, hp1, ha1, placeAt_e hJ, askAt_e hJ, modelAt_e hJ, shelfAt_e hJ, isShelf_e, isGroup_e, isAsked_e, rZ_bI, dec_none, dec_s, dec_1, lt_e, c, c24, ep, q, ew, nw1, dec_s _ nw1, ew2]
    refine unchC_e hJ hpp hw _ ?_
    have hR1 := hR.of ((eqM.rf h).vR (f := 650) (by decide) (img (g 1) (vdS (aI h 126 (m 126)) (aI h 121 (m 121)) (nI w) 4 p)) none)
    have hp2 := isPlace_e hR1
    simp (config := {decide := true}) only [gI_e, gR_e, pI_e, pZ_e, pR_e, ldI_e, ldZ_e, ldL_e, ldR_e, stI_e, stZ_e, stL_e, stR_e, alN_e, nwA_e, nwO_e, dvI_e, rmI_e, oV_e, oN_e, lt_e, rZ_e, br_T, br_F, fR_sI, aI_sI, aL_sI, aR_sI, kd_sI, ln_sI, hn_sI, hm_sI, fI_sI_n, fI_sR, aI_sR, aL_sR, aR_sR, kd_sR, ln_sR, hn_sR, hm_sR, fR_sR_n, fI_tI, fR_tI, aL_tI, aR_tI, kd_tI, ln_tI, hn_tI, hm_tI, aI_tI_n, fI_tL, fR_tL, aI_tL, aR_tL, kd_tL, ln_tL, hn_tL, hm_tL, aL_tL_n, fI_tR, fR_tR, aI_tR, aL_tR, kd_tR, ln_tR, hn_tR, hm_tR, aR_tR_n, hn_nw, hm_nw, rc400, rc403, rc404, rc405, rc407, rc409, rc420, rc440, bI_0, bI_1, bI_T, bI_F, iF_T, iF_F, br_not, le_nlt, not_true_eq_false, not_false_eq_true, and_self, and_true, true_and, and_false, false_and, or_true, true_or, or_false, false_or, ne_eq, reduceCtorEq, Nat.reduceLeDiff, Nat.reduceEqDiff, Nat.reduceLT, Nat.reduceAdd, Nat.reduceSub, Nat.reduceMul, Int32.reduceLT, Int32.reduceLE, Int32.reduceToNatClampNeg, Int32.reduceAdd, Int32.reduceSub, implies_true, forall_const, isIn_e, bit_e, lits, hA, hB, hC, hf, hn, hn1, hp, ha, hp1, ha1, placeAt_e hJ, askAt_e hJ, modelAt_e hJ, shelfAt_e hJ, isShelf_e, isGroup_e, isAsked_e, rZ_bI, dec_none, dec_s, dec_1, lt_e, fR_vR_n, fI_vI_n, aI_vA_n, fI_vR, aI_vR, aL_vR, aR_vR, kd_vR, ln_vR, hn_vR, hm_vR, fR_vI, aI_vI, aL_vI, aR_vI, kd_vI, ln_vI, hn_vI, hm_vI, fI_vA, fR_vA, aL_vA, aR_vA, kd_vA, ln_vA, hn_vA, hm_vA, hp2, c, c24, ep, q, ew, nw1, ew2]
    refine unchR_e hR1 hpp hw _ ?_
    refine ⟨rfl, hQ _ ⟨np, na, nm, nr, ne, g, ?_, ?_, hJ.2.2.1, ?_, ?_, ?_, ?_, hJ.2.2.2.2.2.2.2⟩⟩
    · unfold JM
      simp (config := {decide := true}) only [fR_vR_n, fI_vI_n, aI_vA_n, fI_vR, aI_vR, aL_vR, aR_vR, kd_vR, ln_vR, hn_vR, hm_vR, fR_vI, aI_vI, aL_vI, aR_vI, kd_vI, ln_vI, hn_vI, hm_vI, fI_vA, fR_vA, aL_vA, aR_vA, kd_vA, ln_vA, hn_vA, hm_vA]
      exact hJ.1
    · unfold JS
      simp (config := {decide := true}) only [fR_vR_n, fI_vI_n, aI_vA_n, fI_vR, aI_vR, aL_vR, aR_vR, kd_vR, ln_vR, hn_vR, hm_vR, fR_vI, aI_vI, aL_vI, aR_vI, kd_vI, ln_vI, hn_vI, hm_vI, fI_vA, fR_vA, aL_vA, aR_vA, kd_vA, ln_vA, hn_vA, hm_vA]
      exact hJ.2.1
    · unfold JG
      simp (config := {decide := true}) only [fR_vR_n, fI_vI_n, aI_vA_n, fI_vR, aI_vR, aL_vR, aR_vR, kd_vR, ln_vR, hn_vR, hm_vR, fR_vI, aI_vI, aL_vI, aR_vI, kd_vI, ln_vI, hn_vI, hm_vI, fI_vA, fR_vA, aL_vA, aR_vA, kd_vA, ln_vA, hn_vA, hm_vA]
      exact hG
    · unfold JD
      simp (config := {decide := true}) only [fR_vR_n, fI_vI_n, aI_vA_n, fI_vR, aI_vR, aL_vR, aR_vR, kd_vR, ln_vR, hn_vR, hm_vR, fR_vI, aI_vI, aL_vI, aR_vI, kd_vI, ln_vI, hn_vI, hm_vI, fI_vA, fR_vA, aL_vA, aR_vA, kd_vA, ln_vA, hn_vA, hm_vA, fR_vR_e, fI_vI_e, aI_vA_e]
      refine ⟨JD.d_lev hD, JD.d_und hD, JD.d_way hD, JD.d_ord hD, JD.d_mad hD, JD.d_tor hD, ?_, JD.d_yes hD, JD.d_srt hD, JD.d_siz hD, JD.d_sha hD, JD.d_cel hD, JD.d_at hD, JD.d_wha hD, JD.d_who hD, JD.d_muc hD, JD.d_wri hD, JD.d_kin hD, JD.d_lat hD, JD.d_gap hD, JD.d_gon hD, JD.d_yie hD, JD.d_wor hD, JD.d_mod hD, JD.d_int hD, JD.d_dro hD, JD.d_wds hD, JD.d_wdn hD, JD.d_mwh hD, JD.d_mda hD, JD.d_mpl hD, JD.d_mwd hD, JD.d_rle hD, JD.d_rda hD, JD.d_rst hD, JD.d_ppl hD, JD.d_pbo hD, JD.d_cla hD, JD.d_ref hD⟩
      intro i hi
      have e := img_in (G := g 1) (hG.pl_in (by omega)) (fun q z => vdS_lt hW (by omega) (nI w) 4 p q hpp z) hi
      by_cases t : vdS (aI h 126 (m 126)) (aI h 121 (m 121)) (nI w) 4 p i
      · rw [iF_y (e.mpr t), iF_y t, dec_1]
      · rw [iF_n (fun z => t (e.mp z)), iF_n t]
        exact hD.d_cho i hi
    · unfold JW
      simp (config := {decide := true}) only [fR_vR_n, fI_vI_n, aI_vA_n, fI_vR, aI_vR, aL_vR, aR_vR, kd_vR, ln_vR, hn_vR, hm_vR, fR_vI, aI_vI, aL_vI, aR_vI, kd_vI, ln_vI, hn_vI, hm_vI, fI_vA, fR_vA, aL_vA, aR_vA, kd_vA, ln_vA, hn_vA, hm_vA, fR_vR_e, fI_vI_e, aI_vA_e]
      refine ⟨JW.w_l0 hW, JW.w_u0 hW, JW.w_und hW, JW.w_lev hW, JW.w_lv3 hW, JW.w_way hW, JW.w_hea hW, JW.w_tor hW, JW.w_tlv hW, ?_, ?_, JW.w_mad hW, JW.w_mlv hW, JW.w_yes hW, JW.w_hel hW, JW.w_srt hW, JW.w_siz hW, JW.w_sho hW, JW.w_at hW, JW.w_wha hW, JW.w_who hW, JW.w_muc hW, JW.w_wri hW, JW.w_kin hW, JW.w_klv hW, JW.w_mod hW, JW.w_kmo hW, JW.w_int hW, JW.w_dro hW, JW.w_gon hW, JW.w_lat hW, JW.w_gap hW, JW.w_yie hW, JW.w_wor hW, JW.w_wdn hW, JW.w_nsg hW, JW.w_gto hW, JW.w_one hW, JW.w_mwh hW, JW.w_mpl hW, JW.w_mda hW, JW.w_mn hW, JW.w_rle hW, JW.w_rda hW, JW.w_rst hW, JW.w_ppl hW, JW.w_pbo hW, JW.w_cla hW, JW.w_csy hW, JW.w_now hW, JW.w_amd hW, JW.w_hl0 hW, JW.w_src hW, JW.w_zgp hW, JW.w_zyi hW, JW.w_zwn hW, JW.w_zma hW, JW.w_zys hW⟩
      · intro i hi
        by_cases t : vdS (aI h 126 (m 126)) (aI h 121 (m 121)) (nI w) 4 p i
        · rw [iF_y t]; exact Or.inl rfl
        · rw [iF_n t]; exact hW.w_cho i hi
      · by_cases t : vdS (aI h 126 (m 126)) (aI h 121 (m 121)) (nI w) 4 p 0
        · rw [iF_y t]
        · rw [iF_n t]; exact hW.w_c0
    · unfold JE
      simp (config := {decide := true}) only [fR_vR_n, fI_vI_n, aI_vA_n, fI_vR, aI_vR, aL_vR, aR_vR, kd_vR, ln_vR, hn_vR, hm_vR, fR_vI, aI_vI, aL_vI, aR_vI, kd_vI, ln_vI, hn_vI, hm_vI, fI_vA, fR_vA, aL_vA, aR_vA, kd_vA, ln_vA, hn_vA, hm_vA]
      exact hJ.2.2.2.2.2.2.1
theorem sI_id {h : Hp} {f a : Nat} {v : Int32} (e : fI h f a = v) : sI h f a v = h := by
  have : u2 h.1 f a v = h.1 := by
    funext f2 a2
    unfold u2
    by_cases c : f2 = f ∧ a2 = a
    · rw [if_pos c, c.1, c.2]; exact e.symm
    · rw [if_neg c]
  unfold sI
  rw [this]
/-- the asks that a tearing takes -/
def trS (at_ : Nat → Int32) (p : Int32) (i n a : Nat) : Prop := a < n ∧ at_ a = p ∧ i ≤ cN (fun b => at_ b = p) a
theorem tearC_e (hJ : JA x y b0 s0 np na nm nr ne g m h) {p i : Nat} (hp : p < np) (hi : i ≤ 160) (ht : aI h 125 (m 125) p = -1) (sz : Int32) (Q : Int32 → Hp → Prop) (hQ : Q (sz - nI i) (vI (sI h 649 (g 1 p) (nI i)) 13 (img (g 3) (trS (aI h 132 (m 132)) (nI p) i na)) 1)) : l_X10_tear_83 (some x) (nI i) (some (g 1 p)) sz 0 0 (sI h 649 (g 1 p) (nI i)) Q := by
  have hB := hJ.2.1
  unfold JS at hB
  have hC := hJ.2.2.1.1
  have hW := hJ.2.2.2.2.2.1
  have hD := hJ.2.2.2.2.1
  have hbd := hJ.2.2.1.2
  have ep : (nI p).toNatClampNeg = p := nI_clamp (by omega)
  unfold l_X10_tear_83
  refine Lo.run na (fun k => (nI (cN (fun b => aI h 132 (m 132) b = nI p) k), nI k)) (fun k => vI (sI h 649 (g 1 p) (nI i)) 13 (img (g 3) (trS (aI h 132 (m 132)) (nI p) i k)) 1) ?_ ?_ rfl (vI_0 _ _ _ _ (fun a ⟨q, z, _⟩ => by have := z.1; omega)).symm
  · intro k hk K hK
    have c := cnF hk (show na ≤ 160 by omega) (by decide)
    have q := asF hJ hk
    have r := at_g hJ hk hp
    have cl := cN_le (fun b => aI h 132 (m 132) b = nI p) k
    have inj := hJ.2.2.2.1.as_in (by omega)
    unfold b_X10_tear_83 n_X10_tear_124 n_X10_tear_130
    by_cases d : aI h 132 (m 132) k = nI p
    · rw [cN_y (P := fun b => aI h 132 (m 132) b = nI p) d] at hK
      have lt1 : (nI (cN (fun b => aI h 132 (m 132) b = nI p) k) < nI i) = (cN (fun b => aI h 132 (m 132) b = nI p) k < i) := propext (nI_ltI (by omega) (by omega))
      have gp := hW.w_gto k hk (by rw [d, ep]; exact ht)
      by_cases e : cN (fun b => aI h 132 (m 132) b = nI p) k < i
      · have nS : ¬ img (g 3) (trS (aI h 132 (m 132)) (nI p) i k) (g 3 k) := fun ⟨z, z1, z2⟩ => by
          have := inj _ _ hk (by have := z1.1; omega) z2
          have := z1.1
          omega
        have same : sI (vI (sI h 649 (g 1 p) (nI i)) 13 (img (g 3) (trS (aI h 132 (m 132)) (nI p) i k)) 1) 13 (g 3 k) 0 = vI (sI h 649 (g 1 p) (nI i)) 13 (img (g 3) (trS (aI h 132 (m 132)) (nI p) i k)) 1 := by
          apply sI_id
          rw [fI_vI_e, iF_n nS]
          rw [fI_sI_n _ _ _ _ _ (by decide), q.2.2.2.2.2.2.2.2.2.2.1, gp]
        have eS : trS (aI h 132 (m 132)) (nI p) i (k + 1) = trS (aI h 132 (m 132)) (nI p) i k := by
          funext a
          apply propext
          constructor
          · rintro ⟨z1, z2, z3⟩
            refine ⟨?_, z2, z3⟩
            by_cases za : a = k
            · subst za; omega
            · omega
          · rintro ⟨z1, z2, z3⟩
            exact ⟨by omega, z2, z3⟩
        rw [eS] at hK
        simp (config := {decide := true}) only [gI_e, gR_e, pI_e, pZ_e, pR_e, ldI_e, ldZ_e, ldL_e, ldR_e, stI_e, stZ_e, stL_e, stR_e, alN_e, nwA_e, nwO_e, dvI_e, rmI_e, oV_e, oN_e, lt_e, rZ_e, br_T, br_F, fR_sI, aI_sI, aL_sI, aR_sI, kd_sI, ln_sI, hn_sI, hm_sI, fI_sI_n, fI_sR, aI_sR, aL_sR, aR_sR, kd_sR, ln_sR, hn_sR, hm_sR, fR_sR_n, fI_tI, fR_tI, aL_tI, aR_tI, kd_tI, ln_tI, hn_tI, hm_tI, aI_tI_n, fI_tL, fR_tL, aI_tL, aR_tL, kd_tL, ln_tL, hn_tL, hm_tL, aL_tL_n, fI_tR, fR_tR, aI_tR, aL_tR, kd_tR, ln_tR, hn_tR, hm_tR, aR_tR_n, hn_nw, hm_nw, rc400, rc403, rc404, rc405, rc407, rc409, rc420, rc440, bI_0, bI_1, bI_T, bI_F, iF_T, iF_F, br_not, le_nlt, not_true_eq_false, not_false_eq_true, and_self, and_true, true_and, and_false, false_and, or_true, true_or, or_false, false_or, ne_eq, reduceCtorEq, Nat.reduceLeDiff, Nat.reduceEqDiff, Nat.reduceLT, Nat.reduceAdd, Nat.reduceSub, Nat.reduceMul, Int32.reduceLT, Int32.reduceLE, Int32.reduceToNatClampNeg, Int32.reduceAdd, Int32.reduceSub, implies_true, forall_const, isIn_e, bit_e, lits, bI_T, bI_F, bI_0, bI_1, Int32.add_zero, Int32.zero_add, if_true, if_false, Option.some.injEq, lt_irr, iF_T, iF_F, fR_vR_n, fI_vI_n, aI_vA_n, fI_vR, aI_vR, aL_vR, aR_vR, kd_vR, ln_vR, hn_vR, hm_vR, fR_vI, aI_vI, aL_vI, aR_vI, kd_vI, ln_vI, hn_vI, hm_vI, fI_vA, fR_vA, aL_vA, aR_vA, kd_vA, ln_vA, hn_vA, hm_vA, hB, hC, c, q, d, ep, lt1, e, same, n1]
        exact hK
      · have st : sI (vI (sI h 649 (g 1 p) (nI i)) 13 (img (g 3) (trS (aI h 132 (m 132)) (nI p) i k)) 1) 13 (g 3 k) 1 = vI (sI h 649 (g 1 p) (nI i)) 13 (img (g 3) (trS (aI h 132 (m 132)) (nI p) i (k + 1))) 1 := by
          apply vI_s
          intro a
          constructor
          · rintro ⟨z, ⟨z1, z2, z3⟩, z4⟩
            by_cases zk : z = k
            · subst zk; exact Or.inr z4
            · exact Or.inl ⟨z, ⟨by omega, z2, z3⟩, z4⟩
          · rintro (⟨z, ⟨z1, z2, z3⟩, z4⟩ | z)
            · exact ⟨z, ⟨by omega, z2, z3⟩, z4⟩
            · exact ⟨k, ⟨by omega, d, by omega⟩, z⟩
        simp (config := {decide := true}) only [gI_e, gR_e, pI_e, pZ_e, pR_e, ldI_e, ldZ_e, ldL_e, ldR_e, stI_e, stZ_e, stL_e, stR_e, alN_e, nwA_e, nwO_e, dvI_e, rmI_e, oV_e, oN_e, lt_e, rZ_e, br_T, br_F, fR_sI, aI_sI, aL_sI, aR_sI, kd_sI, ln_sI, hn_sI, hm_sI, fI_sI_n, fI_sR, aI_sR, aL_sR, aR_sR, kd_sR, ln_sR, hn_sR, hm_sR, fR_sR_n, fI_tI, fR_tI, aL_tI, aR_tI, kd_tI, ln_tI, hn_tI, hm_tI, aI_tI_n, fI_tL, fR_tL, aI_tL, aR_tL, kd_tL, ln_tL, hn_tL, hm_tL, aL_tL_n, fI_tR, fR_tR, aI_tR, aL_tR, kd_tR, ln_tR, hn_tR, hm_tR, aR_tR_n, hn_nw, hm_nw, rc400, rc403, rc404, rc405, rc407, rc409, rc420, rc440, bI_0, bI_1, bI_T, bI_F, iF_T, iF_F, br_not, le_nlt, not_true_eq_false, not_false_eq_true, and_self, and_true, true_and, and_false, false_and, or_true, true_or, or_false, false_or, ne_eq, reduceCtorEq, Nat.reduceLeDiff, Nat.reduceEqDiff, Nat.reduceLT, Nat.reduceAdd, Nat.reduceSub, Nat.reduceMul, Int32.reduceLT, Int32.reduceLE, Int32.reduceToNatClampNeg, Int32.reduceAdd, Int32.reduceSub, implies_true, forall_const, isIn_e, bit_e, lits, bI_T, bI_F, bI_0, bI_1, Int32.add_zero, Int32.zero_add, if_true, if_false, Option.some.injEq, lt_irr, iF_T, iF_F, fR_vR_n, fI_vI_n, aI_vA_n, fI_vR, aI_vR, aL_vR, aR_vR, kd_vR, ln_vR, hn_vR, hm_vR, fR_vI, aI_vI, aL_vI, aR_vI, kd_vI, ln_vI, hn_vI, hm_vI, fI_vA, fR_vA, aL_vA, aR_vA, kd_vA, ln_vA, hn_vA, hm_vA, hB, hC, c, q, d, ep, lt1, e, st, n1]
        exact hK
    · rw [cN_n (P := fun b => aI h 132 (m 132) b = nI p) d] at hK
      have eS : trS (aI h 132 (m 132)) (nI p) i (k + 1) = trS (aI h 132 (m 132)) (nI p) i k := by
        funext a
        apply propext
        constructor
        · rintro ⟨z1, z2, z3⟩
          refine ⟨?_, z2, z3⟩
          by_cases za : a = k
          · subst za; exact absurd z2 d
          · omega
        · rintro ⟨z1, z2, z3⟩
          exact ⟨by omega, z2, z3⟩
      rw [eS] at hK
      simp (config := {decide := true}) only [gI_e, gR_e, pI_e, pZ_e, pR_e, ldI_e, ldZ_e, ldL_e, ldR_e, stI_e, stZ_e, stL_e, stR_e, alN_e, nwA_e, nwO_e, dvI_e, rmI_e, oV_e, oN_e, lt_e, rZ_e, br_T, br_F, fR_sI, aI_sI, aL_sI, aR_sI, kd_sI, ln_sI, hn_sI, hm_sI, fI_sI_n, fI_sR, aI_sR, aL_sR, aR_sR, kd_sR, ln_sR, hn_sR, hm_sR, fR_sR_n, fI_tI, fR_tI, aL_tI, aR_tI, kd_tI, ln_tI, hn_tI, hm_tI, aI_tI_n, fI_tL, fR_tL, aI_tL, aR_tL, kd_tL, ln_tL, hn_tL, hm_tL, aL_tL_n, fI_tR, fR_tR, aI_tR, aL_tR, kd_tR, ln_tR, hn_tR, hm_tR, aR_tR_n, hn_nw, hm_nw, rc400, rc403, rc404, rc405, rc407, rc409, rc420, rc440, bI_0, bI_1, bI_T, bI_F, iF_T, iF_F, br_not, le_nlt, not_true_eq_false, not_false_eq_true, and_self, and_true, true_and, and_false, false_and, or_true, true_or, or_false, false_or, ne_eq, reduceCtorEq, Nat.reduceLeDiff, Nat.reduceEqDiff, Nat.reduceLT, Nat.reduceAdd, Nat.reduceSub, Nat.reduceMul, Int32.reduceLT, Int32.reduceLE, Int32.reduceToNatClampNeg, Int32.reduceAdd, Int32.reduceSub, implies_true, forall_const, isIn_e, bit_e, lits, bI_T, bI_F, bI_0, bI_1, Int32.add_zero, Int32.zero_add, if_true, if_false, Option.some.injEq, lt_irr, iF_T, iF_F, fR_vR_n, fI_vI_n, aI_vA_n, fI_vR, aI_vR, aL_vR, aR_vR, kd_vR, ln_vR, hn_vR, hm_vR, fR_vI, aI_vI, aL_vI, aR_vI, kd_vI, ln_vI, hn_vI, hm_vI, fI_vA, fR_vA, aL_vA, aR_vA, kd_vA, ln_vA, hn_vA, hm_vA, hB, hC, c, q, r, d]
      exact hK
  · intro K
    unfold b_X10_tear_83
    simp (config := {decide := true}) only [gI_e, gR_e, pI_e, pZ_e, pR_e, ldI_e, ldZ_e, ldL_e, ldR_e, stI_e, stZ_e, stL_e, stR_e, alN_e, nwA_e, nwO_e, dvI_e, rmI_e, oV_e, oN_e, lt_e, rZ_e, br_T, br_F, fR_sI, aI_sI, aL_sI, aR_sI, kd_sI, ln_sI, hn_sI, hm_sI, fI_sI_n, fI_sR, aI_sR, aL_sR, aR_sR, kd_sR, ln_sR, hn_sR, hm_sR, fR_sR_n, fI_tI, fR_tI, aL_tI, aR_tI, kd_tI, ln_tI, hn_tI, hm_tI, aI_tI_n, fI_tL, fR_tL, aI_tL, aR_tL, kd_tL, ln_tL, hn_tL, hm_tL, aL_tL_n, fI_tR, fR_tR, aI_tR, aL_tR, kd_tR, ln_tR, hn_tR, hm_tR, aR_tR_n, hn_nw, hm_nw, rc400, rc403, rc404, rc405, rc407, rc409, rc420, rc440, bI_0, bI_1, bI_T, bI_F, iF_T, iF_F, br_not, le_nlt, not_true_eq_false, not_false_eq_true, and_self, and_true, true_and, and_false, false_and, or_true, true_or, or_false, false_or, ne_eq, reduceCtorEq, Nat.reduceLeDiff, Nat.reduceEqDiff, Nat.reduceLT, Nat.reduceAdd, Nat.reduceSub, Nat.reduceMul, Int32.reduceLT, Int32.reduceLE, Int32.reduceToNatClampNeg, Int32.reduceAdd, Int32.reduceSub, implies_true, forall_const, isIn_e, bit_e, lits, fR_vR_n, fI_vI_n, aI_vA_n, fI_vR, aI_vR, aL_vR, aR_vR, kd_vR, ln_vR, hn_vR, hm_vR, fR_vI, aI_vI, aL_vI, aR_vI, kd_vI, ln_vI, hn_vI, hm_vI, fI_vA, fR_vA, aL_vA, aR_vA, kd_vA, ln_vA, hn_vA, hm_vA, hB, hC, lt_irr]
    exact hQ
theorem tearR2_e (hA : JM y m h) (hC : fI h 1410 y = nI na ∧ na ≤ 160) {p i : Nat} (hi : i ≤ 160) (Q : Int32 → Hp → Prop) (hQ : Q (nI (cN (fun b => aI h 132 (m 132) b = nI p) na - i)) (vA h 202 (m 202) (trS (aI h 132 (m 132)) (nI p) i na) 1)) : l_X11_tear_82 (some y) (nI p) (nI i) 0 0 0 h Q := by
  unfold JM at hA
  have hbd := hC.2
  unfold l_X11_tear_82
  refine Lo.run na (fun k => (nI (cN (fun b => aI h 132 (m 132) b = nI p) k), nI (cN (fun b => aI h 132 (m 132) b = nI p) k - i), nI k)) (fun k => vA h 202 (m 202) (trS (aI h 132 (m 132)) (nI p) i k) 1) ?_ ?_ (by rw [show cN (fun b => aI h 132 (m 132) b = nI p) 0 = 0 from rfl, Nat.zero_sub]; rfl) (vA_0 _ _ _ _ _ (fun a z => by have := z.1; omega)).symm
  · intro k hk K hK
    have c := cnF hk (show na ≤ 160 by omega) (by decide)
    have cl := cN_le (fun b => aI h 132 (m 132) b = nI p) k
    unfold b_X11_tear_82 n_X11_tear_124
    by_cases d : aI h 132 (m 132) k = nI p
    · rw [cN_y (P := fun b => aI h 132 (m 132) b = nI p) d] at hK
      have lt1 : (nI (cN (fun b => aI h 132 (m 132) b = nI p) k) < nI i) = (cN (fun b => aI h 132 (m 132) b = nI p) k < i) := propext (nI_ltI (by omega) (by omega))
      by_cases e : cN (fun b => aI h 132 (m 132) b = nI p) k < i
      · have eS : trS (aI h 132 (m 132)) (nI p) i (k + 1) = trS (aI h 132 (m 132)) (nI p) i k := by
          funext a
          apply propext
          constructor
          · rintro ⟨z1, z2, z3⟩
            refine ⟨?_, z2, z3⟩
            by_cases za : a = k
            · subst za; omega
            · omega
          · rintro ⟨z1, z2, z3⟩
            exact ⟨by omega, z2, z3⟩
        rw [eS, show cN (fun b => aI h 132 (m 132) b = nI p) k + 1 - i = cN (fun b => aI h 132 (m 132) b = nI p) k - i by omega] at hK
        simp (config := {decide := true}) only [gI_e, gR_e, pI_e, pZ_e, pR_e, ldI_e, ldZ_e, ldL_e, ldR_e, stI_e, stZ_e, stL_e, stR_e, alN_e, nwA_e, nwO_e, dvI_e, rmI_e, oV_e, oN_e, lt_e, rZ_e, br_T, br_F, fR_sI, aI_sI, aL_sI, aR_sI, kd_sI, ln_sI, hn_sI, hm_sI, fI_sI_n, fI_sR, aI_sR, aL_sR, aR_sR, kd_sR, ln_sR, hn_sR, hm_sR, fR_sR_n, fI_tI, fR_tI, aL_tI, aR_tI, kd_tI, ln_tI, hn_tI, hm_tI, aI_tI_n, fI_tL, fR_tL, aI_tL, aR_tL, kd_tL, ln_tL, hn_tL, hm_tL, aL_tL_n, fI_tR, fR_tR, aI_tR, aL_tR, kd_tR, ln_tR, hn_tR, hm_tR, aR_tR_n, hn_nw, hm_nw, rc400, rc403, rc404, rc405, rc407, rc409, rc420, rc440, bI_0, bI_1, bI_T, bI_F, iF_T, iF_F, br_not, le_nlt, not_true_eq_false, not_false_eq_true, and_self, and_true, true_and, and_false, false_and, or_true, true_or, or_false, false_or, ne_eq, reduceCtorEq, Nat.reduceLeDiff, Nat.reduceEqDiff, Nat.reduceLT, Nat.reduceAdd, Nat.reduceSub, Nat.reduceMul, Int32.reduceLT, Int32.reduceLE, Int32.reduceToNatClampNeg, Int32.reduceAdd, Int32.reduceSub, implies_true, forall_const, isIn_e, bit_e, lits, fR_vR_n, fI_vI_n, aI_vA_n, fI_vR, aI_vR, aL_vR, aR_vR, kd_vR, ln_vR, hn_vR, hm_vR, fR_vI, aI_vI, aL_vI, aR_vI, kd_vI, ln_vI, hn_vI, hm_vI, fI_vA, fR_vA, aL_vA, aR_vA, kd_vA, ln_vA, hn_vA, hm_vA, hA, hC, c, d, lt1, e, n1]
        exact hK
      · have st : tI (vA h 202 (m 202) (trS (aI h 132 (m 132)) (nI p) i k) 1) 202 (m 202) k 1 = vA h 202 (m 202) (trS (aI h 132 (m 132)) (nI p) i (k + 1)) 1 := by
          apply vA_s
          intro a
          constructor
          · rintro ⟨z1, z2, z3⟩
            by_cases zk : a = k
            · exact Or.inr zk
            · exact Or.inl ⟨by omega, z2, z3⟩
          · rintro (⟨z1, z2, z3⟩ | z)
            · exact ⟨by omega, z2, z3⟩
            · subst z
              exact ⟨by omega, d, by omega⟩
        rw [show cN (fun b => aI h 132 (m 132) b = nI p) k + 1 - i = cN (fun b => aI h 132 (m 132) b = nI p) k - i + 1 by omega] at hK
        simp (config := {decide := true}) only [gI_e, gR_e, pI_e, pZ_e, pR_e, ldI_e, ldZ_e, ldL_e, ldR_e, stI_e, stZ_e, stL_e, stR_e, alN_e, nwA_e, nwO_e, dvI_e, rmI_e, oV_e, oN_e, lt_e, rZ_e, br_T, br_F, fR_sI, aI_sI, aL_sI, aR_sI, kd_sI, ln_sI, hn_sI, hm_sI, fI_sI_n, fI_sR, aI_sR, aL_sR, aR_sR, kd_sR, ln_sR, hn_sR, hm_sR, fR_sR_n, fI_tI, fR_tI, aL_tI, aR_tI, kd_tI, ln_tI, hn_tI, hm_tI, aI_tI_n, fI_tL, fR_tL, aI_tL, aR_tL, kd_tL, ln_tL, hn_tL, hm_tL, aL_tL_n, fI_tR, fR_tR, aI_tR, aL_tR, kd_tR, ln_tR, hn_tR, hm_tR, aR_tR_n, hn_nw, hm_nw, rc400, rc403, rc404, rc405, rc407, rc409, rc420, rc440, bI_0, bI_1, bI_T, bI_F, iF_T, iF_F, br_not, le_nlt, not_true_eq_false, not_false_eq_true, and_self, and_true, true_and, and_false, false_and, or_true, true_or, or_false, false_or, ne_eq, reduceCtorEq, Nat.reduceLeDiff, Nat.reduceEqDiff, Nat.reduceLT, Nat.reduceAdd, Nat.reduceSub, Nat.reduceMul, Int32.reduceLT, Int32.reduceLE, Int32.reduceToNatClampNeg, Int32.reduceAdd, Int32.reduceSub, implies_true, forall_const, isIn_e, bit_e, lits, fR_vR_n, fI_vI_n, aI_vA_n, fI_vR, aI_vR, aL_vR, aR_vR, kd_vR, ln_vR, hn_vR, hm_vR, fR_vI, aI_vI, aL_vI, aR_vI, kd_vI, ln_vI, hn_vI, hm_vI, fI_vA, fR_vA, aL_vA, aR_vA, kd_vA, ln_vA, hn_vA, hm_vA, hA, hC, c, d, lt1, e, st, n1]
        exact hK
    · rw [cN_n (P := fun b => aI h 132 (m 132) b = nI p) d] at hK
      have eS : trS (aI h 132 (m 132)) (nI p) i (k + 1) = trS (aI h 132 (m 132)) (nI p) i k := by
        funext a
        apply propext
        constructor
        · rintro ⟨z1, z2, z3⟩
          refine ⟨?_, z2, z3⟩
          by_cases za : a = k
          · subst za; exact absurd z2 d
          · omega
        · rintro ⟨z1, z2, z3⟩
          exact ⟨by omega, z2, z3⟩
      rw [eS] at hK
      simp (config := {decide := true}) only [gI_e, gR_e, pI_e, pZ_e, pR_e, ldI_e, ldZ_e, ldL_e, ldR_e, stI_e, stZ_e, stL_e, stR_e, alN_e, nwA_e, nwO_e, dvI_e, rmI_e, oV_e, oN_e, lt_e, rZ_e, br_T, br_F, fR_sI, aI_sI, aL_sI, aR_sI, kd_sI, ln_sI, hn_sI, hm_sI, fI_sI_n, fI_sR, aI_sR, aL_sR, aR_sR, kd_sR, ln_sR, hn_sR, hm_sR, fR_sR_n, fI_tI, fR_tI, aL_tI, aR_tI, kd_tI, ln_tI, hn_tI, hm_tI, aI_tI_n, fI_tL, fR_tL, aI_tL, aR_tL, kd_tL, ln_tL, hn_tL, hm_tL, aL_tL_n, fI_tR, fR_tR, aI_tR, aL_tR, kd_tR, ln_tR, hn_tR, hm_tR, aR_tR_n, hn_nw, hm_nw, rc400, rc403, rc404, rc405, rc407, rc409, rc420, rc440, bI_0, bI_1, bI_T, bI_F, iF_T, iF_F, br_not, le_nlt, not_true_eq_false, not_false_eq_true, and_self, and_true, true_and, and_false, false_and, or_true, true_or, or_false, false_or, ne_eq, reduceCtorEq, Nat.reduceLeDiff, Nat.reduceEqDiff, Nat.reduceLT, Nat.reduceAdd, Nat.reduceSub, Nat.reduceMul, Int32.reduceLT, Int32.reduceLE, Int32.reduceToNatClampNeg, Int32.reduceAdd, Int32.reduceSub, implies_true, forall_const, isIn_e, bit_e, lits, fR_vR_n, fI_vI_n, aI_vA_n, fI_vR, aI_vR, aL_vR, aR_vR, kd_vR, ln_vR, hn_vR, hm_vR, fR_vI, aI_vI, aL_vI, aR_vI, kd_vI, ln_vI, hn_vI, hm_vI, fI_vA, fR_vA, aL_vA, aR_vA, kd_vA, ln_vA, hn_vA, hm_vA, hA, hC, c, d]
      exact hK
  · intro K
    unfold b_X11_tear_82
    simp (config := {decide := true}) only [gI_e, gR_e, pI_e, pZ_e, pR_e, ldI_e, ldZ_e, ldL_e, ldR_e, stI_e, stZ_e, stL_e, stR_e, alN_e, nwA_e, nwO_e, dvI_e, rmI_e, oV_e, oN_e, lt_e, rZ_e, br_T, br_F, fR_sI, aI_sI, aL_sI, aR_sI, kd_sI, ln_sI, hn_sI, hm_sI, fI_sI_n, fI_sR, aI_sR, aL_sR, aR_sR, kd_sR, ln_sR, hn_sR, hm_sR, fR_sR_n, fI_tI, fR_tI, aL_tI, aR_tI, kd_tI, ln_tI, hn_tI, hm_tI, aI_tI_n, fI_tL, fR_tL, aI_tL, aR_tL, kd_tL, ln_tL, hn_tL, hm_tL, aL_tL_n, fI_tR, fR_tR, aI_tR, aL_tR, kd_tR, ln_tR, hn_tR, hm_tR, aR_tR_n, hn_nw, hm_nw, rc400, rc403, rc404, rc405, rc407, rc409, rc420, rc440, bI_0, bI_1, bI_T, bI_F, iF_T, iF_F, br_not, le_nlt, not_true_eq_false, not_false_eq_true, and_self, and_true, true_and, and_false, false_and, or_true, true_or, or_false, false_or, ne_eq, reduceCtorEq, Nat.reduceLeDiff, Nat.reduceEqDiff, Nat.reduceLT, Nat.reduceAdd, Nat.reduceSub, Nat.reduceMul, Int32.reduceLT, Int32.reduceLE, Int32.reduceToNatClampNeg, Int32.reduceAdd, Int32.reduceSub, implies_true, forall_const, isIn_e, bit_e, lits, fR_vR_n, fI_vI_n, aI_vA_n, fI_vR, aI_vR, aL_vR, aR_vR, kd_vR, ln_vR, hn_vR, hm_vR, fR_vI, aI_vI, aL_vI, aR_vI, kd_vI, ln_vI, hn_vI, hm_vI, fI_vA, fR_vA, aL_vA, aR_vA, kd_vA, ln_vA, hn_vA, hm_vA, hA, hC, lt_irr]
    exact hQ
theorem K_tear (hJ : JA x y b0 s0 np na nm nr ne g m h) (a i : Int32) (Q : Hp → Prop) (hQ : ∀ h2, JJ x y b0 s0 m h2 → Q h2) : w_X10_tear (some x) a i h (fun r h1 => w_X11_tear (some y) a i h1 (fun r2 h2 => r = r2 ∧ Q h2)) := by
  have hA := hJ.1; unfold JM at hA; have hB := hJ.2.1; unfold JS at hB; have hC := hJ.2.2.1.1; have hR := hJ.rj; have hf := rf_l hJ; have hn := no_l hR; have hn1 := fun k v => no_l (hJ.rj1 k v); have hp := isPlace_e hR; have ha := isAsk_e hR; have hp1 := fun k v => isPlace_e (hJ.rj1 k v); have ha1 := fun k v => isAsk_e (hJ.rj1 k v)
  have hbd := hJ.2.2.1.2
  have hG := hJ.2.2.2.1
  have hD := hJ.2.2.2.2.1
  have hW := hJ.2.2.2.2.2.1
  unfold w_X10_tear n_X10_tear_0 n_X10_tear_65 w_X11_tear n_X11_tear_0 n_X11_tear_60
  by_cases c : vp_in a np
  rotate_left
  · simp only [gI_e, gR_e, pI_e, pZ_e, pR_e, ldI_e, ldZ_e, ldL_e, ldR_e, stI_e, stZ_e, stL_e, stR_e, alN_e, nwA_e, nwO_e, dvI_e, rmI_e, oV_e, oN_e, lt_e, rZ_e, br_T, br_F, fR_sI, aI_sI, aL_sI, aR_sI, kd_sI, ln_sI, hn_sI, hm_sI, fI_sI_n, fI_sR, aI_sR, aL_sR, aR_sR, kd_sR, ln_sR, hn_sR, hm_sR, fR_sR_n, fI_tI, fR_tI, aL_tI, aR_tI, kd_tI, ln_tI, hn_tI, hm_tI, aI_tI_n, fI_tL, fR_tL, aI_tL, aR_tL, kd_tL, ln_tL, hn_tL, hm_tL, aL_tL_n, fI_tR, fR_tR, aI_tR, aL_tR, kd_tR, ln_tR, hn_tR, hm_tR, aR_tR_n, hn_nw, hm_nw, rc400, rc403, rc404, rc405, rc407, rc409, rc420, rc440, bI_0, bI_1, bI_T, bI_F, iF_T, iF_F, br_not, le_nlt, not_true_eq_false, not_false_eq_true, and_self, and_true, true_and, and_false, false_and, or_true, true_or, or_false, false_or, ne_eq, reduceCtorEq, Nat.reduceLeDiff, Nat.reduceEqDiff, Nat.reduceLT, Nat.reduceAdd, Nat.reduceSub, Nat.reduceMul, Int32.reduceLT, Int32.reduceLE, Int32.reduceToNatClampNeg, Int32.reduceAdd, Int32.reduceSub, implies_true, forall_const, isIn_e, bit_e, lits, hA, hB, hC, hf, hn, hn1, hp, ha, hp1, ha1, placeAt_e hJ, askAt_e hJ, modelAt_e hJ, shelfAt_e hJ, isShelf_e, isGroup_e, isAsked_e, rZ_bI, dec_none, dec_s, dec_1, lt_e, c]
    exact hQ _ (hJ.ref 1 (by decide)).jj
  obtain ⟨p, hpp, rfl⟩ := vp_ex c
  have ep : (nI p).toNatClampNeg = p := nI_clamp (by omega)
  have c24 : vp_in (nI p) 24 := vp_le c (by omega)
  have q := plF hJ hpp
  simp only [gI_e, gR_e, pI_e, pZ_e, pR_e, ldI_e, ldZ_e, ldL_e, ldR_e, stI_e, stZ_e, stL_e, stR_e, alN_e, nwA_e, nwO_e, dvI_e, rmI_e, oV_e, oN_e, lt_e, rZ_e, br_T, br_F, fR_sI, aI_sI, aL_sI, aR_sI, kd_sI, ln_sI, hn_sI, hm_sI, fI_sI_n, fI_sR, aI_sR, aL_sR, aR_sR, kd_sR, ln_sR, hn_sR, hm_sR, fR_sR_n, fI_tI, fR_tI, aL_tI, aR_tI, kd_tI, ln_tI, hn_tI, hm_tI, aI_tI_n, fI_tL, fR_tL, aI_tL, aR_tL, kd_tL, ln_tL, hn_tL, hm_tL, aL_tL_n, fI_tR, fR_tR, aI_tR, aL_tR, kd_tR, ln_tR, hn_tR, hm_tR, aR_tR_n, hn_nw, hm_nw, rc400, rc403, rc404, rc405, rc407, rc409, rc420, rc440, bI_0, bI_1, bI_T, bI_F, iF_T, iF_F, br_not, le_nlt, not_true_eq_false, not_false_eq_true, and_self, and_true, true_and, and_false, false_and, or_true, true_or, or_false, false_or, ne_eq, reduceCtorEq, Nat.reduceLeDiff, Nat.reduceEqDiff, Nat.reduceLT, Nat.reduceAdd, Nat.reduceSub, Nat.reduceMul, Int32.reduceLT, Int32.reduceLE, Int32.reduceToNatClampNeg, Int32.reduceAdd, Int32.reduceSub, implies_true, forall_const, isIn_e, bit_e, lits, hA, hB, hC, hf, hn, hn1, hp, ha, hp1, ha1, placeAt_e hJ, askAt_e hJ, modelAt_e hJ, shelfAt_e hJ, isShelf_e, isGroup_e, isAsked_e, rZ_bI, dec_none, dec_s, dec_1, lt_e, c, ep]
  refine sizeOfBook_e hJ hpp _ ?_
  rw [acI_cN]
  have hS := cN_le (fun b => aI h 132 (m 132) b = nI p) na
  have hRbook : ∀ (k : Nat) (v : Int32) (Q2 : Int32 → Hp → Prop), Q2 (nI (cN (fun b => aI h 132 (m 132) b = nI p) na)) (tI h 110 (g 0 6) k v) → w_X11_bookSize (some y) (nI p) (tI h 110 (g 0 6) k v) Q2 := by
    intro k v Q2 hQ2
    refine bookSize_e (hJ.rj1 k v) _ ?_
    rw [acI_cN]
    exact hQ2
  generalize hSS : cN (fun b => aI h 132 (m 132) b = nI p) na = S at *
  by_cases l0 : aI h 120 (m 120) p = 0
  rotate_left
  · simp only [gI_e, gR_e, pI_e, pZ_e, pR_e, ldI_e, ldZ_e, ldL_e, ldR_e, stI_e, stZ_e, stL_e, stR_e, alN_e, nwA_e, nwO_e, dvI_e, rmI_e, oV_e, oN_e, lt_e, rZ_e, br_T, br_F, fR_sI, aI_sI, aL_sI, aR_sI, kd_sI, ln_sI, hn_sI, hm_sI, fI_sI_n, fI_sR, aI_sR, aL_sR, aR_sR, kd_sR, ln_sR, hn_sR, hm_sR, fR_sR_n, fI_tI, fR_tI, aL_tI, aR_tI, kd_tI, ln_tI, hn_tI, hm_tI, aI_tI_n, fI_tL, fR_tL, aI_tL, aR_tL, kd_tL, ln_tL, hn_tL, hm_tL, aL_tL_n, fI_tR, fR_tR, aI_tR, aL_tR, kd_tR, ln_tR, hn_tR, hm_tR, aR_tR_n, hn_nw, hm_nw, rc400, rc403, rc404, rc405, rc407, rc409, rc420, rc440, bI_0, bI_1, bI_T, bI_F, iF_T, iF_F, br_not, le_nlt, not_true_eq_false, not_false_eq_true, and_self, and_true, true_and, and_false, false_and, or_true, true_or, or_false, false_or, ne_eq, reduceCtorEq, Nat.reduceLeDiff, Nat.reduceEqDiff, Nat.reduceLT, Nat.reduceAdd, Nat.reduceSub, Nat.reduceMul, Int32.reduceLT, Int32.reduceLE, Int32.reduceToNatClampNeg, Int32.reduceAdd, Int32.reduceSub, implies_true, forall_const, isIn_e, bit_e, lits, hA, hB, hC, hf, hn, hn1, hp, ha, hp1, ha1, placeAt_e hJ, askAt_e hJ, modelAt_e hJ, shelfAt_e hJ, isShelf_e, isGroup_e, isAsked_e, rZ_bI, dec_none, dec_s, dec_1, lt_e, c, c24, ep, q, l0]
    exact hQ _ (hJ.ref 6 (by decide)).jj
  by_cases i1 : i < 0
  · simp only [gI_e, gR_e, pI_e, pZ_e, pR_e, ldI_e, ldZ_e, ldL_e, ldR_e, stI_e, stZ_e, stL_e, stR_e, alN_e, nwA_e, nwO_e, dvI_e, rmI_e, oV_e, oN_e, lt_e, rZ_e, br_T, br_F, fR_sI, aI_sI, aL_sI, aR_sI, kd_sI, ln_sI, hn_sI, hm_sI, fI_sI_n, fI_sR, aI_sR, aL_sR, aR_sR, kd_sR, ln_sR, hn_sR, hm_sR, fR_sR_n, fI_tI, fR_tI, aL_tI, aR_tI, kd_tI, ln_tI, hn_tI, hm_tI, aI_tI_n, fI_tL, fR_tL, aI_tL, aR_tL, kd_tL, ln_tL, hn_tL, hm_tL, aL_tL_n, fI_tR, fR_tR, aI_tR, aL_tR, kd_tR, ln_tR, hn_tR, hm_tR, aR_tR_n, hn_nw, hm_nw, rc400, rc403, rc404, rc405, rc407, rc409, rc420, rc440, bI_0, bI_1, bI_T, bI_F, iF_T, iF_F, br_not, le_nlt, not_true_eq_false, not_false_eq_true, and_self, and_true, true_and, and_false, false_and, or_true, true_or, or_false, false_or, ne_eq, reduceCtorEq, Nat.reduceLeDiff, Nat.reduceEqDiff, Nat.reduceLT, Nat.reduceAdd, Nat.reduceSub, Nat.reduceMul, Int32.reduceLT, Int32.reduceLE, Int32.reduceToNatClampNeg, Int32.reduceAdd, Int32.reduceSub, implies_true, forall_const, isIn_e, bit_e, lits, hA, hB, hC, hf, hn, hn1, hp, ha, hp1, ha1, placeAt_e hJ, askAt_e hJ, modelAt_e hJ, shelfAt_e hJ, isShelf_e, isGroup_e, isAsked_e, rZ_bI, dec_none, dec_s, dec_1, lt_e, c, c24, ep, q, l0, i1]
    exact hQ _ (hJ.ref 6 (by decide)).jj
  obtain ⟨i0, hi0, rfl⟩ := nI_of i1
  have lt1 : (nI S < nI i0) = (S < i0) := propext (nI_ltI (by omega) (by omega))
  by_cases i2 : S < i0
  · simp only [gI_e, gR_e, pI_e, pZ_e, pR_e, ldI_e, ldZ_e, ldL_e, ldR_e, stI_e, stZ_e, stL_e, stR_e, alN_e, nwA_e, nwO_e, dvI_e, rmI_e, oV_e, oN_e, lt_e, rZ_e, br_T, br_F, fR_sI, aI_sI, aL_sI, aR_sI, kd_sI, ln_sI, hn_sI, hm_sI, fI_sI_n, fI_sR, aI_sR, aL_sR, aR_sR, kd_sR, ln_sR, hn_sR, hm_sR, fR_sR_n, fI_tI, fR_tI, aL_tI, aR_tI, kd_tI, ln_tI, hn_tI, hm_tI, aI_tI_n, fI_tL, fR_tL, aI_tL, aR_tL, kd_tL, ln_tL, hn_tL, hm_tL, aL_tL_n, fI_tR, fR_tR, aI_tR, aL_tR, kd_tR, ln_tR, hn_tR, hm_tR, aR_tR_n, hn_nw, hm_nw, rc400, rc403, rc404, rc405, rc407, rc409, rc420, rc440, bI_0, bI_1, bI_T, bI_F, iF_T, iF_F, br_not, le_nlt, not_true_eq_false, not_false_eq_true, and_self, and_true, true_and, and_false, false_and, or_true, true_or, or_false, false_or, ne_eq, reduceCtorEq, Nat.reduceLeDiff, Nat.reduceEqDiff, Nat.reduceLT, Nat.reduceAdd, Nat.reduceSub, Nat.reduceMul, Int32.reduceLT, Int32.reduceLE, Int32.reduceToNatClampNeg, Int32.reduceAdd, Int32.reduceSub, implies_true, forall_const, isIn_e, bit_e, lits, hA, hB, hC, hf, hn, hn1, hp, ha, hp1, ha1, placeAt_e hJ, askAt_e hJ, modelAt_e hJ, shelfAt_e hJ, isShelf_e, isGroup_e, isAsked_e, rZ_bI, dec_none, dec_s, dec_1, lt_e, c, c24, ep, q, l0, i1, lt1, i2]
    refine hRbook _ _ _ ?_
    simp only [gI_e, gR_e, pI_e, pZ_e, pR_e, ldI_e, ldZ_e, ldL_e, ldR_e, stI_e, stZ_e, stL_e, stR_e, alN_e, nwA_e, nwO_e, dvI_e, rmI_e, oV_e, oN_e, lt_e, rZ_e, br_T, br_F, fR_sI, aI_sI, aL_sI, aR_sI, kd_sI, ln_sI, hn_sI, hm_sI, fI_sI_n, fI_sR, aI_sR, aL_sR, aR_sR, kd_sR, ln_sR, hn_sR, hm_sR, fR_sR_n, fI_tI, fR_tI, aL_tI, aR_tI, kd_tI, ln_tI, hn_tI, hm_tI, aI_tI_n, fI_tL, fR_tL, aI_tL, aR_tL, kd_tL, ln_tL, hn_tL, hm_tL, aL_tL_n, fI_tR, fR_tR, aI_tR, aL_tR, kd_tR, ln_tR, hn_tR, hm_tR, aR_tR_n, hn_nw, hm_nw, rc400, rc403, rc404, rc405, rc407, rc409, rc420, rc440, bI_0, bI_1, bI_T, bI_F, iF_T, iF_F, br_not, le_nlt, not_true_eq_false, not_false_eq_true, and_self, and_true, true_and, and_false, false_and, or_true, true_or, or_false, false_or, ne_eq, reduceCtorEq, Nat.reduceLeDiff, Nat.reduceEqDiff, Nat.reduceLT, Nat.reduceAdd, Nat.reduceSub, Nat.reduceMul, Int32.reduceLT, Int32.reduceLE, Int32.reduceToNatClampNeg, Int32.reduceAdd, Int32.reduceSub, implies_true, forall_const, isIn_e, bit_e, lits, hA, hB, hC, hf, hn, hn1, hp, ha, hp1, ha1, placeAt_e hJ, askAt_e hJ, modelAt_e hJ, shelfAt_e hJ, isShelf_e, isGroup_e, isAsked_e, rZ_bI, dec_none, dec_s, dec_1, lt_e, lt1, i2]
    exact hQ _ (hJ.ref 6 (by decide)).jj
  by_cases t1 : aI h 125 (m 125) p = -1
  rotate_left
  · simp only [gI_e, gR_e, pI_e, pZ_e, pR_e, ldI_e, ldZ_e, ldL_e, ldR_e, stI_e, stZ_e, stL_e, stR_e, alN_e, nwA_e, nwO_e, dvI_e, rmI_e, oV_e, oN_e, lt_e, rZ_e, br_T, br_F, fR_sI, aI_sI, aL_sI, aR_sI, kd_sI, ln_sI, hn_sI, hm_sI, fI_sI_n, fI_sR, aI_sR, aL_sR, aR_sR, kd_sR, ln_sR, hn_sR, hm_sR, fR_sR_n, fI_tI, fR_tI, aL_tI, aR_tI, kd_tI, ln_tI, hn_tI, hm_tI, aI_tI_n, fI_tL, fR_tL, aI_tL, aR_tL, kd_tL, ln_tL, hn_tL, hm_tL, aL_tL_n, fI_tR, fR_tR, aI_tR, aL_tR, kd_tR, ln_tR, hn_tR, hm_tR, aR_tR_n, hn_nw, hm_nw, rc400, rc403, rc404, rc405, rc407, rc409, rc420, rc440, bI_0, bI_1, bI_T, bI_F, iF_T, iF_F, br_not, le_nlt, not_true_eq_false, not_false_eq_true, and_self, and_true, true_and, and_false, false_and, or_true, true_or, or_false, false_or, ne_eq, reduceCtorEq, Nat.reduceLeDiff, Nat.reduceEqDiff, Nat.reduceLT, Nat.reduceAdd, Nat.reduceSub, Nat.reduceMul, Int32.reduceLT, Int32.reduceLE, Int32.reduceToNatClampNeg, Int32.reduceAdd, Int32.reduceSub, implies_true, forall_const, isIn_e, bit_e, lits, hA, hB, hC, hf, hn, hn1, hp, ha, hp1, ha1, placeAt_e hJ, askAt_e hJ, modelAt_e hJ, shelfAt_e hJ, isShelf_e, isGroup_e, isAsked_e, rZ_bI, dec_none, dec_s, dec_1, lt_e, c, c24, ep, q, l0, i1, lt1, i2, t1]
    refine hRbook _ _ _ ?_
    simp only [gI_e, gR_e, pI_e, pZ_e, pR_e, ldI_e, ldZ_e, ldL_e, ldR_e, stI_e, stZ_e, stL_e, stR_e, alN_e, nwA_e, nwO_e, dvI_e, rmI_e, oV_e, oN_e, lt_e, rZ_e, br_T, br_F, fR_sI, aI_sI, aL_sI, aR_sI, kd_sI, ln_sI, hn_sI, hm_sI, fI_sI_n, fI_sR, aI_sR, aL_sR, aR_sR, kd_sR, ln_sR, hn_sR, hm_sR, fR_sR_n, fI_tI, fR_tI, aL_tI, aR_tI, kd_tI, ln_tI, hn_tI, hm_tI, aI_tI_n, fI_tL, fR_tL, aI_tL, aR_tL, kd_tL, ln_tL, hn_tL, hm_tL, aL_tL_n, fI_tR, fR_tR, aI_tR, aL_tR, kd_tR, ln_tR, hn_tR, hm_tR, aR_tR_n, hn_nw, hm_nw, rc400, rc403, rc404, rc405, rc407, rc409, rc420, rc440, bI_0, bI_1, bI_T, bI_F, iF_T, iF_F, br_not, le_nlt, not_true_eq_false, not_false_eq_true, and_self, and_true, true_and, and_false, false_and, or_true, true_or, or_false, false_or, ne_eq, reduceCtorEq, Nat.reduceLeDiff, Nat.reduceEqDiff, Nat.reduceLT, Nat.reduceAdd, Nat.reduceSub, Nat.reduceMul, Int32.reduceLT, Int32.reduceLE, Int32.reduceToNatClampNeg, Int32.reduceAdd, Int32.reduceSub, implies_true, forall_const, isIn_e, bit_e, lits, hA, hB, hC, hf, hn, hn1, hp, ha, hp1, ha1, placeAt_e hJ, askAt_e hJ, modelAt_e hJ, shelfAt_e hJ, isShelf_e, isGroup_e, isAsked_e, rZ_bI, dec_none, dec_s, dec_1, lt_e, lt1, i2, c24, ep, t1]
    exact hQ _ (hJ.ref 6 (by decide)).jj
  have z : ¬ p = 0 := fun z => by rw [z] at l0; exact lv0 hW l0
  obtain ⟨⟨u1, u2⟩, -, u3, u4⟩ := un_e hW hpp (by omega) z
  have u5 : (nI (unN h m p)).toNatClampNeg = unN h m p := nI_clamp (by omega)
  have u6 : ¬ nI (unN h m p) = -1 := nI_m1 (by omega)
  have u7 : vp_in (nI (unN h m p)) 24 := vp_in_nI (by omega) (by decide)
  have q2 := plF hJ u1
  by_cases t2 : aI h 200 (m 200) (unN h m p) = 0
  rotate_left
  · simp only [gI_e, gR_e, pI_e, pZ_e, pR_e, ldI_e, ldZ_e, ldL_e, ldR_e, stI_e, stZ_e, stL_e, stR_e, alN_e, nwA_e, nwO_e, dvI_e, rmI_e, oV_e, oN_e, lt_e, rZ_e, br_T, br_F, fR_sI, aI_sI, aL_sI, aR_sI, kd_sI, ln_sI, hn_sI, hm_sI, fI_sI_n, fI_sR, aI_sR, aL_sR, aR_sR, kd_sR, ln_sR, hn_sR, hm_sR, fR_sR_n, fI_tI, fR_tI, aL_tI, aR_tI, kd_tI, ln_tI, hn_tI, hm_tI, aI_tI_n, fI_tL, fR_tL, aI_tL, aR_tL, kd_tL, ln_tL, hn_tL, hm_tL, aL_tL_n, fI_tR, fR_tR, aI_tR, aL_tR, kd_tR, ln_tR, hn_tR, hm_tR, aR_tR_n, hn_nw, hm_nw, rc400, rc403, rc404, rc405, rc407, rc409, rc420, rc440, bI_0, bI_1, bI_T, bI_F, iF_T, iF_F, br_not, le_nlt, not_true_eq_false, not_false_eq_true, and_self, and_true, true_and, and_false, false_and, or_true, true_or, or_false, false_or, ne_eq, reduceCtorEq, Nat.reduceLeDiff, Nat.reduceEqDiff, Nat.reduceLT, Nat.reduceAdd, Nat.reduceSub, Nat.reduceMul, Int32.reduceLT, Int32.reduceLE, Int32.reduceToNatClampNeg, Int32.reduceAdd, Int32.reduceSub, implies_true, forall_const, isIn_e, bit_e, lits, hA, hB, hC, hf, hn, hn1, hp, ha, hp1, ha1, placeAt_e hJ, askAt_e hJ, modelAt_e hJ, shelfAt_e hJ, isShelf_e, isGroup_e, isAsked_e, rZ_bI, dec_none, dec_s, dec_1, lt_e, c, c24, ep, q, q2, l0, i1, lt1, i2, t1, u3, u5, u6, dec_s _ u6, t2]
    refine hRbook _ _ _ ?_
    simp only [gI_e, gR_e, pI_e, pZ_e, pR_e, ldI_e, ldZ_e, ldL_e, ldR_e, stI_e, stZ_e, stL_e, stR_e, alN_e, nwA_e, nwO_e, dvI_e, rmI_e, oV_e, oN_e, lt_e, rZ_e, br_T, br_F, fR_sI, aI_sI, aL_sI, aR_sI, kd_sI, ln_sI, hn_sI, hm_sI, fI_sI_n, fI_sR, aI_sR, aL_sR, aR_sR, kd_sR, ln_sR, hn_sR, hm_sR, fR_sR_n, fI_tI, fR_tI, aL_tI, aR_tI, kd_tI, ln_tI, hn_tI, hm_tI, aI_tI_n, fI_tL, fR_tL, aI_tL, aR_tL, kd_tL, ln_tL, hn_tL, hm_tL, aL_tL_n, fI_tR, fR_tR, aI_tR, aL_tR, kd_tR, ln_tR, hn_tR, hm_tR, aR_tR_n, hn_nw, hm_nw, rc400, rc403, rc404, rc405, rc407, rc409, rc420, rc440, bI_0, bI_1, bI_T, bI_F, iF_T, iF_F, br_not, le_nlt, not_true_eq_false, not_false_eq_true, and_self, and_true, true_and, and_false, false_and, or_true, true_or, or_false, false_or, ne_eq, reduceCtorEq, Nat.reduceLeDiff, Nat.reduceEqDiff, Nat.reduceLT, Nat.reduceAdd, Nat.reduceSub, Nat.reduceMul, Int32.reduceLT, Int32.reduceLE, Int32.reduceToNatClampNeg, Int32.reduceAdd, Int32.reduceSub, implies_true, forall_const, isIn_e, bit_e, lits, hA, hB, hC, hf, hn, hn1, hp, ha, hp1, ha1, placeAt_e hJ, askAt_e hJ, modelAt_e hJ, shelfAt_e hJ, isShelf_e, isGroup_e, isAsked_e, rZ_bI, dec_none, dec_s, dec_1, lt_e, lt1, i2, c24, ep, t1, u3, u5, u7, t2]
    exact hQ _ (hJ.ref 6 (by decide)).jj
  simp only [gI_e, gR_e, pI_e, pZ_e, pR_e, ldI_e, ldZ_e, ldL_e, ldR_e, stI_e, stZ_e, stL_e, stR_e, alN_e, nwA_e, nwO_e, dvI_e, rmI_e, oV_e, oN_e, lt_e, rZ_e, br_T, br_F, fR_sI, aI_sI, aL_sI, aR_sI, kd_sI, ln_sI, hn_sI, hm_sI, fI_sI_n, fI_sR, aI_sR, aL_sR, aR_sR, kd_sR, ln_sR, hn_sR, hm_sR, fR_sR_n, fI_tI, fR_tI, aL_tI, aR_tI, kd_tI, ln_tI, hn_tI, hm_tI, aI_tI_n, fI_tL, fR_tL, aI_tL, aR_tL, kd_tL, ln_tL, hn_tL, hm_tL, aL_tL_n, fI_tR, fR_tR, aI_tR, aL_tR, kd_tR, ln_tR, hn_tR, hm_tR, aR_tR_n, hn_nw, hm_nw, rc400, rc403, rc404, rc405, rc407, rc409, rc420, rc440, bI_0, bI_1, bI_T, bI_F, iF_T, iF_F, br_not, le_nlt, not_true_eq_false, not_false_eq_true, and_self, and_true, true_and, and_false, false_and, or_true, true_or, or_false, false_or, ne_eq, reduceCtorEq, Nat.reduceLeDiff, Nat.reduceEqDiff, Nat.reduceLT, Nat.reduceAdd, Nat.reduceSub, Nat.reduceMul, Int32.reduceLT, Int32.reduceLE, Int32.reduceToNatClampNeg, Int32.reduceAdd, Int32.reduceSub, implies_true, forall_const, isIn_e, bit_e, lits, hA, hB, hC, hf, hn, hn1, hp, ha, hp1, ha1, placeAt_e hJ, askAt_e hJ, modelAt_e hJ, shelfAt_e hJ, isShelf_e, isGroup_e, isAsked_e, rZ_bI, dec_none, dec_s, dec_1, lt_e, c, c24, ep, q, q2, l0, i1, lt1, i2, t1, u3, u5, u6, dec_s _ u6, t2]
  refine tearC_e hJ hpp (by omega) t1 (nI S) _ ?_
  have hR1 := hR.of (((eqM.rf h).sI (f := 649) (by decide) (g 1 p) (nI i0)).vI (f := 13) (by decide) (img (g 3) (trS (aI h 132 (m 132)) (nI p) i0 na)) 1)
  have hp2 := isPlace_e hR1
  simp (config := {decide := true}) only [gI_e, gR_e, pI_e, pZ_e, pR_e, ldI_e, ldZ_e, ldL_e, ldR_e, stI_e, stZ_e, stL_e, stR_e, alN_e, nwA_e, nwO_e, dvI_e, rmI_e, oV_e, oN_e, lt_e, rZ_e, br_T, br_F, fR_sI, aI_sI, aL_sI, aR_sI, kd_sI, ln_sI, hn_sI, hm_sI, fI_sI_n, fI_sR, aI_sR, aL_sR, aR_sR, kd_sR, ln_sR, hn_sR, hm_sR, fR_sR_n, fI_tI, fR_tI, aL_tI, aR_tI, kd_tI, ln_tI, hn_tI, hm_tI, aI_tI_n, fI_tL, fR_tL, aI_tL, aR_tL, kd_tL, ln_tL, hn_tL, hm_tL, aL_tL_n, fI_tR, fR_tR, aI_tR, aL_tR, kd_tR, ln_tR, hn_tR, hm_tR, aR_tR_n, hn_nw, hm_nw, rc400, rc403, rc404, rc405, rc407, rc409, rc420, rc440, bI_0, bI_1, bI_T, bI_F, iF_T, iF_F, br_not, le_nlt, not_true_eq_false, not_false_eq_true, and_self, and_true, true_and, and_false, false_and, or_true, true_or, or_false, false_or, ne_eq, reduceCtorEq, Nat.reduceLeDiff, Nat.reduceEqDiff, Nat.reduceLT, Nat.reduceAdd, Nat.reduceSub, Nat.reduceMul, Int32.reduceLT, Int32.reduceLE, Int32.reduceToNatClampNeg, Int32.reduceAdd, Int32.reduceSub, implies_true, forall_const, isIn_e, bit_e, lits, hA, hB, hC, hf, hn, hn1, hp, ha, hp1, ha1, placeAt_e hJ, askAt_e hJ, modelAt_e hJ, shelfAt_e hJ, isShelf_e, isGroup_e, isAsked_e, rZ_bI, dec_none, dec_s, dec_1, lt_e, fR_vR_n, fI_vI_n, aI_vA_n, fI_vR, aI_vR, aL_vR, aR_vR, kd_vR, ln_vR, hn_vR, hm_vR, fR_vI, aI_vI, aL_vI, aR_vI, kd_vI, ln_vI, hn_vI, hm_vI, fI_vA, fR_vA, aL_vA, aR_vA, kd_vA, ln_vA, hn_vA, hm_vA, hp2, c, c24, ep, l0, i1]
  refine bookSize_e hR1 _ ?_
  rw [acI_cN]
  simp (config := {decide := true}) only [gI_e, gR_e, pI_e, pZ_e, pR_e, ldI_e, ldZ_e, ldL_e, ldR_e, stI_e, stZ_e, stL_e, stR_e, alN_e, nwA_e, nwO_e, dvI_e, rmI_e, oV_e, oN_e, lt_e, rZ_e, br_T, br_F, fR_sI, aI_sI, aL_sI, aR_sI, kd_sI, ln_sI, hn_sI, hm_sI, fI_sI_n, fI_sR, aI_sR, aL_sR, aR_sR, kd_sR, ln_sR, hn_sR, hm_sR, fR_sR_n, fI_tI, fR_tI, aL_tI, aR_tI, kd_tI, ln_tI, hn_tI, hm_tI, aI_tI_n, fI_tL, fR_tL, aI_tL, aR_tL, kd_tL, ln_tL, hn_tL, hm_tL, aL_tL_n, fI_tR, fR_tR, aI_tR, aL_tR, kd_tR, ln_tR, hn_tR, hm_tR, aR_tR_n, hn_nw, hm_nw, rc400, rc403, rc404, rc405, rc407, rc409, rc420, rc440, bI_0, bI_1, bI_T, bI_F, iF_T, iF_F, br_not, le_nlt, not_true_eq_false, not_false_eq_true, and_self, and_true, true_and, and_false, false_and, or_true, true_or, or_false, false_or, ne_eq, reduceCtorEq, Nat.reduceLeDiff, Nat.reduceEqDiff, Nat.reduceLT, Nat.reduceAdd, Nat.reduceSub, Nat.reduceMul, Int32.reduceLT, Int32.reduceLE, Int32.reduceToNatClampNeg, Int32.reduceAdd, Int32.reduceSub, implies_true, forall_const, isIn_e, bit_e, lits, hA, hB, hC, hf, hn, hn1, hp, ha, hp1, ha1, placeAt_e hJ, askAt_e hJ, modelAt_e hJ, shelfAt_e hJ, isShelf_e, isGroup_e, isAsked_e, rZ_bI, dec_none, dec_s, dec_1, lt_e, fR_vR_n, fI_vI_n, aI_vA_n, fI_vR, aI_vR, aL_vR, aR_vR, kd_vR, ln_vR, hn_vR, hm_vR, fR_vI, aI_vI, aL_vI, aR_vI, kd_vI, ln_vI, hn_vI, hm_vI, fI_vA, fR_vA, aL_vA, aR_vA, kd_vA, ln_vA, hn_vA, hm_vA]
  rw [hSS]
  simp (config := {decide := true}) only [gI_e, gR_e, pI_e, pZ_e, pR_e, ldI_e, ldZ_e, ldL_e, ldR_e, stI_e, stZ_e, stL_e, stR_e, alN_e, nwA_e, nwO_e, dvI_e, rmI_e, oV_e, oN_e, lt_e, rZ_e, br_T, br_F, fR_sI, aI_sI, aL_sI, aR_sI, kd_sI, ln_sI, hn_sI, hm_sI, fI_sI_n, fI_sR, aI_sR, aL_sR, aR_sR, kd_sR, ln_sR, hn_sR, hm_sR, fR_sR_n, fI_tI, fR_tI, aL_tI, aR_tI, kd_tI, ln_tI, hn_tI, hm_tI, aI_tI_n, fI_tL, fR_tL, aI_tL, aR_tL, kd_tL, ln_tL, hn_tL, hm_tL, aL_tL_n, fI_tR, fR_tR, aI_tR, aL_tR, kd_tR, ln_tR, hn_tR, hm_tR, aR_tR_n, hn_nw, hm_nw, rc400, rc403, rc404, rc405, rc407, rc409, rc420, rc440, bI_0, bI_1, bI_T, bI_F, iF_T, iF_F, br_not, le_nlt, not_true_eq_false, not_false_eq_true, and_self, and_true, true_and, and_false, false_and, or_true, true_or, or_false, false_or, ne_eq, reduceCtorEq, Nat.reduceLeDiff, Nat.reduceEqDiff, Nat.reduceLT, Nat.reduceAdd, Nat.reduceSub, Nat.reduceMul, Int32.reduceLT, Int32.reduceLE, Int32.reduceToNatClampNeg, Int32.reduceAdd, Int32.reduceSub, implies_true, forall_const, isIn_e, bit_e, lits, hA, hB, hC, hf, hn, hn1, hp, ha, hp1, ha1, placeAt_e hJ, askAt_e hJ, modelAt_e hJ, shelfAt_e hJ, isShelf_e, isGroup_e, isAsked_e, rZ_bI, dec_none, dec_s, dec_1, lt_e, fR_vR_n, fI_vI_n, aI_vA_n, fI_vR, aI_vR, aL_vR, aR_vR, kd_vR, ln_vR, hn_vR, hm_vR, fR_vI, aI_vI, aL_vI, aR_vI, kd_vI, ln_vI, hn_vI, hm_vI, fI_vA, fR_vA, aL_vA, aR_vA, kd_vA, ln_vA, hn_vA, hm_vA, lt1, i2, c24, ep, t1, u3, u5, u7, t2]
  have hM1 : JM y m (tI (vI (sI h 649 (g 1 p) (nI i0)) 13 (img (g 3) (trS (aI h 132 (m 132)) (nI p) i0 na)) 1) 125 (m 125) p (nI i0)) := hJ.1
  have nt : ¬ nI i0 = -1 := nI_m1 hi0
  have lo : ∀ Q2 : Int32 → Hp → Prop, Q2 (nI (cN (fun b => aI h 132 (m 132) b = nI p) na - i0)) (vA (tI (vI (sI h 649 (g 1 p) (nI i0)) 13 (img (g 3) (trS (aI h 132 (m 132)) (nI p) i0 na)) 1) 125 (m 125) p (nI i0)) 202 (m 202) (trS (aI h 132 (m 132)) (nI p) i0 na) 1) → l_X11_tear_82 (some y) (nI p) (nI i0) 0 0 0 (tI (vI (sI h 649 (g 1 p) (nI i0)) 13 (img (g 3) (trS (aI h 132 (m 132)) (nI p) i0 na)) 1) 125 (m 125) p (nI i0)) Q2 := by
    intro Q2 hQ2
    exact tearR2_e (na := na) hM1 ⟨by simp (config := {decide := true}) only [fR_sI, aI_sI, aL_sI, aR_sI, kd_sI, ln_sI, hn_sI, hm_sI, fI_sI_n, fI_sR, aI_sR, aL_sR, aR_sR, kd_sR, ln_sR, hn_sR, hm_sR, fR_sR_n, fI_tI, fR_tI, aL_tI, aR_tI, kd_tI, ln_tI, hn_tI, hm_tI, aI_tI_n, fI_tL, fR_tL, aI_tL, aR_tL, kd_tL, ln_tL, hn_tL, hm_tL, aL_tL_n, fI_tR, fR_tR, aI_tR, aL_tR, kd_tR, ln_tR, hn_tR, hm_tR, aR_tR_n, hn_nw, hm_nw, fR_vR_n, fI_vI_n, aI_vA_n, fI_vR, aI_vR, aL_vR, aR_vR, kd_vR, ln_vR, hn_vR, hm_vR, fR_vI, aI_vI, aL_vI, aR_vI, kd_vI, ln_vI, hn_vI, hm_vI, fI_vA, fR_vA, aL_vA, aR_vA, kd_vA, ln_vA, hn_vA, hm_vA]; exact hC.2.2.2.2.2.2.1, hbd.2.2.1⟩ (by omega) Q2 hQ2
  refine lo _ ?_
  rw [hSS]
  refine ⟨pk_sub (by omega), hQ _ ⟨np, na, nm, nr, ne, g, hJ.1, ?_, ?_, ?_, ?_, ?_, ?_, hJ.2.2.2.2.2.2.2⟩⟩
  · unfold JS
    simp (config := {decide := true}) only [fR_sI, aI_sI, aL_sI, aR_sI, kd_sI, ln_sI, hn_sI, hm_sI, fI_sI_n, fI_sR, aI_sR, aL_sR, aR_sR, kd_sR, ln_sR, hn_sR, hm_sR, fR_sR_n, fI_tI, fR_tI, aL_tI, aR_tI, kd_tI, ln_tI, hn_tI, hm_tI, aI_tI_n, fI_tL, fR_tL, aI_tL, aR_tL, kd_tL, ln_tL, hn_tL, hm_tL, aL_tL_n, fI_tR, fR_tR, aI_tR, aL_tR, kd_tR, ln_tR, hn_tR, hm_tR, aR_tR_n, hn_nw, hm_nw, fR_vR_n, fI_vI_n, aI_vA_n, fI_vR, aI_vR, aL_vR, aR_vR, kd_vR, ln_vR, hn_vR, hm_vR, fR_vI, aI_vI, aL_vI, aR_vI, kd_vI, ln_vI, hn_vI, hm_vI, fI_vA, fR_vA, aL_vA, aR_vA, kd_vA, ln_vA, hn_vA, hm_vA]
    exact hJ.2.1
  · unfold JC
    simp (config := {decide := true}) only [fR_sI, aI_sI, aL_sI, aR_sI, kd_sI, ln_sI, hn_sI, hm_sI, fI_sI_n, fI_sR, aI_sR, aL_sR, aR_sR, kd_sR, ln_sR, hn_sR, hm_sR, fR_sR_n, fI_tI, fR_tI, aL_tI, aR_tI, kd_tI, ln_tI, hn_tI, hm_tI, aI_tI_n, fI_tL, fR_tL, aI_tL, aR_tL, kd_tL, ln_tL, hn_tL, hm_tL, aL_tL_n, fI_tR, fR_tR, aI_tR, aL_tR, kd_tR, ln_tR, hn_tR, hm_tR, aR_tR_n, hn_nw, hm_nw, fR_vR_n, fI_vI_n, aI_vA_n, fI_vR, aI_vR, aL_vR, aR_vR, kd_vR, ln_vR, hn_vR, hm_vR, fR_vI, aI_vI, aL_vI, aR_vI, kd_vI, ln_vI, hn_vI, hm_vI, fI_vA, fR_vA, aL_vA, aR_vA, kd_vA, ln_vA, hn_vA, hm_vA]
    exact hJ.2.2.1
  · unfold JG
    simp (config := {decide := true}) only [fR_sI, aI_sI, aL_sI, aR_sI, kd_sI, ln_sI, hn_sI, hm_sI, fI_sI_n, fI_sR, aI_sR, aL_sR, aR_sR, kd_sR, ln_sR, hn_sR, hm_sR, fR_sR_n, fI_tI, fR_tI, aL_tI, aR_tI, kd_tI, ln_tI, hn_tI, hm_tI, aI_tI_n, fI_tL, fR_tL, aI_tL, aR_tL, kd_tL, ln_tL, hn_tL, hm_tL, aL_tL_n, fI_tR, fR_tR, aI_tR, aL_tR, kd_tR, ln_tR, hn_tR, hm_tR, aR_tR_n, hn_nw, hm_nw, fR_vR_n, fI_vI_n, aI_vA_n, fI_vR, aI_vR, aL_vR, aR_vR, kd_vR, ln_vR, hn_vR, hm_vR, fR_vI, aI_vI, aL_vI, aR_vI, kd_vI, ln_vI, hn_vI, hm_vI, fI_vA, fR_vA, aL_vA, aR_vA, kd_vA, ln_vA, hn_vA, hm_vA]
    exact hG
  · unfold JD
    simp (config := {decide := true}) only [fR_sI, aI_sI, aL_sI, aR_sI, kd_sI, ln_sI, hn_sI, hm_sI, fI_sI_n, fI_sR, aI_sR, aL_sR, aR_sR, kd_sR, ln_sR, hn_sR, hm_sR, fR_sR_n, fI_tI, fR_tI, aL_tI, aR_tI, kd_tI, ln_tI, hn_tI, hm_tI, aI_tI_n, fI_tL, fR_tL, aI_tL, aR_tL, kd_tL, ln_tL, hn_tL, hm_tL, aL_tL_n, fI_tR, fR_tR, aI_tR, aL_tR, kd_tR, ln_tR, hn_tR, hm_tR, aR_tR_n, hn_nw, hm_nw, fI_sI_e, fR_sR_e, aI_tI_e, aL_tL_e, aR_tR_e, fR_vR_n, fI_vI_n, aI_vA_n, fI_vR, aI_vR, aL_vR, aR_vR, kd_vR, ln_vR, hn_vR, hm_vR, fR_vI, aI_vI, aL_vI, aR_vI, kd_vI, ln_vI, hn_vI, hm_vI, fI_vA, fR_vA, aL_vA, aR_vA, kd_vA, ln_vA, hn_vA, hm_vA, fR_vR_e, fI_vI_e, aI_vA_e, true_and]
    refine ⟨JD.d_lev hD, JD.d_und hD, JD.d_way hD, JD.d_ord hD, JD.d_mad hD, ?_, JD.d_cho hD, JD.d_yes hD, JD.d_srt hD, JD.d_siz hD, JD.d_sha hD, JD.d_cel hD, JD.d_at hD, JD.d_wha hD, JD.d_who hD, JD.d_muc hD, JD.d_wri hD, JD.d_kin hD, JD.d_lat hD, ?_, JD.d_gon hD, JD.d_yie hD, JD.d_wor hD, JD.d_mod hD, JD.d_int hD, JD.d_dro hD, JD.d_wds hD, JD.d_wdn hD, JD.d_mwh hD, JD.d_mda hD, JD.d_mpl hD, JD.d_mwd hD, JD.d_rle hD, JD.d_rda hD, JD.d_rst hD, JD.d_ppl hD, JD.d_pbo hD, JD.d_cla hD, JD.d_ref hD⟩
    · exact col_upd (hG.pl_in (by omega)) hpp hD.d_tor
    · intro j hj
      have e := img_in (G := g 3) (n := na) (hG.as_in (by omega)) (fun q z => z.1) (S := trS (aI h 132 (m 132)) (nI p) i0 na) hj
      by_cases t : trS (aI h 132 (m 132)) (nI p) i0 na j
      · rw [iF_y (e.mpr t), iF_y t]
      · rw [iF_n (fun z => t (e.mp z)), iF_n t]
        exact hD.d_gap j hj
  · unfold JW
    simp (config := {decide := true}) only [fR_sI, aI_sI, aL_sI, aR_sI, kd_sI, ln_sI, hn_sI, hm_sI, fI_sI_n, fI_sR, aI_sR, aL_sR, aR_sR, kd_sR, ln_sR, hn_sR, hm_sR, fR_sR_n, fI_tI, fR_tI, aL_tI, aR_tI, kd_tI, ln_tI, hn_tI, hm_tI, aI_tI_n, fI_tL, fR_tL, aI_tL, aR_tL, kd_tL, ln_tL, hn_tL, hm_tL, aL_tL_n, fI_tR, fR_tR, aI_tR, aL_tR, kd_tR, ln_tR, hn_tR, hm_tR, aR_tR_n, hn_nw, hm_nw, fI_sI_e, fR_sR_e, aI_tI_e, aL_tL_e, aR_tR_e, fR_vR_n, fI_vI_n, aI_vA_n, fI_vR, aI_vR, aL_vR, aR_vR, kd_vR, ln_vR, hn_vR, hm_vR, fR_vI, aI_vI, aL_vI, aR_vI, kd_vI, ln_vI, hn_vI, hm_vI, fI_vA, fR_vA, aL_vA, aR_vA, kd_vA, ln_vA, hn_vA, hm_vA, fR_vR_e, fI_vI_e, aI_vA_e, true_and]
    refine ⟨JW.w_l0 hW, JW.w_u0 hW, JW.w_und hW, JW.w_lev hW, JW.w_lv3 hW, JW.w_way hW, JW.w_hea hW, ?_, ?_, JW.w_cho hW, JW.w_c0 hW, JW.w_mad hW, JW.w_mlv hW, JW.w_yes hW, JW.w_hel hW, JW.w_srt hW, JW.w_siz hW, JW.w_sho hW, JW.w_at hW, JW.w_wha hW, JW.w_who hW, JW.w_muc hW, JW.w_wri hW, JW.w_kin hW, JW.w_klv hW, JW.w_mod hW, JW.w_kmo hW, JW.w_int hW, JW.w_dro hW, JW.w_gon hW, JW.w_lat hW, ?_, JW.w_yie hW, JW.w_wor hW, JW.w_wdn hW, ?_, ?_, JW.w_one hW, JW.w_mwh hW, JW.w_mpl hW, JW.w_mda hW, JW.w_mn hW, JW.w_rle hW, JW.w_rda hW, JW.w_rst hW, JW.w_ppl hW, JW.w_pbo hW, JW.w_cla hW, JW.w_csy hW, JW.w_now hW, JW.w_amd hW, JW.w_hl0 hW, JW.w_src hW, ?_, JW.w_zyi hW, JW.w_zwn hW, JW.w_zma hW, JW.w_zys hW⟩
    · intro j hj
      by_cases e : j = p
      · rw [if_pos e, nI_toInt (by omega)]; omega
      · rw [if_neg e]; exact hW.w_tor j hj
    · intro j hj hl
      by_cases e : j = p
      · rw [e] at hl; exact absurd l0 hl
      · rw [if_neg e]; exact hW.w_tlv j hj hl
    · intro j hj
      by_cases t : trS (aI h 132 (m 132)) (nI p) i0 na j
      · rw [iF_y t]; exact Or.inr rfl
      · rw [iF_n t]; exact hW.w_gap j hj
    · intro j hj hl
      have t : ¬ trS (aI h 132 (m 132)) (nI p) i0 na j := fun t => by
        rw [t.2.1, ep] at hl
        exact hl l0
      rw [iF_n t]
      exact hW.w_nsg j hj hl
    · intro j hj hl
      by_cases e : (aI h 132 (m 132) j).toNatClampNeg = p
      · rw [if_pos e] at hl; exact absurd hl nt
      · rw [if_neg e] at hl
        have t : ¬ trS (aI h 132 (m 132)) (nI p) i0 na j := fun t => by
          rw [t.2.1, ep] at e
          exact e rfl
        rw [iF_n t]
        exact hW.w_gto j hj hl
    · intro j h1 h2
      rw [iF_n (fun t => by have := t.1; omega)]
      exact hW.w_zgp j h1 h2
  · unfold JE
    simp (config := {decide := true}) only [fR_sI, aI_sI, aL_sI, aR_sI, kd_sI, ln_sI, hn_sI, hm_sI, fI_sI_n, fI_sR, aI_sR, aL_sR, aR_sR, kd_sR, ln_sR, hn_sR, hm_sR, fR_sR_n, fI_tI, fR_tI, aL_tI, aR_tI, kd_tI, ln_tI, hn_tI, hm_tI, aI_tI_n, fI_tL, fR_tL, aI_tL, aR_tL, kd_tL, ln_tL, hn_tL, hm_tL, aL_tL_n, fI_tR, fR_tR, aI_tR, aL_tR, kd_tR, ln_tR, hn_tR, hm_tR, aR_tR_n, hn_nw, hm_nw, fR_vR_n, fI_vI_n, aI_vA_n, fI_vR, aI_vR, aL_vR, aR_vR, kd_vR, ln_vR, hn_vR, hm_vR, fR_vI, aI_vI, aL_vI, aR_vI, kd_vI, ln_vI, hn_vI, hm_vI, fI_vA, fR_vA, aL_vA, aR_vA, kd_vA, ln_vA, hn_vA, hm_vA]
    exact hJ.2.2.2.2.2.2.1
end VOID
