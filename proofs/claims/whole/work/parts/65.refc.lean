theorem grN_z {L : Nat → Int32} {n : Nat} {s : RS} (h : ¬ s.2 = -1) : grN L n s = -1 := by
  unfold grN
  rw [if_neg (fun w => h w.1)]
theorem grF_z {s : RS} (h : ¬ s.2 = -1) : grF s = s := by
  unfold grF
  rw [if_neg h]
theorem grW_z {L : Nat → Int32} {n : Nat} {s : RS} {c : Int32} (hc : ¬ c = -1) (h : ¬ s.2 = -1) : grW (grN L n) c s = s := by
  unfold grW grP
  rw [grN_z h, iF_n (fun w => hc w.symm), grF_z h]
theorem grSide_z {L : Nat → Int32} {n : Nat} {s : RS} (h : ¬ s.2 = -1) : (grSide (grN L n) s).2 = s := by
  unfold grSide grFld
  rw [grN_z h, iF_n dg_m1, iF_n (by rw [fIx_m1]; decide)]
  exact grF_z h
theorem grTst_z {L : Nat → Int32} {n : Nat} {s : RS} (h : ¬ s.2 = -1) : (grTst (grN L n) s).1 = s := by
  unfold grTst grTst2
  show (grSide (grN L n) (grP (grSg (grN L n (grSide (grN L n) s).2)) (grSide (grN L n) s).2)).2 = s
  rw [grSide_z h, grN_z h]
  unfold grP
  rw [iF_n (by unfold grSg; decide), grF_z h, grSide_z h]
theorem grLoop_z {L : Nat → Int32} {n : Nat} {c oc : Int32} (hc : ¬ c = -1) {cmb : Prop → Prop → Prop} {W : Nat → RS → GR} {r : GR} (h : ¬ r.1.2 = -1) : ∀ k, grLoop (grN L n) c oc cmb W k r = r := by
  intro k
  cases k with
  | zero => rfl
  | succ k =>
    rw [grLoop_s, grN_z h, iF_n (fun w => hc w.symm)]
theorem grG_z {L : Nat → Int32} {n : Nat} : ∀ f k d t (s : RS), k ≤ 2 → ¬ s.2 = -1 → (grG (grN L n) f k d t s).1 = s := by
  intro f
  induction f with
  | zero => intro k d t s _ _; rw [grG]; rfl
  | succ f ih =>
    intro k d t s hk h
    obtain rfl | rfl | rfl : k = 0 ∨ k = 1 ∨ k = 2 := by omega
    · have i := ih 1 d t s (by decide) h
      rw [grG_0, grLoop_z (by decide) (by rw [i]; exact h), i]
    · have i := ih 2 d t s (by decide) h
      rw [grG_1, grLoop_z (by decide) (by rw [i]; exact h), i]
    · rw [grG_2, grN_z h, iF_n (by decide)]
      exact grTst_z h
def op1 (c : Int32) : Int32 := if c = 38 then -2 else -3
/-- what is still to be told of the signs on the heap, the last one first -/
def pcode : List Int32 → List Int32
  | [] => []
  | c :: P => pcode P ++ [op1 c]
theorem pcode_a (X Y : List Int32) : pcode (X ++ Y) = pcode Y ++ pcode X := by
  induction X with
  | nil => exact (List.append_nil _).symm
  | cons c X ih =>
    show pcode (X ++ Y) ++ [op1 c] = pcode Y ++ (pcode X ++ [op1 c])
    rw [ih, List.append_assoc]
theorem pcode_l (X : List Int32) : (pcode X).length = X.length := by
  induction X with
  | nil => rfl
  | cons c X ih =>
    show (pcode X ++ [op1 c]).length = X.length + 1
    rw [List.length_append, ih]
    rfl
theorem lst_c (P : List Int32) : P = [] ∨ ∃ A c, P = A ++ [c] := by
  induction P with
  | nil => exact Or.inl rfl
  | cons c P ih =>
    right
    rcases ih with e | ⟨A, b, e⟩
    · exact ⟨[], c, by rw [e]; rfl⟩
    · exact ⟨c :: A, b, by rw [e]; rfl⟩
theorem len1 {α : Type} (S : List α) (c : α) : (S ++ [c]).length = S.length + 1 := by rw [List.length_append]; rfl
def tTT (h : Hp) (m : Nat → Nat) (j : Nat) : RT := (aI h 154 (m 154) j, aI h 155 (m 155) j, aI h 156 (m 156) j, aI h 157 (m 157) j, aI h 158 (m 158) j)
section REFC
variable {x y b0 s0 np na nm nr ne r sb n a d : Nat} {g : Nat → Nat → Nat} {m : Nat → Nat} {h0 h h1 : Hp} {L V : Nat → Int32} {S C : List Int32} {T : List RT}
/-- the reference stands here, with these signs, so deep, and these steps and tests told -/
def KQ (y : Nat) (m : Nat → Nat) (r n : Nat) (h0 h : Hp) (a : Nat) (S : List Int32) (d : Nat) (C : List Int32) (T : List RT) : Prop := PR y m r n h0 h a ∧ fI h 1473 y = nI S.length ∧ fI h 1474 y = nI d ∧ fI h 1471 y = nI C.length ∧ fI h 1472 y = nI T.length ∧ (∀ i, i < S.length → aI h 163 (m 163) i = S.getD i 0) ∧ (∀ i, i < C.length → aI h 153 (m 153) (100 * r + i) = C.getD i 0) ∧ ∀ i, i < T.length → tTT h m (40 * r + i) = T.getD i (0, 0, 0, 0, 0)
theorem KQ.sd (R : KQ y m r n h0 h a S d C T) (e : eqX sdF crK h h1) {k : Nat} (hk : k ≤ n) (hv : fI h1 1468 y = nI k) : KQ y m r n h0 h1 k S d C T := by
  obtain ⟨p, r1, r2, r3, r4, r5, r6, r7⟩ := R
  have e2 := e
  obtain ⟨e1, e2, e3, e4, e5, e6, e7, e8, e9⟩ := e2
  refine ⟨⟨p.1.sd e, hk, hv⟩, ?_, ?_, ?_, ?_, ?_, ?_, ?_⟩
  · rw [e6 1473 rfl]; exact r1
  · rw [e6 1474 rfl]; exact r2
  · rw [e6 1471 rfl]; exact r3
  · rw [e6 1472 rfl]; exact r4
  · rw [e7 163 rfl]; exact r5
  · rw [e7 153 rfl]; exact r6
  · unfold tTT
    rw [e7 154 rfl, e7 155 rfl, e7 156 rfl, e7 157 rfl, e7 158 rfl]
    exact r7
theorem KQ.at (R : KQ y m r n h0 h a S d C T) {k : Nat} (hk : k ≤ n) : KQ y m r n h0 (sI h 1468 y (nI k)) k S d C T := R.sd ((eqX.rf h).sI rfl _ _) hk (by rw [fI_sI_e, if_pos rfl])
theorem KQ.nest (R : KQ y m r n h0 h a S d C T) (k : Nat) : KQ y m r n h0 (sI h 1474 y (nI k)) a S k C T := by
  obtain ⟨⟨p1, p2, p3⟩, r1, r2, r3, r4, r5, r6, r7⟩ := R
  refine ⟨⟨p1.sI rfl _ _, p2, ?_⟩, ?_, ?_, ?_, ?_, r5, r6, r7⟩
  · rw [fI_sI_n _ _ _ _ _ (by decide)]; exact p3
  · rw [fI_sI_n _ _ _ _ _ (by decide)]; exact r1
  · rw [fI_sI_e, if_pos rfl]
  · rw [fI_sI_n _ _ _ _ _ (by decide)]; exact r3
  · rw [fI_sI_n _ _ _ _ _ (by decide)]; exact r4
theorem KQ.pop {c : Int32} (R : KQ y m r n h0 h a (S ++ [c]) d C T) : KQ y m r n h0 (sI h 1473 y (nI S.length)) a S d C T := by
  obtain ⟨⟨p1, p2, p3⟩, r1, r2, r3, r4, r5, r6, r7⟩ := R
  refine ⟨⟨p1.sI rfl _ _, p2, ?_⟩, ?_, ?_, ?_, ?_, fun i hi => ?_, r6, r7⟩
  · rw [fI_sI_n _ _ _ _ _ (by decide)]; exact p3
  · rw [fI_sI_e, if_pos rfl]
  · rw [fI_sI_n _ _ _ _ _ (by decide)]; exact r2
  · rw [fI_sI_n _ _ _ _ _ (by decide)]; exact r3
  · rw [fI_sI_n _ _ _ _ _ (by decide)]; exact r4
  · have := r5 i (by rw [len1]; omega)
    rw [gDl hi] at this
    exact this
theorem KQ.push (R : KQ y m r n h0 h a S d C T) (c : Int32) : KQ y m r n h0 (tI (sI h 1473 y (nI (S.length + 1))) 163 (m 163) S.length c) a (S ++ [c]) d C T := by
  obtain ⟨⟨p1, p2, p3⟩, r1, r2, r3, r4, r5, r6, r7⟩ := R
  refine ⟨⟨(p1.sI rfl _ _).t163 _ _ _, p2, ?_⟩, ?_, ?_, ?_, ?_, fun i hi => ?_, ?_, ?_⟩
  · rw [fI_tI, fI_sI_n _ _ _ _ _ (by decide)]; exact p3
  · rw [fI_tI, fI_sI_e, if_pos rfl, len1]
  · rw [fI_tI, fI_sI_n _ _ _ _ _ (by decide)]; exact r2
  · rw [fI_tI, fI_sI_n _ _ _ _ _ (by decide)]; exact r3
  · rw [fI_tI, fI_sI_n _ _ _ _ _ (by decide)]; exact r4
  · rw [len1] at hi
    rw [aI_tI_e]
    by_cases z : i = S.length
    · rw [if_pos ⟨rfl, z⟩, z, gDr]
    · rw [if_neg (fun w => z w.2), gDl (by omega)]
      exact r5 i (by omega)
  · simp (config := {decide := true}) only [fR_sI, aI_sI, aL_sI, aR_sI, kd_sI, ln_sI, hn_sI, hm_sI, fI_sI_n, fI_sR, aI_sR, aL_sR, aR_sR, kd_sR, ln_sR, hn_sR, hm_sR, fR_sR_n, fI_tI, fR_tI, aL_tI, aR_tI, kd_tI, ln_tI, hn_tI, hm_tI, aI_tI_n, fI_tL, fR_tL, aI_tL, aR_tL, kd_tL, ln_tL, hn_tL, hm_tL, aL_tL_n, fI_tR, fR_tR, aI_tR, aL_tR, kd_tR, ln_tR, hn_tR, hm_tR, aR_tR_n, hn_nw, hm_nw]
    exact r6
  · unfold tTT at r7 ⊢
    simp (config := {decide := true}) only [fR_sI, aI_sI, aL_sI, aR_sI, kd_sI, ln_sI, hn_sI, hm_sI, fI_sI_n, fI_sR, aI_sR, aL_sR, aR_sR, kd_sR, ln_sR, hn_sR, hm_sR, fR_sR_n, fI_tI, fR_tI, aL_tI, aR_tI, kd_tI, ln_tI, hn_tI, hm_tI, aI_tI_n, fI_tL, fR_tL, aI_tL, aR_tL, kd_tL, ln_tL, hn_tL, hm_tL, aL_tL_n, fI_tR, fR_tR, aI_tR, aL_tR, kd_tR, ln_tR, hn_tR, hm_tR, aR_tR_n, hn_nw, hm_nw]
    exact r7
theorem emits_e (hB : RB y r sb n L m h0) (R : KQ y m r n h0 h a S d C T) (c : Int32) (hC : C.length < 100) (Q : Hp → Prop) (hQ : ∀ h', KQ y m r n h0 h' a S d (C ++ [c]) T → Q h') : w_X11_emits (some y) (nI r) c h Q := by
  obtain ⟨E1, E2, E3, E4, f9, f10⟩ := R.1.f hB
  have hA := hB.1
  unfold JM at hA
  have r12 := hB.2.1
  have ix : (100 : Int32) * nI r + nI C.length = nI (100 * r + C.length) := by
    rw [show (100 : Int32) = nI 100 from rfl, pk_mul, nI_add]
  have cx := cnF (show 100 * r + C.length < 1300 by omega) (Nat.le_refl 1300) (by decide)
  obtain ⟨⟨p1, p2, p3⟩, r1, r2, r3, r4, r5, r6, r7⟩ := R
  unfold w_X11_emits n_X11_emits_0
  simp (config := {decide := true}) only [gI_e, gR_e, pI_e, pZ_e, pR_e, ldI_e, ldZ_e, ldL_e, ldR_e, stI_e, stZ_e, stL_e, stR_e, alN_e, nwA_e, nwO_e, dvI_e, rmI_e, oV_e, oN_e, lt_e, rZ_e, br_T, br_F, fR_sI, aI_sI, aL_sI, aR_sI, kd_sI, ln_sI, hn_sI, hm_sI, fI_sI_n, fI_sR, aI_sR, aL_sR, aR_sR, kd_sR, ln_sR, hn_sR, hm_sR, fR_sR_n, fI_tI, fR_tI, aL_tI, aR_tI, kd_tI, ln_tI, hn_tI, hm_tI, aI_tI_n, fI_tL, fR_tL, aI_tL, aR_tL, kd_tL, ln_tL, hn_tL, hm_tL, aL_tL_n, fI_tR, fR_tR, aI_tR, aL_tR, kd_tR, ln_tR, hn_tR, hm_tR, aR_tR_n, hn_nw, hm_nw, rc400, rc403, rc404, rc405, rc407, rc409, rc420, rc440, bI_0, bI_1, bI_T, bI_F, iF_T, iF_F, br_not, le_nlt, not_true_eq_false, not_false_eq_true, and_self, and_true, true_and, and_false, false_and, or_true, true_or, or_false, false_or, ne_eq, reduceCtorEq, Nat.reduceLeDiff, Nat.reduceEqDiff, Nat.reduceLT, Nat.reduceAdd, Nat.reduceSub, Nat.reduceMul, Int32.reduceLT, Int32.reduceLE, Int32.reduceToNatClampNeg, Int32.reduceAdd, Int32.reduceSub, implies_true, forall_const, isIn_e, bit_e, lits, E1, E2, E3, hA, r3, ix, cx, n1]
  refine hQ _ ⟨⟨KR.t153 (KR.sI p1 (f := 1471) rfl y _) (show 100 * r ≤ 100 * r + C.length by omega) _, p2, ?_⟩, ?_, ?_, ?_, ?_, ?_, fun i hi => ?_, ?_⟩
  · rw [fI_tI, fI_sI_n _ _ _ _ _ (by decide)]; exact p3
  · rw [fI_tI, fI_sI_n _ _ _ _ _ (by decide)]; exact r1
  · rw [fI_tI, fI_sI_n _ _ _ _ _ (by decide)]; exact r2
  · rw [fI_tI, fI_sI_e, if_pos rfl, len1]
  · rw [fI_tI, fI_sI_n _ _ _ _ _ (by decide)]; exact r4
  · simp (config := {decide := true}) only [fR_sI, aI_sI, aL_sI, aR_sI, kd_sI, ln_sI, hn_sI, hm_sI, fI_sI_n, fI_sR, aI_sR, aL_sR, aR_sR, kd_sR, ln_sR, hn_sR, hm_sR, fR_sR_n, fI_tI, fR_tI, aL_tI, aR_tI, kd_tI, ln_tI, hn_tI, hm_tI, aI_tI_n, fI_tL, fR_tL, aI_tL, aR_tL, kd_tL, ln_tL, hn_tL, hm_tL, aL_tL_n, fI_tR, fR_tR, aI_tR, aL_tR, kd_tR, ln_tR, hn_tR, hm_tR, aR_tR_n, hn_nw, hm_nw]
    exact r5
  · rw [len1] at hi
    rw [aI_tI_e]
    by_cases z : i = C.length
    · rw [if_pos ⟨rfl, by rw [z]⟩, z, gDr]
    · rw [if_neg (fun w => z (by have := w.2; omega)), gDl (by omega)]
      exact r6 i (by omega)
  · unfold tTT at r7 ⊢
    simp (config := {decide := true}) only [fR_sI, aI_sI, aL_sI, aR_sI, kd_sI, ln_sI, hn_sI, hm_sI, fI_sI_n, fI_sR, aI_sR, aL_sR, aR_sR, kd_sR, ln_sR, hn_sR, hm_sR, fR_sR_n, fI_tI, fR_tI, aL_tI, aR_tI, kd_tI, ln_tI, hn_tI, hm_tI, aI_tI_n, fI_tL, fR_tL, aI_tL, aR_tL, kd_tL, ln_tL, hn_tL, hm_tL, aL_tL_n, fI_tR, fR_tR, aI_tR, aL_tR, kd_tR, ln_tR, hn_tR, hm_tR, aR_tR_n, hn_nw, hm_nw]
    exact r7
theorem topR (hB : RB y r sb n L m h0) {c : Int32} (R : KQ y m r n h0 h a (S ++ [c]) d C T) : fI h 1473 y = nI (S.length + 1) ∧ aI h 163 (m 163) S.length = c := by
  obtain ⟨-, r1, -, -, -, r5, -, -⟩ := R
  rw [len1] at r1 r5
  refine ⟨r1, ?_⟩
  have := r5 S.length (by omega)
  rw [gDr] at this
  exact this
theorem pops_e (hB : RB y r sb n L m h0) {A : List Int32} {z : Int32} (hA : A = [] ∨ ∃ A' c, A = A' ++ [c] ∧ ¬ c = 38 ∧ (c = 124 → ¬ z = 0)) {P : List Int32} (hP : ∀ c, c ∈ P → c = 38 ∨ c = 124 ∧ z = 0) (R : KQ y m r n h0 h a (A ++ P) d C T) (b1 : C.length + P.length ≤ 100) (b2 : (A ++ P).length ≤ 120) (Q : Hp → Prop) (hQ : ∀ h', KQ y m r n h0 h' a A d (C ++ pcode P) T → Q h') : w_X11_pops (some y) (nI r) z h Q := by
  have hM := hB.1
  unfold JM at hM
  unfold w_X11_pops l_X11_pops_0
  refine Lo.intro (fun k _ h2 => ∃ P2 C2, P2.length = k ∧ (∀ c, c ∈ P2 → c = 38 ∨ c = 124 ∧ z = 0) ∧ KQ y m r n h0 h2 a (A ++ P2) d C2 T ∧ C2 ++ pcode P2 = C ++ pcode P ∧ C2.length + P2.length ≤ 100 ∧ (A ++ P2).length ≤ 120) ?_ P.length _ _ ⟨P, C, rfl, hP, R, rfl, b1, b2⟩
  rintro k _ h2 ⟨P2, C2, hk, hP2, R2, hc, c1, c2⟩ K hK
  obtain ⟨E1, E2, E3, E4, f9, f10⟩ := R2.1.f hB
  unfold b_X11_pops_0 n_X11_pops_82
  rcases lst_c P2 with e | ⟨P3, c, e⟩
  · subst e
    rw [show pcode [] = [] from rfl, List.append_nil] at hc
    rw [List.append_nil] at R2 c2
    rw [hc] at R2
    have fin := hQ h2 R2
    rcases hA with e | ⟨A', c, e, n38, n124⟩
    · have r1 := R2.2.1
      rw [e] at r1
      have r1' : fI h2 1473 y = 0 := r1
      simp (config := {decide := true}) only [gI_e, gR_e, pI_e, pZ_e, pR_e, ldI_e, ldZ_e, ldL_e, ldR_e, stI_e, stZ_e, stL_e, stR_e, alN_e, nwA_e, nwO_e, dvI_e, rmI_e, oV_e, oN_e, lt_e, rZ_e, br_T, br_F, fR_sI, aI_sI, aL_sI, aR_sI, kd_sI, ln_sI, hn_sI, hm_sI, fI_sI_n, fI_sR, aI_sR, aL_sR, aR_sR, kd_sR, ln_sR, hn_sR, hm_sR, fR_sR_n, fI_tI, fR_tI, aL_tI, aR_tI, kd_tI, ln_tI, hn_tI, hm_tI, aI_tI_n, fI_tL, fR_tL, aI_tL, aR_tL, kd_tL, ln_tL, hn_tL, hm_tL, aL_tL_n, fI_tR, fR_tR, aI_tR, aL_tR, kd_tR, ln_tR, hn_tR, hm_tR, aR_tR_n, hn_nw, hm_nw, rc400, rc403, rc404, rc405, rc407, rc409, rc420, rc440, bI_0, bI_1, bI_T, bI_F, iF_T, iF_F, br_not, le_nlt, not_true_eq_false, not_false_eq_true, and_self, and_true, true_and, and_false, false_and, or_true, true_or, or_false, false_or, ne_eq, reduceCtorEq, Nat.reduceLeDiff, Nat.reduceEqDiff, Nat.reduceLT, Nat.reduceAdd, Nat.reduceSub, Nat.reduceMul, Int32.reduceLT, Int32.reduceLE, Int32.reduceToNatClampNeg, Int32.reduceAdd, Int32.reduceSub, implies_true, forall_const, isIn_e, bit_e, lits, E1, hM, r1']
      exact fin
    · rw [e] at R2 c2
      rw [len1] at c2
      obtain ⟨t1, t2⟩ := topR hB R2
      have l0 : (0 : Int32) < nI (A'.length + 1) := (nI_ltI (a := 0) (by omega) (by omega)).mpr (by omega)
      have pr := nI_pred A'.length
      have cl := cnF (show A'.length < 120 by omega) (Nat.le_refl 120) (by decide)
      by_cases w : c = 124
      · have z0 := n124 w
        simp (config := {decide := true}) only [gI_e, gR_e, pI_e, pZ_e, pR_e, ldI_e, ldZ_e, ldL_e, ldR_e, stI_e, stZ_e, stL_e, stR_e, alN_e, nwA_e, nwO_e, dvI_e, rmI_e, oV_e, oN_e, lt_e, rZ_e, br_T, br_F, fR_sI, aI_sI, aL_sI, aR_sI, kd_sI, ln_sI, hn_sI, hm_sI, fI_sI_n, fI_sR, aI_sR, aL_sR, aR_sR, kd_sR, ln_sR, hn_sR, hm_sR, fR_sR_n, fI_tI, fR_tI, aL_tI, aR_tI, kd_tI, ln_tI, hn_tI, hm_tI, aI_tI_n, fI_tL, fR_tL, aI_tL, aR_tL, kd_tL, ln_tL, hn_tL, hm_tL, aL_tL_n, fI_tR, fR_tR, aI_tR, aL_tR, kd_tR, ln_tR, hn_tR, hm_tR, aR_tR_n, hn_nw, hm_nw, rc400, rc403, rc404, rc405, rc407, rc409, rc420, rc440, bI_0, bI_1, bI_T, bI_F, iF_T, iF_F, br_not, le_nlt, not_true_eq_false, not_false_eq_true, and_self, and_true, true_and, and_false, false_and, or_true, true_or, or_false, false_or, ne_eq, reduceCtorEq, Nat.reduceLeDiff, Nat.reduceEqDiff, Nat.reduceLT, Nat.reduceAdd, Nat.reduceSub, Nat.reduceMul, Int32.reduceLT, Int32.reduceLE, Int32.reduceToNatClampNeg, Int32.reduceAdd, Int32.reduceSub, implies_true, forall_const, isIn_e, bit_e, lits, E1, E2, E3, hM, t1, l0, pr, cl, t2, w, z0]
        exact fin
      · simp (config := {decide := true}) only [gI_e, gR_e, pI_e, pZ_e, pR_e, ldI_e, ldZ_e, ldL_e, ldR_e, stI_e, stZ_e, stL_e, stR_e, alN_e, nwA_e, nwO_e, dvI_e, rmI_e, oV_e, oN_e, lt_e, rZ_e, br_T, br_F, fR_sI, aI_sI, aL_sI, aR_sI, kd_sI, ln_sI, hn_sI, hm_sI, fI_sI_n, fI_sR, aI_sR, aL_sR, aR_sR, kd_sR, ln_sR, hn_sR, hm_sR, fR_sR_n, fI_tI, fR_tI, aL_tI, aR_tI, kd_tI, ln_tI, hn_tI, hm_tI, aI_tI_n, fI_tL, fR_tL, aI_tL, aR_tL, kd_tL, ln_tL, hn_tL, hm_tL, aL_tL_n, fI_tR, fR_tR, aI_tR, aL_tR, kd_tR, ln_tR, hn_tR, hm_tR, aR_tR_n, hn_nw, hm_nw, rc400, rc403, rc404, rc405, rc407, rc409, rc420, rc440, bI_0, bI_1, bI_T, bI_F, iF_T, iF_F, br_not, le_nlt, not_true_eq_false, not_false_eq_true, and_self, and_true, true_and, and_false, false_and, or_true, true_or, or_false, false_or, ne_eq, reduceCtorEq, Nat.reduceLeDiff, Nat.reduceEqDiff, Nat.reduceLT, Nat.reduceAdd, Nat.reduceSub, Nat.reduceMul, Int32.reduceLT, Int32.reduceLE, Int32.reduceToNatClampNeg, Int32.reduceAdd, Int32.reduceSub, implies_true, forall_const, isIn_e, bit_e, lits, E1, E2, E3, hM, t1, l0, pr, cl, t2, n38, w]
        exact fin
  · subst e
    rw [← List.append_assoc] at R2 c2
    rw [len1] at c2
    rw [len1] at c1 hk
    obtain ⟨t1, t2⟩ := topR hB R2
    have l0 : (0 : Int32) < nI ((A ++ P3).length + 1) := (nI_ltI (a := 0) (by omega) (by omega)).mpr (by omega)
    have pr := nI_pred (A ++ P3).length
    have cl := cnF (show (A ++ P3).length < 120 by omega) (Nat.le_refl 120) (by decide)
    have R3 := R2.pop
    have f3 : fI (sI h2 1473 y (nI (A ++ P3).length)) 1473 y = nI (A ++ P3).length := by rw [fI_sI_e, if_pos rfl]
    have t3 : aI (sI h2 1473 y (nI (A ++ P3).length)) 163 (m 163) (A ++ P3).length = c := t2
    rw [pcode_a] at hc
    have hc2 : ∀ h', KQ y m r n h0 h' a (A ++ P3) d (C2 ++ [op1 c]) T → K () h' := fun h' R' => hK P3.length () h' hk.symm ⟨P3, C2 ++ [op1 c], rfl, fun c' hc' => hP2 c' (List.mem_append_left _ hc'), R', by rw [List.append_assoc]; exact hc, by rw [len1]; omega, by omega⟩
    have em : ∀ c', op1 c = c' → w_X11_emits (some y) (nI r) c' (sI h2 1473 y (nI (A ++ P3).length)) (fun h => K () h) := by
      intro c' ec
      refine emits_e hB R3 c' (by omega) _ (fun h' R' => ?_)
      rw [← ec] at R'
      exact hc2 h' R'
    unfold n_X11_pops_43 n_X11_pops_76
    rcases hP2 c (List.mem_append_right _ (List.mem_singleton.mpr rfl)) with w | ⟨w, z0⟩
    · have := em (-2) (by rw [w]; rfl)
      simp (config := {decide := true}) only [gI_e, gR_e, pI_e, pZ_e, pR_e, ldI_e, ldZ_e, ldL_e, ldR_e, stI_e, stZ_e, stL_e, stR_e, alN_e, nwA_e, nwO_e, dvI_e, rmI_e, oV_e, oN_e, lt_e, rZ_e, br_T, br_F, fR_sI, aI_sI, aL_sI, aR_sI, kd_sI, ln_sI, hn_sI, hm_sI, fI_sI_n, fI_sR, aI_sR, aL_sR, aR_sR, kd_sR, ln_sR, hn_sR, hm_sR, fR_sR_n, fI_tI, fR_tI, aL_tI, aR_tI, kd_tI, ln_tI, hn_tI, hm_tI, aI_tI_n, fI_tL, fR_tL, aI_tL, aR_tL, kd_tL, ln_tL, hn_tL, hm_tL, aL_tL_n, fI_tR, fR_tR, aI_tR, aL_tR, kd_tR, ln_tR, hn_tR, hm_tR, aR_tR_n, hn_nw, hm_nw, rc400, rc403, rc404, rc405, rc407, rc409, rc420, rc440, bI_0, bI_1, bI_T, bI_F, iF_T, iF_F, br_not, le_nlt, not_true_eq_false, not_false_eq_true, and_self, and_true, true_and, and_false, false_and, or_true, true_or, or_false, false_or, ne_eq, reduceCtorEq, Nat.reduceLeDiff, Nat.reduceEqDiff, Nat.reduceLT, Nat.reduceAdd, Nat.reduceSub, Nat.reduceMul, Int32.reduceLT, Int32.reduceLE, Int32.reduceToNatClampNeg, Int32.reduceAdd, Int32.reduceSub, implies_true, forall_const, isIn_e, bit_e, lits, E1, E2, E3, hM, t1, l0, pr, cl, t2, t3, w, f3]
      exact this
    · have := em (-3) (by rw [w]; rfl)
      simp (config := {decide := true}) only [gI_e, gR_e, pI_e, pZ_e, pR_e, ldI_e, ldZ_e, ldL_e, ldR_e, stI_e, stZ_e, stL_e, stR_e, alN_e, nwA_e, nwO_e, dvI_e, rmI_e, oV_e, oN_e, lt_e, rZ_e, br_T, br_F, fR_sI, aI_sI, aL_sI, aR_sI, kd_sI, ln_sI, hn_sI, hm_sI, fI_sI_n, fI_sR, aI_sR, aL_sR, aR_sR, kd_sR, ln_sR, hn_sR, hm_sR, fR_sR_n, fI_tI, fR_tI, aL_tI, aR_tI, kd_tI, ln_tI, hn_tI, hm_tI, aI_tI_n, fI_tL, fR_tL, aI_tL, aR_tL, kd_tL, ln_tL, hn_tL, hm_tL, aL_tL_n, fI_tR, fR_tR, aI_tR, aL_tR, kd_tR, ln_tR, hn_tR, hm_tR, aR_tR_n, hn_nw, hm_nw, rc400, rc403, rc404, rc405, rc407, rc409, rc420, rc440, bI_0, bI_1, bI_T, bI_F, iF_T, iF_F, br_not, le_nlt, not_true_eq_false, not_false_eq_true, and_self, and_true, true_and, and_false, false_and, or_true, true_or, or_false, false_or, ne_eq, reduceCtorEq, Nat.reduceLeDiff, Nat.reduceEqDiff, Nat.reduceLT, Nat.reduceAdd, Nat.reduceSub, Nat.reduceMul, Int32.reduceLT, Int32.reduceLE, Int32.reduceToNatClampNeg, Int32.reduceAdd, Int32.reduceSub, implies_true, forall_const, isIn_e, bit_e, lits, E1, E2, E3, hM, t1, l0, pr, cl, t2, t3, w, f3, z0]
      exact this
theorem rep1 (j : Nat) (c : Int32) : List.replicate (j + 1) c = List.replicate j c ++ [c] := List.replicate_succ'
theorem closes_e (hB : RB y r sb n L m h0) {A : List Int32} (hA : A = [] ∨ ∃ A' c, A = A' ++ [c] ∧ ¬ c = 33) {j : Nat} (hj : j ≤ d) (R : KQ y m r n h0 h a (A ++ List.replicate j 33) d C T) (b1 : C.length + j ≤ 100) (b2 : A.length + j ≤ 120) (Q : Hp → Prop) (hQ : ∀ h', KQ y m r n h0 h' a A (d - j) (C ++ List.replicate j (-1)) T → Q h') : w_X11_closes (some y) (nI r) h Q := by
  have hM := hB.1
  unfold JM at hM
  unfold w_X11_closes l_X11_closes_0
  refine Lo.intro (fun k _ h2 => k ≤ j ∧ KQ y m r n h0 h2 a (A ++ List.replicate k 33) (d - (j - k)) (C ++ List.replicate (j - k) (-1)) T) ?_ j _ _ ⟨Nat.le_refl _, by rw [Nat.sub_self]; show KQ y m r n h0 h a (A ++ List.replicate j 33) d (C ++ []) T; rw [List.append_nil]; exact R⟩
  rintro k _ h2 ⟨hk, R2⟩ K hK
  obtain ⟨E1, E2, E3, E4, f9, f10⟩ := R2.1.f hB
  unfold b_X11_closes_0 n_X11_closes_52
  cases k with
  | zero =>
    have e0 : A ++ List.replicate 0 (33 : Int32) = A := List.append_nil A
    rw [e0, Nat.sub_zero] at R2
    have fin := hQ h2 R2
    rcases hA with e | ⟨A', c, e, n33⟩
    · have r1 := R2.2.1
      rw [e] at r1
      have r1' : fI h2 1473 y = 0 := r1
      simp (config := {decide := true}) only [gI_e, gR_e, pI_e, pZ_e, pR_e, ldI_e, ldZ_e, ldL_e, ldR_e, stI_e, stZ_e, stL_e, stR_e, alN_e, nwA_e, nwO_e, dvI_e, rmI_e, oV_e, oN_e, lt_e, rZ_e, br_T, br_F, fR_sI, aI_sI, aL_sI, aR_sI, kd_sI, ln_sI, hn_sI, hm_sI, fI_sI_n, fI_sR, aI_sR, aL_sR, aR_sR, kd_sR, ln_sR, hn_sR, hm_sR, fR_sR_n, fI_tI, fR_tI, aL_tI, aR_tI, kd_tI, ln_tI, hn_tI, hm_tI, aI_tI_n, fI_tL, fR_tL, aI_tL, aR_tL, kd_tL, ln_tL, hn_tL, hm_tL, aL_tL_n, fI_tR, fR_tR, aI_tR, aL_tR, kd_tR, ln_tR, hn_tR, hm_tR, aR_tR_n, hn_nw, hm_nw, rc400, rc403, rc404, rc405, rc407, rc409, rc420, rc440, bI_0, bI_1, bI_T, bI_F, iF_T, iF_F, br_not, le_nlt, not_true_eq_false, not_false_eq_true, and_self, and_true, true_and, and_false, false_and, or_true, true_or, or_false, false_or, ne_eq, reduceCtorEq, Nat.reduceLeDiff, Nat.reduceEqDiff, Nat.reduceLT, Nat.reduceAdd, Nat.reduceSub, Nat.reduceMul, Int32.reduceLT, Int32.reduceLE, Int32.reduceToNatClampNeg, Int32.reduceAdd, Int32.reduceSub, implies_true, forall_const, isIn_e, bit_e, lits, E1, hM, r1']
      exact fin
    · rw [e] at R2 b2
      rw [len1] at b2
      obtain ⟨t1, t2⟩ := topR hB R2
      have l0 : (0 : Int32) < nI (A'.length + 1) := (nI_ltI (a := 0) (by omega) (by omega)).mpr (by omega)
      have pr := nI_pred A'.length
      have cl := cnF (show A'.length < 120 by omega) (Nat.le_refl 120) (by decide)
      simp (config := {decide := true}) only [gI_e, gR_e, pI_e, pZ_e, pR_e, ldI_e, ldZ_e, ldL_e, ldR_e, stI_e, stZ_e, stL_e, stR_e, alN_e, nwA_e, nwO_e, dvI_e, rmI_e, oV_e, oN_e, lt_e, rZ_e, br_T, br_F, fR_sI, aI_sI, aL_sI, aR_sI, kd_sI, ln_sI, hn_sI, hm_sI, fI_sI_n, fI_sR, aI_sR, aL_sR, aR_sR, kd_sR, ln_sR, hn_sR, hm_sR, fR_sR_n, fI_tI, fR_tI, aL_tI, aR_tI, kd_tI, ln_tI, hn_tI, hm_tI, aI_tI_n, fI_tL, fR_tL, aI_tL, aR_tL, kd_tL, ln_tL, hn_tL, hm_tL, aL_tL_n, fI_tR, fR_tR, aI_tR, aL_tR, kd_tR, ln_tR, hn_tR, hm_tR, aR_tR_n, hn_nw, hm_nw, rc400, rc403, rc404, rc405, rc407, rc409, rc420, rc440, bI_0, bI_1, bI_T, bI_F, iF_T, iF_F, br_not, le_nlt, not_true_eq_false, not_false_eq_true, and_self, and_true, true_and, and_false, false_and, or_true, true_or, or_false, false_or, ne_eq, reduceCtorEq, Nat.reduceLeDiff, Nat.reduceEqDiff, Nat.reduceLT, Nat.reduceAdd, Nat.reduceSub, Nat.reduceMul, Int32.reduceLT, Int32.reduceLE, Int32.reduceToNatClampNeg, Int32.reduceAdd, Int32.reduceSub, implies_true, forall_const, isIn_e, bit_e, lits, E1, E2, E3, hM, t1, l0, pr, cl, t2, n33]
      exact fin
  | succ k =>
    rw [rep1, ← List.append_assoc] at R2
    obtain ⟨t1, t2⟩ := topR hB R2
    have ll : (A ++ List.replicate k (33 : Int32)).length = A.length + k := by rw [List.length_append, List.length_replicate]
    rw [ll] at t1 t2
    have l0 : (0 : Int32) < nI (A.length + k + 1) := (nI_ltI (a := 0) (by omega) (by omega)).mpr (by omega)
    have pr := nI_pred (A.length + k)
    have cl := cnF (show A.length + k < 120 by omega) (Nat.le_refl 120) (by decide)
    have r2 := R2.2.2.1
    have R3 := R2.pop
    rw [ll] at R3
    have R4 := R3.nest (d - (j - k))
    have nn : nI (d - (j - (k + 1))) - 1 = nI (d - (j - k)) := by
      rw [show d - (j - (k + 1)) = (d - (j - k)) + 1 by omega, nI_pred]
    have f4 : fI (sI h2 1473 y (nI (A.length + k))) 1474 y = nI (d - (j - (k + 1))) := by rw [fI_sI_n _ _ _ _ _ (by decide)]; exact r2
    have lC : (C ++ List.replicate (j - (k + 1)) (-1 : Int32)).length = C.length + (j - (k + 1)) := by rw [List.length_append, List.length_replicate]
    have := emits_e hB R4 (-1) (by rw [lC]; omega) (fun h => K () h) (fun h' R' => by
      refine hK k () h' rfl ⟨by omega, ?_⟩
      rw [List.append_assoc, ← rep1, show j - (k + 1) + 1 = j - k by omega] at R'
      exact R')
    simp (config := {decide := true}) only [gI_e, gR_e, pI_e, pZ_e, pR_e, ldI_e, ldZ_e, ldL_e, ldR_e, stI_e, stZ_e, stL_e, stR_e, alN_e, nwA_e, nwO_e, dvI_e, rmI_e, oV_e, oN_e, lt_e, rZ_e, br_T, br_F, fR_sI, aI_sI, aL_sI, aR_sI, kd_sI, ln_sI, hn_sI, hm_sI, fI_sI_n, fI_sR, aI_sR, aL_sR, aR_sR, kd_sR, ln_sR, hn_sR, hm_sR, fR_sR_n, fI_tI, fR_tI, aL_tI, aR_tI, kd_tI, ln_tI, hn_tI, hm_tI, aI_tI_n, fI_tL, fR_tL, aI_tL, aR_tL, kd_tL, ln_tL, hn_tL, hm_tL, aL_tL_n, fI_tR, fR_tR, aI_tR, aL_tR, kd_tR, ln_tR, hn_tR, hm_tR, aR_tR_n, hn_nw, hm_nw, rc400, rc403, rc404, rc405, rc407, rc409, rc420, rc440, bI_0, bI_1, bI_T, bI_F, iF_T, iF_F, br_not, le_nlt, not_true_eq_false, not_false_eq_true, and_self, and_true, true_and, and_false, false_and, or_true, true_or, or_false, false_or, ne_eq, reduceCtorEq, Nat.reduceLeDiff, Nat.reduceEqDiff, Nat.reduceLT, Nat.reduceAdd, Nat.reduceSub, Nat.reduceMul, Int32.reduceLT, Int32.reduceLE, Int32.reduceToNatClampNeg, Int32.reduceAdd, Int32.reduceSub, implies_true, forall_const, isIn_e, bit_e, lits, E1, E2, E3, hM, t1, l0, pr, cl, t2, r2, nn]
    exact this
end REFC
