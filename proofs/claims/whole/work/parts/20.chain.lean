theorem Lo.cnt {F : (Int32 × Int32 → Hp → Prop) → Int32 × Int32 → Hp → Prop} {h : Hp} {n : Nat} (f : Nat → Int32) (h1 : ∀ k, k < n → ∀ (K : Int32 × Int32 → Hp → Prop) (z : Int32), K (z + f k, nI (k + 1)) h → F K (z, nI k) h) (h2 : ∀ K : Int32 × Int32 → Hp → Prop, F K (acI f n, nI n) h) : Lo F (0, 0) h :=
  Lo.run n (fun k => (acI f k, nI k)) (fun _ => h) (fun k hk K hK => h1 k hk K _ hK) h2 rfl rfl
theorem nI_m1 {n : Nat} (h : n < 2 ^ 31) : ¬ nI n = -1 := by
  intro q
  have := nI_pos h
  rw [q] at this
  exact this (by decide)
theorem bel_u {u : Nat → Int32} {p q : Nat} (h : u p = -1) : ∀ f, bel u f p q ↔ p = q := by
  intro f
  cases f with
  | zero => exact Iff.rfl
  | succ f =>
    unfold bel
    exact ⟨fun z => z.elim id (fun w => absurd h w.1), Or.inl⟩
/-- steps that come nearer to an end -/
def chn (n : Nat) (u : Nat → Int32) (R : Nat → Nat) : Prop := n ≤ 1000 ∧ ∀ p, p < n → R p ≤ 3 ∧ (u p = -1 ∨ ∃ j, j < n ∧ u p = nI j ∧ R j + 1 ≤ R p)
section CHN
variable {n : Nat} {u : Nat → Int32} {R : Nat → Nat}
theorem bel_fu (hc : chn n u R) : ∀ d p q f f', p < n → R p ≤ d → R p ≤ f → R p ≤ f' → (bel u f p q ↔ bel u f' p q) := by
  intro d
  induction d with
  | zero =>
    intro p q f f' hp hd _ _
    rcases (hc.2 p hp).2 with e | ⟨j, j1, j2, j3⟩
    · rw [bel_u e, bel_u e]
    · omega
  | succ d ih =>
    intro p q f f' hp hd hf hf'
    rcases (hc.2 p hp).2 with e | ⟨j, j1, j2, j3⟩
    · rw [bel_u e, bel_u e]
    · obtain ⟨f, rfl⟩ : ∃ k, f = k + 1 := ⟨f - 1, by omega⟩
      obtain ⟨f', rfl⟩ : ∃ k, f' = k + 1 := ⟨f' - 1, by omega⟩
      have hn := hc.1
      have ej : (nI j).toNatClampNeg = j := nI_clamp (by omega)
      unfold bel
      rw [j2, ej, ih j q f f' j1 (by omega) (by omega) (by omega)]
theorem bel_4 (hc : chn n u R) {p q j : Nat} (hp : p < n) (hj : j < n) (e : u p = nI j) (h3 : R j + 1 ≤ R p) : bel u 4 p q ↔ p = q ∨ bel u 4 j q := by
  have hn := hc.1
  have ej : (nI j).toNatClampNeg = j := nI_clamp (by omega)
  have r := (hc.2 p hp).1
  have nm := nI_m1 (n := j) (by omega)
  rw [bel, e, ej, bel_fu hc 3 j q 3 4 hj (by omega) (by omega) (by omega)]
  exact ⟨fun w => w.elim Or.inl (fun z => Or.inr z.2), fun w => w.elim Or.inl (fun z => Or.inr ⟨nm, z⟩)⟩
theorem bel_r (p : Nat) : bel u 4 p p := Or.inl rfl
/-- the walk along a chain until q, or its end -/
theorem chain_lo (hc : chn n u R) {F : (Int32 → Hp → Prop) → Int32 → Hp → Prop} {h : Hp} {q : Nat} {p : Nat} (hp : p < n) (h1 : ∀ K : Int32 → Hp → Prop, ¬ bel u 4 p q → F K (-1) h) (h2 : ∀ K : Int32 → Hp → Prop, bel u 4 p q → F K (nI q) h) (h3 : ∀ (K : Int32 → Hp → Prop) p', p' < n → ¬ p' = q → K (u p') h → F K (nI p') h) : Lo F (nI p) h := by
  have hn := hc.1
  refine Lo.intro (fun k s h' => h' = h ∧ ((s = -1 ∧ ¬ bel u 4 p q) ∨ ∃ p', p' < n ∧ s = nI p' ∧ R p' + 1 ≤ k ∧ (bel u 4 p q ↔ bel u 4 p' q))) ?_ 4 _ _ ⟨rfl, Or.inr ⟨p, hp, rfl, by have := (hc.2 p hp).1; omega, Iff.rfl⟩⟩
  rintro k s h' ⟨rfl, ⟨rfl, hb⟩ | ⟨p', hp', rfl, hk, hb⟩⟩ K hK
  · exact h1 K hb
  · by_cases e : p' = q
    · subst e
      exact h2 K (hb.mpr (bel_r p'))
    · refine h3 K p' hp' e (hK (k - 1) _ _ (by omega) ⟨rfl, ?_⟩)
      rcases (hc.2 p' hp').2 with e1 | ⟨j, j1, j2, j3⟩
      · exact Or.inl ⟨e1, fun z => e ((bel_u e1 4).mp (hb.mp z))⟩
      · refine Or.inr ⟨j, j1, j2, by omega, hb.trans ?_⟩
        rw [bel_4 hc hp' j1 j2 j3]
        exact ⟨fun w => w.elim (fun z => absurd z e) id, Or.inr⟩
/-- the end of a chain -/
def lst (u : Nat → Int32) : Nat → Nat → Nat
  | 0, p => p
  | f + 1, p => if u p = -1 then p else lst u f (u p).toNatClampNeg
theorem lst_u {p : Nat} (h : u p = -1) : ∀ f, lst u f p = p := by
  intro f
  cases f with
  | zero => rfl
  | succ f => rw [lst, if_pos h]
theorem lst_fu (hc : chn n u R) : ∀ d p f f', p < n → R p ≤ d → R p ≤ f → R p ≤ f' → lst u f p = lst u f' p := by
  intro d
  induction d with
  | zero =>
    intro p f f' hp hd _ _
    rcases (hc.2 p hp).2 with e | ⟨j, j1, j2, j3⟩
    · rw [lst_u e, lst_u e]
    · omega
  | succ d ih =>
    intro p f f' hp hd hf hf'
    rcases (hc.2 p hp).2 with e | ⟨j, j1, j2, j3⟩
    · rw [lst_u e, lst_u e]
    · obtain ⟨f, rfl⟩ : ∃ k, f = k + 1 := ⟨f - 1, by omega⟩
      obtain ⟨f', rfl⟩ : ∃ k, f' = k + 1 := ⟨f' - 1, by omega⟩
      have hn := hc.1
      have ej : (nI j).toNatClampNeg = j := nI_clamp (by omega)
      have nm := nI_m1 (n := j) (by omega)
      rw [lst, lst, j2, if_neg nm, if_neg nm, ej, ih j f f' j1 (by omega) (by omega) (by omega)]
theorem lst_4 (hc : chn n u R) {p j : Nat} (hp : p < n) (hj : j < n) (e : u p = nI j) (h3 : R j + 1 ≤ R p) : lst u 4 p = lst u 4 j := by
  have hn := hc.1
  have ej : (nI j).toNatClampNeg = j := nI_clamp (by omega)
  have r := (hc.2 p hp).1
  rw [lst, e, if_neg (nI_m1 (n := j) (by omega)), ej, lst_fu hc 3 j 3 4 hj (by omega) (by omega) (by omega)]
theorem lst_lt (hc : chn n u R) : ∀ d p, p < n → R p ≤ d → lst u 4 p < n := by
  intro d
  induction d with
  | zero =>
    intro p hp hd
    rcases (hc.2 p hp).2 with e | ⟨j, j1, j2, j3⟩
    · rw [lst_u e]; exact hp
    · omega
  | succ d ih =>
    intro p hp hd
    rcases (hc.2 p hp).2 with e | ⟨j, j1, j2, j3⟩
    · rw [lst_u e]; exact hp
    · rw [lst_4 hc hp j1 j2 j3]
      exact ih j j1 (by omega)
end CHN
section CH2
variable {x y b0 s0 np na nm nr ne : Nat} {g : Nat → Nat → Nat} {m : Nat → Nat} {h : Hp}
theorem chn_und (hW : JW y np na nm nr ne m h) (hb : np ≤ 24) : chn np (aI h 121 (m 121)) (fun p => 3 - lvN h m p) := by
  refine ⟨by omega, fun p hp => ⟨Nat.sub_le 3 _, ?_⟩⟩
  by_cases z : p = 0
  · exact Or.inl (by rw [z]; exact hW.w_u0)
  · obtain ⟨⟨u1, u2⟩, -, u3, -⟩ := un_e hW hp hb z
    have := (lv_e hW u1).1
    refine Or.inr ⟨_, u1, u3, ?_⟩
    show 3 - lvN h m (unN h m p) + 1 ≤ 3 - lvN h m p
    omega
def atN (h : Hp) (m : Nat → Nat) (a : Nat) : Nat := (aI h 132 (m 132) a).toNatClampNeg
theorem at_e (hW : JW y np na nm nr ne m h) {a : Nat} (ha : a < na) : atN h m a < np ∧ aI h 132 (m 132) a = nI (atN h m a) := ⟨vp_lt2 (hW.w_at a ha), vp_nN (hW.w_at a ha)⟩
theorem int_e (hW : JW y np na nm nr ne m h) (hb : np ≤ 24) (hb2 : na ≤ 160) {a : Nat} (ha : a < na) : aI h 139 (m 139) a = -1 ∨ ∃ b, b < na ∧ aI h 139 (m 139) a = nI b ∧ ¬ atN h m a = 0 ∧ atN h m b = unN h m (atN h m a) ∧ lvN h m (atN h m b) = lvN h m (atN h m a) + 1 := by
  rcases hW.w_int a ha with e | ⟨b, b1, b2, b3, b4⟩
  · exact Or.inl e
  · have h1 := at_e hW ha
    have h2 := at_e hW b2
    have z : ¬ atN h m a = 0 := by
      intro z
      have e4 : aI h 132 (m 132) b = aI h 121 (m 121) 0 := by rw [b4]; congr 1
      rw [hW.w_u0, h2.2] at e4
      exact nI_m1 (n := atN h m b) (by omega) e4
    have q := un_e hW h1.1 hb z
    have e5 : atN h m b = unN h m (atN h m a) := by
      show (aI h 132 (m 132) b).toNatClampNeg = _
      rw [b4]
      rfl
    exact Or.inr ⟨b, b2, b3, z, e5, by rw [e5]; exact q.1.2⟩
theorem chn_int (hW : JW y np na nm nr ne m h) (hb : np ≤ 24) (hb2 : na ≤ 160) : chn na (aI h 139 (m 139)) (fun a => 3 - lvN h m (atN h m a)) := by
  refine ⟨by omega, fun a ha => ⟨Nat.sub_le 3 _, ?_⟩⟩
  rcases int_e hW hb hb2 ha with e | ⟨b, b1, b2, b3, b4, b5⟩
  · exact Or.inl e
  · have := (lv_e hW (at_e hW b1).1).1
    refine Or.inr ⟨b, b1, b2, ?_⟩
    show 3 - lvN h m (atN h m b) + 1 ≤ 3 - lvN h m (atN h m a)
    omega
theorem isBelow_e (hR : RJ y np na nm nr ne m h) {p q : Nat} (hp : p < np) (hq : q < np) (Q : Int32 → Hp → Prop) (hQ : Q (bI (bel (aI h 121 (m 121)) 4 p q)) h) : w_X11_isBelow (some y) (nI p) (nI q) h Q := by
  have hA := hR.1
  unfold JM at hA
  have hW := hR.2.2.2
  have hb := hR.2.2.1.2.1
  unfold w_X11_isBelow n_X11_isBelow_0 l_X11_isBelow_2
  have m1 : ¬ (-1 : Int32) = nI q := fun z => nI_m1 (n := q) (by omega) z.symm
  have m2 : ¬ nI q = (-1 : Int32) := nI_m1 (n := q) (by omega)
  refine chain_lo (chn_und hW hb) (q := q) hp ?_ ?_ ?_
  · intro K hn
    unfold b_X11_isBelow_2 n_X11_isBelow_22 n_X11_isBelow_32
    simp only [hn, bI_F] at hQ
    simp only [gI_e, gR_e, pI_e, pZ_e, pR_e, ldI_e, ldZ_e, ldL_e, ldR_e, stI_e, stZ_e, stL_e, stR_e, alN_e, nwA_e, nwO_e, dvI_e, rmI_e, oV_e, oN_e, lt_e, rZ_e, br_T, br_F, fR_sI, aI_sI, aL_sI, aR_sI, kd_sI, ln_sI, hn_sI, hm_sI, fI_sI_n, fI_sR, aI_sR, aL_sR, aR_sR, kd_sR, ln_sR, hn_sR, hm_sR, fR_sR_n, fI_tI, fR_tI, aL_tI, aR_tI, kd_tI, ln_tI, hn_tI, hm_tI, aI_tI_n, fI_tL, fR_tL, aI_tL, aR_tL, kd_tL, ln_tL, hn_tL, hm_tL, aL_tL_n, fI_tR, fR_tR, aI_tR, aL_tR, kd_tR, ln_tR, hn_tR, hm_tR, aR_tR_n, hn_nw, hm_nw, rc400, rc403, rc404, rc405, rc407, rc409, rc420, rc440, bI_0, bI_1, bI_T, bI_F, iF_T, iF_F, br_not, le_nlt, not_true_eq_false, not_false_eq_true, and_self, and_true, true_and, and_false, false_and, or_true, true_or, or_false, false_or, ne_eq, reduceCtorEq, Nat.reduceLeDiff, Nat.reduceEqDiff, Nat.reduceLT, Nat.reduceAdd, Nat.reduceSub, Nat.reduceMul, Int32.reduceLT, Int32.reduceLE, Int32.reduceToNatClampNeg, Int32.reduceAdd, Int32.reduceSub, implies_true, forall_const, isIn_e, bit_e, lits, m1]
    exact hQ
  · intro K hn
    unfold b_X11_isBelow_2 n_X11_isBelow_22 n_X11_isBelow_32
    simp only [hn, bI_T] at hQ
    simp only [gI_e, gR_e, pI_e, pZ_e, pR_e, ldI_e, ldZ_e, ldL_e, ldR_e, stI_e, stZ_e, stL_e, stR_e, alN_e, nwA_e, nwO_e, dvI_e, rmI_e, oV_e, oN_e, lt_e, rZ_e, br_T, br_F, fR_sI, aI_sI, aL_sI, aR_sI, kd_sI, ln_sI, hn_sI, hm_sI, fI_sI_n, fI_sR, aI_sR, aL_sR, aR_sR, kd_sR, ln_sR, hn_sR, hm_sR, fR_sR_n, fI_tI, fR_tI, aL_tI, aR_tI, kd_tI, ln_tI, hn_tI, hm_tI, aI_tI_n, fI_tL, fR_tL, aI_tL, aR_tL, kd_tL, ln_tL, hn_tL, hm_tL, aL_tL_n, fI_tR, fR_tR, aI_tR, aL_tR, kd_tR, ln_tR, hn_tR, hm_tR, aR_tR_n, hn_nw, hm_nw, rc400, rc403, rc404, rc405, rc407, rc409, rc420, rc440, bI_0, bI_1, bI_T, bI_F, iF_T, iF_F, br_not, le_nlt, not_true_eq_false, not_false_eq_true, and_self, and_true, true_and, and_false, false_and, or_true, true_or, or_false, false_or, ne_eq, reduceCtorEq, Nat.reduceLeDiff, Nat.reduceEqDiff, Nat.reduceLT, Nat.reduceAdd, Nat.reduceSub, Nat.reduceMul, Int32.reduceLT, Int32.reduceLE, Int32.reduceToNatClampNeg, Int32.reduceAdd, Int32.reduceSub, implies_true, forall_const, isIn_e, bit_e, lits, m2]
    exact hQ
  · intro K p' hp' hne hK
    unfold b_X11_isBelow_2 n_X11_isBelow_22 n_X11_isBelow_32
    have fp := cnF hp' hb (by decide)
    have m3 : ¬ nI p' = (-1 : Int32) := nI_m1 (n := p') (by omega)
    have m4 : ¬ nI p' = nI q := fun z => hne ((nI_eq (by omega) (by omega)).mp z)
    simp only [gI_e, gR_e, pI_e, pZ_e, pR_e, ldI_e, ldZ_e, ldL_e, ldR_e, stI_e, stZ_e, stL_e, stR_e, alN_e, nwA_e, nwO_e, dvI_e, rmI_e, oV_e, oN_e, lt_e, rZ_e, br_T, br_F, fR_sI, aI_sI, aL_sI, aR_sI, kd_sI, ln_sI, hn_sI, hm_sI, fI_sI_n, fI_sR, aI_sR, aL_sR, aR_sR, kd_sR, ln_sR, hn_sR, hm_sR, fR_sR_n, fI_tI, fR_tI, aL_tI, aR_tI, kd_tI, ln_tI, hn_tI, hm_tI, aI_tI_n, fI_tL, fR_tL, aI_tL, aR_tL, kd_tL, ln_tL, hn_tL, hm_tL, aL_tL_n, fI_tR, fR_tR, aI_tR, aL_tR, kd_tR, ln_tR, hn_tR, hm_tR, aR_tR_n, hn_nw, hm_nw, rc400, rc403, rc404, rc405, rc407, rc409, rc420, rc440, bI_0, bI_1, bI_T, bI_F, iF_T, iF_F, br_not, le_nlt, not_true_eq_false, not_false_eq_true, and_self, and_true, true_and, and_false, false_and, or_true, true_or, or_false, false_or, ne_eq, reduceCtorEq, Nat.reduceLeDiff, Nat.reduceEqDiff, Nat.reduceLT, Nat.reduceAdd, Nat.reduceSub, Nat.reduceMul, Int32.reduceLT, Int32.reduceLE, Int32.reduceToNatClampNeg, Int32.reduceAdd, Int32.reduceSub, implies_true, forall_const, isIn_e, bit_e, lits, hA, fp, m3, m4]
    exact hK
theorem hearthsOf_e (hR : RJ y np na nm nr ne m h) {p : Nat} (hp : p < np) (Q : Int32 → Hp → Prop) (hQ : Q (hsP (aI h 120 (m 120)) (aI h 121 (m 121)) (aI h 124 (m 124)) np p) h) : w_X11_hearthsOf (some y) (nI p) h Q := by
  have hA := hR.1
  unfold JM at hA
  have hC := hR.2.1
  have hb := hR.2.2.1.2.1
  unfold w_X11_hearthsOf n_X11_hearthsOf_0 l_X11_hearthsOf_4
  refine Lo.cnt (n := np) (fun q => iF (aI h 120 (m 120) q = 0 ∧ bel (aI h 121 (m 121)) 4 q p) (aI h 124 (m 124) q) 0) ?_ ?_
  · intro k hk K z hK
    unfold b_X11_hearthsOf_4 n_X11_hearthsOf_39
    have c := cnF hk hb (by decide)
    by_cases d : aI h 120 (m 120) k = 0
    · simp only [gI_e, gR_e, pI_e, pZ_e, pR_e, ldI_e, ldZ_e, ldL_e, ldR_e, stI_e, stZ_e, stL_e, stR_e, alN_e, nwA_e, nwO_e, dvI_e, rmI_e, oV_e, oN_e, lt_e, rZ_e, br_T, br_F, fR_sI, aI_sI, aL_sI, aR_sI, kd_sI, ln_sI, hn_sI, hm_sI, fI_sI_n, fI_sR, aI_sR, aL_sR, aR_sR, kd_sR, ln_sR, hn_sR, hm_sR, fR_sR_n, fI_tI, fR_tI, aL_tI, aR_tI, kd_tI, ln_tI, hn_tI, hm_tI, aI_tI_n, fI_tL, fR_tL, aI_tL, aR_tL, kd_tL, ln_tL, hn_tL, hm_tL, aL_tL_n, fI_tR, fR_tR, aI_tR, aL_tR, kd_tR, ln_tR, hn_tR, hm_tR, aR_tR_n, hn_nw, hm_nw, rc400, rc403, rc404, rc405, rc407, rc409, rc420, rc440, bI_0, bI_1, bI_T, bI_F, iF_T, iF_F, br_not, le_nlt, not_true_eq_false, not_false_eq_true, and_self, and_true, true_and, and_false, false_and, or_true, true_or, or_false, false_or, ne_eq, reduceCtorEq, Nat.reduceLeDiff, Nat.reduceEqDiff, Nat.reduceLT, Nat.reduceAdd, Nat.reduceSub, Nat.reduceMul, Int32.reduceLT, Int32.reduceLE, Int32.reduceToNatClampNeg, Int32.reduceAdd, Int32.reduceSub, implies_true, forall_const, isIn_e, bit_e, lits, hA, hC, c, d]
      refine isBelow_e hR hk hp _ ?_
      by_cases e : bel (aI h 121 (m 121)) 4 k p
      · simp only [d, e, bI_T, bI_F, bI_0, bI_1, Int32.add_zero, Int32.zero_add, if_true, if_false, Option.some.injEq, lt_irr, iF_T, iF_F, and_self] at hK
        simp only [gI_e, gR_e, pI_e, pZ_e, pR_e, ldI_e, ldZ_e, ldL_e, ldR_e, stI_e, stZ_e, stL_e, stR_e, alN_e, nwA_e, nwO_e, dvI_e, rmI_e, oV_e, oN_e, lt_e, rZ_e, br_T, br_F, fR_sI, aI_sI, aL_sI, aR_sI, kd_sI, ln_sI, hn_sI, hm_sI, fI_sI_n, fI_sR, aI_sR, aL_sR, aR_sR, kd_sR, ln_sR, hn_sR, hm_sR, fR_sR_n, fI_tI, fR_tI, aL_tI, aR_tI, kd_tI, ln_tI, hn_tI, hm_tI, aI_tI_n, fI_tL, fR_tL, aI_tL, aR_tL, kd_tL, ln_tL, hn_tL, hm_tL, aL_tL_n, fI_tR, fR_tR, aI_tR, aL_tR, kd_tR, ln_tR, hn_tR, hm_tR, aR_tR_n, hn_nw, hm_nw, rc400, rc403, rc404, rc405, rc407, rc409, rc420, rc440, bI_0, bI_1, bI_T, bI_F, iF_T, iF_F, br_not, le_nlt, not_true_eq_false, not_false_eq_true, and_self, and_true, true_and, and_false, false_and, or_true, true_or, or_false, false_or, ne_eq, reduceCtorEq, Nat.reduceLeDiff, Nat.reduceEqDiff, Nat.reduceLT, Nat.reduceAdd, Nat.reduceSub, Nat.reduceMul, Int32.reduceLT, Int32.reduceLE, Int32.reduceToNatClampNeg, Int32.reduceAdd, Int32.reduceSub, implies_true, forall_const, isIn_e, bit_e, lits, bI_T, bI_F, bI_0, bI_1, Int32.add_zero, Int32.zero_add, if_true, if_false, Option.some.injEq, lt_irr, iF_T, iF_F, hA, c, e]
        exact hK
      · simp only [d, e, bI_T, bI_F, bI_0, bI_1, Int32.add_zero, Int32.zero_add, if_true, if_false, Option.some.injEq, lt_irr, iF_T, iF_F, and_false] at hK
        simp only [gI_e, gR_e, pI_e, pZ_e, pR_e, ldI_e, ldZ_e, ldL_e, ldR_e, stI_e, stZ_e, stL_e, stR_e, alN_e, nwA_e, nwO_e, dvI_e, rmI_e, oV_e, oN_e, lt_e, rZ_e, br_T, br_F, fR_sI, aI_sI, aL_sI, aR_sI, kd_sI, ln_sI, hn_sI, hm_sI, fI_sI_n, fI_sR, aI_sR, aL_sR, aR_sR, kd_sR, ln_sR, hn_sR, hm_sR, fR_sR_n, fI_tI, fR_tI, aL_tI, aR_tI, kd_tI, ln_tI, hn_tI, hm_tI, aI_tI_n, fI_tL, fR_tL, aI_tL, aR_tL, kd_tL, ln_tL, hn_tL, hm_tL, aL_tL_n, fI_tR, fR_tR, aI_tR, aL_tR, kd_tR, ln_tR, hn_tR, hm_tR, aR_tR_n, hn_nw, hm_nw, rc400, rc403, rc404, rc405, rc407, rc409, rc420, rc440, bI_0, bI_1, bI_T, bI_F, iF_T, iF_F, br_not, le_nlt, not_true_eq_false, not_false_eq_true, and_self, and_true, true_and, and_false, false_and, or_true, true_or, or_false, false_or, ne_eq, reduceCtorEq, Nat.reduceLeDiff, Nat.reduceEqDiff, Nat.reduceLT, Nat.reduceAdd, Nat.reduceSub, Nat.reduceMul, Int32.reduceLT, Int32.reduceLE, Int32.reduceToNatClampNeg, Int32.reduceAdd, Int32.reduceSub, implies_true, forall_const, isIn_e, bit_e, lits, bI_T, bI_F, bI_0, bI_1, Int32.add_zero, Int32.zero_add, if_true, if_false, Option.some.injEq, lt_irr, iF_T, iF_F, hA, c, e]
        exact hK
    · simp only [d, bI_T, bI_F, bI_0, bI_1, Int32.add_zero, Int32.zero_add, if_true, if_false, Option.some.injEq, lt_irr, iF_T, iF_F, false_and] at hK
      simp only [gI_e, gR_e, pI_e, pZ_e, pR_e, ldI_e, ldZ_e, ldL_e, ldR_e, stI_e, stZ_e, stL_e, stR_e, alN_e, nwA_e, nwO_e, dvI_e, rmI_e, oV_e, oN_e, lt_e, rZ_e, br_T, br_F, fR_sI, aI_sI, aL_sI, aR_sI, kd_sI, ln_sI, hn_sI, hm_sI, fI_sI_n, fI_sR, aI_sR, aL_sR, aR_sR, kd_sR, ln_sR, hn_sR, hm_sR, fR_sR_n, fI_tI, fR_tI, aL_tI, aR_tI, kd_tI, ln_tI, hn_tI, hm_tI, aI_tI_n, fI_tL, fR_tL, aI_tL, aR_tL, kd_tL, ln_tL, hn_tL, hm_tL, aL_tL_n, fI_tR, fR_tR, aI_tR, aL_tR, kd_tR, ln_tR, hn_tR, hm_tR, aR_tR_n, hn_nw, hm_nw, rc400, rc403, rc404, rc405, rc407, rc409, rc420, rc440, bI_0, bI_1, bI_T, bI_F, iF_T, iF_F, br_not, le_nlt, not_true_eq_false, not_false_eq_true, and_self, and_true, true_and, and_false, false_and, or_true, true_or, or_false, false_or, ne_eq, reduceCtorEq, Nat.reduceLeDiff, Nat.reduceEqDiff, Nat.reduceLT, Nat.reduceAdd, Nat.reduceSub, Nat.reduceMul, Int32.reduceLT, Int32.reduceLE, Int32.reduceToNatClampNeg, Int32.reduceAdd, Int32.reduceSub, implies_true, forall_const, isIn_e, bit_e, lits, hA, hC, c, d]
      exact hK
  · intro K
    unfold b_X11_hearthsOf_4
    simp only [gI_e, gR_e, pI_e, pZ_e, pR_e, ldI_e, ldZ_e, ldL_e, ldR_e, stI_e, stZ_e, stL_e, stR_e, alN_e, nwA_e, nwO_e, dvI_e, rmI_e, oV_e, oN_e, lt_e, rZ_e, br_T, br_F, fR_sI, aI_sI, aL_sI, aR_sI, kd_sI, ln_sI, hn_sI, hm_sI, fI_sI_n, fI_sR, aI_sR, aL_sR, aR_sR, kd_sR, ln_sR, hn_sR, hm_sR, fR_sR_n, fI_tI, fR_tI, aL_tI, aR_tI, kd_tI, ln_tI, hn_tI, hm_tI, aI_tI_n, fI_tL, fR_tL, aI_tL, aR_tL, kd_tL, ln_tL, hn_tL, hm_tL, aL_tL_n, fI_tR, fR_tR, aI_tR, aL_tR, kd_tR, ln_tR, hn_tR, hm_tR, aR_tR_n, hn_nw, hm_nw, rc400, rc403, rc404, rc405, rc407, rc409, rc420, rc440, bI_0, bI_1, bI_T, bI_F, iF_T, iF_F, br_not, le_nlt, not_true_eq_false, not_false_eq_true, and_self, and_true, true_and, and_false, false_and, or_true, true_or, or_false, false_or, ne_eq, reduceCtorEq, Nat.reduceLeDiff, Nat.reduceEqDiff, Nat.reduceLT, Nat.reduceAdd, Nat.reduceSub, Nat.reduceMul, Int32.reduceLT, Int32.reduceLE, Int32.reduceToNatClampNeg, Int32.reduceAdd, Int32.reduceSub, implies_true, forall_const, isIn_e, bit_e, lits, hA, hC, lt_irr]
    exact hQ
theorem bookSize_e (hR : RJ y np na nm nr ne m h) {p : Nat} (Q : Int32 → Hp → Prop) (hQ : Q (acI (fun a => bI (aI h 132 (m 132) a = nI p)) na) h) : w_X11_bookSize (some y) (nI p) h Q := by
  have hA := hR.1
  unfold JM at hA
  have hC := hR.2.1
  have hb := hR.2.2.1.2.2.1
  unfold w_X11_bookSize n_X11_bookSize_0 l_X11_bookSize_4
  refine Lo.cnt (n := na) (fun a => bI (aI h 132 (m 132) a = nI p)) ?_ ?_
  · intro k hk K z hK
    unfold b_X11_bookSize_4 n_X11_bookSize_25
    have c := cnF hk hb (by decide)
    by_cases d : aI h 132 (m 132) k = nI p
    · simp only [d, bI_T, bI_F, bI_0, bI_1, Int32.add_zero, Int32.zero_add, if_true, if_false, Option.some.injEq, lt_irr, iF_T, iF_F] at hK
      simp only [gI_e, gR_e, pI_e, pZ_e, pR_e, ldI_e, ldZ_e, ldL_e, ldR_e, stI_e, stZ_e, stL_e, stR_e, alN_e, nwA_e, nwO_e, dvI_e, rmI_e, oV_e, oN_e, lt_e, rZ_e, br_T, br_F, fR_sI, aI_sI, aL_sI, aR_sI, kd_sI, ln_sI, hn_sI, hm_sI, fI_sI_n, fI_sR, aI_sR, aL_sR, aR_sR, kd_sR, ln_sR, hn_sR, hm_sR, fR_sR_n, fI_tI, fR_tI, aL_tI, aR_tI, kd_tI, ln_tI, hn_tI, hm_tI, aI_tI_n, fI_tL, fR_tL, aI_tL, aR_tL, kd_tL, ln_tL, hn_tL, hm_tL, aL_tL_n, fI_tR, fR_tR, aI_tR, aL_tR, kd_tR, ln_tR, hn_tR, hm_tR, aR_tR_n, hn_nw, hm_nw, rc400, rc403, rc404, rc405, rc407, rc409, rc420, rc440, bI_0, bI_1, bI_T, bI_F, iF_T, iF_F, br_not, le_nlt, not_true_eq_false, not_false_eq_true, and_self, and_true, true_and, and_false, false_and, or_true, true_or, or_false, false_or, ne_eq, reduceCtorEq, Nat.reduceLeDiff, Nat.reduceEqDiff, Nat.reduceLT, Nat.reduceAdd, Nat.reduceSub, Nat.reduceMul, Int32.reduceLT, Int32.reduceLE, Int32.reduceToNatClampNeg, Int32.reduceAdd, Int32.reduceSub, implies_true, forall_const, isIn_e, bit_e, lits, hA, hC, c, d]
      exact hK
    · simp only [d, bI_T, bI_F, bI_0, bI_1, Int32.add_zero, Int32.zero_add, if_true, if_false, Option.some.injEq, lt_irr, iF_T, iF_F] at hK
      simp only [gI_e, gR_e, pI_e, pZ_e, pR_e, ldI_e, ldZ_e, ldL_e, ldR_e, stI_e, stZ_e, stL_e, stR_e, alN_e, nwA_e, nwO_e, dvI_e, rmI_e, oV_e, oN_e, lt_e, rZ_e, br_T, br_F, fR_sI, aI_sI, aL_sI, aR_sI, kd_sI, ln_sI, hn_sI, hm_sI, fI_sI_n, fI_sR, aI_sR, aL_sR, aR_sR, kd_sR, ln_sR, hn_sR, hm_sR, fR_sR_n, fI_tI, fR_tI, aL_tI, aR_tI, kd_tI, ln_tI, hn_tI, hm_tI, aI_tI_n, fI_tL, fR_tL, aI_tL, aR_tL, kd_tL, ln_tL, hn_tL, hm_tL, aL_tL_n, fI_tR, fR_tR, aI_tR, aL_tR, kd_tR, ln_tR, hn_tR, hm_tR, aR_tR_n, hn_nw, hm_nw, rc400, rc403, rc404, rc405, rc407, rc409, rc420, rc440, bI_0, bI_1, bI_T, bI_F, iF_T, iF_F, br_not, le_nlt, not_true_eq_false, not_false_eq_true, and_self, and_true, true_and, and_false, false_and, or_true, true_or, or_false, false_or, ne_eq, reduceCtorEq, Nat.reduceLeDiff, Nat.reduceEqDiff, Nat.reduceLT, Nat.reduceAdd, Nat.reduceSub, Nat.reduceMul, Int32.reduceLT, Int32.reduceLE, Int32.reduceToNatClampNeg, Int32.reduceAdd, Int32.reduceSub, implies_true, forall_const, isIn_e, bit_e, lits, hA, hC, c, d]
      exact hK
  · intro K
    unfold b_X11_bookSize_4
    simp only [gI_e, gR_e, pI_e, pZ_e, pR_e, ldI_e, ldZ_e, ldL_e, ldR_e, stI_e, stZ_e, stL_e, stR_e, alN_e, nwA_e, nwO_e, dvI_e, rmI_e, oV_e, oN_e, lt_e, rZ_e, br_T, br_F, fR_sI, aI_sI, aL_sI, aR_sI, kd_sI, ln_sI, hn_sI, hm_sI, fI_sI_n, fI_sR, aI_sR, aL_sR, aR_sR, kd_sR, ln_sR, hn_sR, hm_sR, fR_sR_n, fI_tI, fR_tI, aL_tI, aR_tI, kd_tI, ln_tI, hn_tI, hm_tI, aI_tI_n, fI_tL, fR_tL, aI_tL, aR_tL, kd_tL, ln_tL, hn_tL, hm_tL, aL_tL_n, fI_tR, fR_tR, aI_tR, aL_tR, kd_tR, ln_tR, hn_tR, hm_tR, aR_tR_n, hn_nw, hm_nw, rc400, rc403, rc404, rc405, rc407, rc409, rc420, rc440, bI_0, bI_1, bI_T, bI_F, iF_T, iF_F, br_not, le_nlt, not_true_eq_false, not_false_eq_true, and_self, and_true, true_and, and_false, false_and, or_true, true_or, or_false, false_or, ne_eq, reduceCtorEq, Nat.reduceLeDiff, Nat.reduceEqDiff, Nat.reduceLT, Nat.reduceAdd, Nat.reduceSub, Nat.reduceMul, Int32.reduceLT, Int32.reduceLE, Int32.reduceToNatClampNeg, Int32.reduceAdd, Int32.reduceSub, implies_true, forall_const, isIn_e, bit_e, lits, hA, hC, lt_irr]
    exact hQ
theorem at_g (hJ : JA x y b0 s0 np na nm nr ne g m h) {k p : Nat} (hk : k < na) (hp : p < np) : (g 1 (aI h 132 (m 132) k).toNatClampNeg = g 1 p) = (aI h 132 (m 132) k = nI p) := by
  have hbd := hJ.2.2.1.2
  have c := hJ.2.2.2.2.2.1.w_at k hk
  apply propext
  constructor
  · intro e
    have := hJ.2.2.2.1.pl_in (by omega) _ _ (vp_lt2 c) hp e
    rw [vp_nN c, this]
  · intro e
    rw [e, nI_clamp (by omega)]
theorem sizeOfBook_e (hJ : JA x y b0 s0 np na nm nr ne g m h) {p : Nat} (hp : p < np) (Q : Int32 → Hp → Prop) (hQ : Q (acI (fun a => bI (aI h 132 (m 132) a = nI p)) na) h) : w_X10_sizeOfBook (some x) (some (g 1 p)) h Q := by
  have hB := hJ.2.1
  unfold JS at hB
  have hC := hJ.2.2.1.1
  have hbd := hJ.2.2.1.2
  have ep : (nI p).toNatClampNeg = p := nI_clamp (by omega)
  unfold w_X10_sizeOfBook n_X10_sizeOfBook_0 l_X10_sizeOfBook_4
  refine Lo.cnt (n := na) (fun a => bI (aI h 132 (m 132) a = nI p)) ?_ ?_
  · intro k hk K z hK
    unfold b_X10_sizeOfBook_4 n_X10_sizeOfBook_31
    have c := cnF hk (show na ≤ 160 by omega) (by decide)
    have q := asF hJ hk
    have r := at_g hJ hk hp
    by_cases d : aI h 132 (m 132) k = nI p
    · simp only [d, bI_T, bI_F, bI_0, bI_1, Int32.add_zero, Int32.zero_add, if_true, if_false, Option.some.injEq, lt_irr, iF_T, iF_F] at hK
      simp only [gI_e, gR_e, pI_e, pZ_e, pR_e, ldI_e, ldZ_e, ldL_e, ldR_e, stI_e, stZ_e, stL_e, stR_e, alN_e, nwA_e, nwO_e, dvI_e, rmI_e, oV_e, oN_e, lt_e, rZ_e, br_T, br_F, fR_sI, aI_sI, aL_sI, aR_sI, kd_sI, ln_sI, hn_sI, hm_sI, fI_sI_n, fI_sR, aI_sR, aL_sR, aR_sR, kd_sR, ln_sR, hn_sR, hm_sR, fR_sR_n, fI_tI, fR_tI, aL_tI, aR_tI, kd_tI, ln_tI, hn_tI, hm_tI, aI_tI_n, fI_tL, fR_tL, aI_tL, aR_tL, kd_tL, ln_tL, hn_tL, hm_tL, aL_tL_n, fI_tR, fR_tR, aI_tR, aL_tR, kd_tR, ln_tR, hn_tR, hm_tR, aR_tR_n, hn_nw, hm_nw, rc400, rc403, rc404, rc405, rc407, rc409, rc420, rc440, bI_0, bI_1, bI_T, bI_F, iF_T, iF_F, br_not, le_nlt, not_true_eq_false, not_false_eq_true, and_self, and_true, true_and, and_false, false_and, or_true, true_or, or_false, false_or, ne_eq, reduceCtorEq, Nat.reduceLeDiff, Nat.reduceEqDiff, Nat.reduceLT, Nat.reduceAdd, Nat.reduceSub, Nat.reduceMul, Int32.reduceLT, Int32.reduceLE, Int32.reduceToNatClampNeg, Int32.reduceAdd, Int32.reduceSub, implies_true, forall_const, isIn_e, bit_e, lits, bI_T, bI_F, bI_0, bI_1, Int32.add_zero, Int32.zero_add, if_true, if_false, Option.some.injEq, lt_irr, iF_T, iF_F, hB, hC, c, q, d, ep]
      exact hK
    · simp only [d, bI_T, bI_F, bI_0, bI_1, Int32.add_zero, Int32.zero_add, if_true, if_false, Option.some.injEq, lt_irr, iF_T, iF_F] at hK
      simp only [gI_e, gR_e, pI_e, pZ_e, pR_e, ldI_e, ldZ_e, ldL_e, ldR_e, stI_e, stZ_e, stL_e, stR_e, alN_e, nwA_e, nwO_e, dvI_e, rmI_e, oV_e, oN_e, lt_e, rZ_e, br_T, br_F, fR_sI, aI_sI, aL_sI, aR_sI, kd_sI, ln_sI, hn_sI, hm_sI, fI_sI_n, fI_sR, aI_sR, aL_sR, aR_sR, kd_sR, ln_sR, hn_sR, hm_sR, fR_sR_n, fI_tI, fR_tI, aL_tI, aR_tI, kd_tI, ln_tI, hn_tI, hm_tI, aI_tI_n, fI_tL, fR_tL, aI_tL, aR_tL, kd_tL, ln_tL, hn_tL, hm_tL, aL_tL_n, fI_tR, fR_tR, aI_tR, aL_tR, kd_tR, ln_tR, hn_tR, hm_tR, aR_tR_n, hn_nw, hm_nw, rc400, rc403, rc404, rc405, rc407, rc409, rc420, rc440, bI_0, bI_1, bI_T, bI_F, iF_T, iF_F, br_not, le_nlt, not_true_eq_false, not_false_eq_true, and_self, and_true, true_and, and_false, false_and, or_true, true_or, or_false, false_or, ne_eq, reduceCtorEq, Nat.reduceLeDiff, Nat.reduceEqDiff, Nat.reduceLT, Nat.reduceAdd, Nat.reduceSub, Nat.reduceMul, Int32.reduceLT, Int32.reduceLE, Int32.reduceToNatClampNeg, Int32.reduceAdd, Int32.reduceSub, implies_true, forall_const, isIn_e, bit_e, lits, bI_T, bI_F, bI_0, bI_1, Int32.add_zero, Int32.zero_add, if_true, if_false, Option.some.injEq, lt_irr, iF_T, iF_F, hB, hC, c, q, r, d]
      exact hK
  · intro K
    unfold b_X10_sizeOfBook_4
    simp only [gI_e, gR_e, pI_e, pZ_e, pR_e, ldI_e, ldZ_e, ldL_e, ldR_e, stI_e, stZ_e, stL_e, stR_e, alN_e, nwA_e, nwO_e, dvI_e, rmI_e, oV_e, oN_e, lt_e, rZ_e, br_T, br_F, fR_sI, aI_sI, aL_sI, aR_sI, kd_sI, ln_sI, hn_sI, hm_sI, fI_sI_n, fI_sR, aI_sR, aL_sR, aR_sR, kd_sR, ln_sR, hn_sR, hm_sR, fR_sR_n, fI_tI, fR_tI, aL_tI, aR_tI, kd_tI, ln_tI, hn_tI, hm_tI, aI_tI_n, fI_tL, fR_tL, aI_tL, aR_tL, kd_tL, ln_tL, hn_tL, hm_tL, aL_tL_n, fI_tR, fR_tR, aI_tR, aL_tR, kd_tR, ln_tR, hn_tR, hm_tR, aR_tR_n, hn_nw, hm_nw, rc400, rc403, rc404, rc405, rc407, rc409, rc420, rc440, bI_0, bI_1, bI_T, bI_F, iF_T, iF_F, br_not, le_nlt, not_true_eq_false, not_false_eq_true, and_self, and_true, true_and, and_false, false_and, or_true, true_or, or_false, false_or, ne_eq, reduceCtorEq, Nat.reduceLeDiff, Nat.reduceEqDiff, Nat.reduceLT, Nat.reduceAdd, Nat.reduceSub, Nat.reduceMul, Int32.reduceLT, Int32.reduceLE, Int32.reduceToNatClampNeg, Int32.reduceAdd, Int32.reduceSub, implies_true, forall_const, isIn_e, bit_e, lits, hB, hC, lt_irr]
    exact hQ
theorem K_about (hJ : JA x y b0 s0 np na nm nr ne g m h) (a w : Int32) (Q : Hp → Prop) (hQ : ∀ h2, JJ x y b0 s0 m h2 → Q h2) : w_X10_about (some x) a w h (fun r h1 => w_X11_about (some y) a w h1 (fun r2 h2 => r = r2 ∧ Q h2)) := by
  have hA := hJ.1; unfold JM at hA; have hB := hJ.2.1; unfold JS at hB; have hC := hJ.2.2.1.1; have hR := hJ.rj; have hf := rf_l hJ; have hn := no_l hR; have hn1 := fun k v => no_l (hJ.rj1 k v); have hp := isPlace_e hR; have ha := isAsk_e hR; have hp1 := fun k v => isPlace_e (hJ.rj1 k v); have ha1 := fun k v => isAsk_e (hJ.rj1 k v)
  have hbd := hJ.2.2.1.2
  have hW := hJ.2.2.2.2.2.1
  have hE := hJ.2.2.2.2.2.2.1
  unfold w_X10_about n_X10_about_0 n_X10_about_83 n_X10_about_126 w_X11_about n_X11_about_0 n_X11_about_89 n_X11_about_116
  by_cases c : vp_in a np
  rotate_left
  · simp only [gI_e, gR_e, pI_e, pZ_e, pR_e, ldI_e, ldZ_e, ldL_e, ldR_e, stI_e, stZ_e, stL_e, stR_e, alN_e, nwA_e, nwO_e, dvI_e, rmI_e, oV_e, oN_e, lt_e, rZ_e, br_T, br_F, fR_sI, aI_sI, aL_sI, aR_sI, kd_sI, ln_sI, hn_sI, hm_sI, fI_sI_n, fI_sR, aI_sR, aL_sR, aR_sR, kd_sR, ln_sR, hn_sR, hm_sR, fR_sR_n, fI_tI, fR_tI, aL_tI, aR_tI, kd_tI, ln_tI, hn_tI, hm_tI, aI_tI_n, fI_tL, fR_tL, aI_tL, aR_tL, kd_tL, ln_tL, hn_tL, hm_tL, aL_tL_n, fI_tR, fR_tR, aI_tR, aL_tR, kd_tR, ln_tR, hn_tR, hm_tR, aR_tR_n, hn_nw, hm_nw, rc400, rc403, rc404, rc405, rc407, rc409, rc420, rc440, bI_0, bI_1, bI_T, bI_F, iF_T, iF_F, br_not, le_nlt, not_true_eq_false, not_false_eq_true, and_self, and_true, true_and, and_false, false_and, or_true, true_or, or_false, false_or, ne_eq, reduceCtorEq, Nat.reduceLeDiff, Nat.reduceEqDiff, Nat.reduceLT, Nat.reduceAdd, Nat.reduceSub, Nat.reduceMul, Int32.reduceLT, Int32.reduceLE, Int32.reduceToNatClampNeg, Int32.reduceAdd, Int32.reduceSub, implies_true, forall_const, isIn_e, bit_e, lits, hA, hB, hC, hf, hn, hn1, hp, ha, hp1, ha1, placeAt_e hJ, askAt_e hJ, modelAt_e hJ, shelfAt_e hJ, isShelf_e, isGroup_e, isAsked_e, rZ_bI, dec_none, dec_s, dec_1, lt_e, c]
    first | exact hQ _ hJ.jj | exact ⟨rfl, hQ _ hJ.jj⟩
  obtain ⟨k, hk, rfl⟩ := vp_ex c
  have ek : (nI k).toNatClampNeg = k := nI_clamp (by omega)
  have c24 : vp_in (nI k) 24 := vp_le c (by omega)
  have q := plF hJ hk
  by_cases w0 : w = 0
  · subst w0
    simp (config := {decide := true}) only [gI_e, gR_e, pI_e, pZ_e, pR_e, ldI_e, ldZ_e, ldL_e, ldR_e, stI_e, stZ_e, stL_e, stR_e, alN_e, nwA_e, nwO_e, dvI_e, rmI_e, oV_e, oN_e, lt_e, rZ_e, br_T, br_F, fR_sI, aI_sI, aL_sI, aR_sI, kd_sI, ln_sI, hn_sI, hm_sI, fI_sI_n, fI_sR, aI_sR, aL_sR, aR_sR, kd_sR, ln_sR, hn_sR, hm_sR, fR_sR_n, fI_tI, fR_tI, aL_tI, aR_tI, kd_tI, ln_tI, hn_tI, hm_tI, aI_tI_n, fI_tL, fR_tL, aI_tL, aR_tL, kd_tL, ln_tL, hn_tL, hm_tL, aL_tL_n, fI_tR, fR_tR, aI_tR, aL_tR, kd_tR, ln_tR, hn_tR, hm_tR, aR_tR_n, hn_nw, hm_nw, rc400, rc403, rc404, rc405, rc407, rc409, rc420, rc440, bI_0, bI_1, bI_T, bI_F, iF_T, iF_F, br_not, le_nlt, not_true_eq_false, not_false_eq_true, and_self, and_true, true_and, and_false, false_and, or_true, true_or, or_false, false_or, ne_eq, reduceCtorEq, Nat.reduceLeDiff, Nat.reduceEqDiff, Nat.reduceLT, Nat.reduceAdd, Nat.reduceSub, Nat.reduceMul, Int32.reduceLT, Int32.reduceLE, Int32.reduceToNatClampNeg, Int32.reduceAdd, Int32.reduceSub, implies_true, forall_const, isIn_e, bit_e, lits, hA, hB, hC, hf, hn, hn1, hp, ha, hp1, ha1, placeAt_e hJ, askAt_e hJ, modelAt_e hJ, shelfAt_e hJ, isShelf_e, isGroup_e, isAsked_e, rZ_bI, dec_none, dec_s, dec_1, lt_e, c, c24, ek, q]
    first | exact hQ _ hJ.jj | exact ⟨rfl, hQ _ hJ.jj⟩
  by_cases w1 : w = 1
  · subst w1
    by_cases z : k = 0
    · have e : aI h 121 (m 121) k = -1 := by rw [z]; exact hW.w_u0
      simp (config := {decide := true}) only [gI_e, gR_e, pI_e, pZ_e, pR_e, ldI_e, ldZ_e, ldL_e, ldR_e, stI_e, stZ_e, stL_e, stR_e, alN_e, nwA_e, nwO_e, dvI_e, rmI_e, oV_e, oN_e, lt_e, rZ_e, br_T, br_F, fR_sI, aI_sI, aL_sI, aR_sI, kd_sI, ln_sI, hn_sI, hm_sI, fI_sI_n, fI_sR, aI_sR, aL_sR, aR_sR, kd_sR, ln_sR, hn_sR, hm_sR, fR_sR_n, fI_tI, fR_tI, aL_tI, aR_tI, kd_tI, ln_tI, hn_tI, hm_tI, aI_tI_n, fI_tL, fR_tL, aI_tL, aR_tL, kd_tL, ln_tL, hn_tL, hm_tL, aL_tL_n, fI_tR, fR_tR, aI_tR, aL_tR, kd_tR, ln_tR, hn_tR, hm_tR, aR_tR_n, hn_nw, hm_nw, rc400, rc403, rc404, rc405, rc407, rc409, rc420, rc440, bI_0, bI_1, bI_T, bI_F, iF_T, iF_F, br_not, le_nlt, not_true_eq_false, not_false_eq_true, and_self, and_true, true_and, and_false, false_and, or_true, true_or, or_false, false_or, ne_eq, reduceCtorEq, Nat.reduceLeDiff, Nat.reduceEqDiff, Nat.reduceLT, Nat.reduceAdd, Nat.reduceSub, Nat.reduceMul, Int32.reduceLT, Int32.reduceLE, Int32.reduceToNatClampNeg, Int32.reduceAdd, Int32.reduceSub, implies_true, forall_const, isIn_e, bit_e, lits, hA, hB, hC, hf, hn, hn1, hp, ha, hp1, ha1, placeAt_e hJ, askAt_e hJ, modelAt_e hJ, shelfAt_e hJ, isShelf_e, isGroup_e, isAsked_e, rZ_bI, dec_none, dec_s, dec_1, lt_e, c, c24, ek, q, e]
      first | exact hQ _ hJ.jj | exact ⟨rfl, hQ _ hJ.jj⟩
    · obtain ⟨⟨u1, u2⟩, -, u3, -⟩ := un_e hW hk (by omega) z
      have u4 : ¬ nI (unN h m k) = -1 := nI_m1 (by omega)
      have u5 : (nI (unN h m k)).toNatClampNeg = unN h m k := nI_clamp (by omega)
      have q2 := plF hJ u1
      simp (config := {decide := true}) only [gI_e, gR_e, pI_e, pZ_e, pR_e, ldI_e, ldZ_e, ldL_e, ldR_e, stI_e, stZ_e, stL_e, stR_e, alN_e, nwA_e, nwO_e, dvI_e, rmI_e, oV_e, oN_e, lt_e, rZ_e, br_T, br_F, fR_sI, aI_sI, aL_sI, aR_sI, kd_sI, ln_sI, hn_sI, hm_sI, fI_sI_n, fI_sR, aI_sR, aL_sR, aR_sR, kd_sR, ln_sR, hn_sR, hm_sR, fR_sR_n, fI_tI, fR_tI, aL_tI, aR_tI, kd_tI, ln_tI, hn_tI, hm_tI, aI_tI_n, fI_tL, fR_tL, aI_tL, aR_tL, kd_tL, ln_tL, hn_tL, hm_tL, aL_tL_n, fI_tR, fR_tR, aI_tR, aL_tR, kd_tR, ln_tR, hn_tR, hm_tR, aR_tR_n, hn_nw, hm_nw, rc400, rc403, rc404, rc405, rc407, rc409, rc420, rc440, bI_0, bI_1, bI_T, bI_F, iF_T, iF_F, br_not, le_nlt, not_true_eq_false, not_false_eq_true, and_self, and_true, true_and, and_false, false_and, or_true, true_or, or_false, false_or, ne_eq, reduceCtorEq, Nat.reduceLeDiff, Nat.reduceEqDiff, Nat.reduceLT, Nat.reduceAdd, Nat.reduceSub, Nat.reduceMul, Int32.reduceLT, Int32.reduceLE, Int32.reduceToNatClampNeg, Int32.reduceAdd, Int32.reduceSub, implies_true, forall_const, isIn_e, bit_e, lits, hA, hB, hC, hf, hn, hn1, hp, ha, hp1, ha1, placeAt_e hJ, askAt_e hJ, modelAt_e hJ, shelfAt_e hJ, isShelf_e, isGroup_e, isAsked_e, rZ_bI, dec_none, dec_s, dec_1, lt_e, c, c24, ek, q, u3, u4, dec_s _ u4, u5, q2]
      first | exact hQ _ hJ.jj | exact ⟨rfl, hQ _ hJ.jj⟩
  by_cases w2 : w = 2
  · subst w2
    by_cases d : aI h 120 (m 120) k = 0
    · simp (config := {decide := true}) only [gI_e, gR_e, pI_e, pZ_e, pR_e, ldI_e, ldZ_e, ldL_e, ldR_e, stI_e, stZ_e, stL_e, stR_e, alN_e, nwA_e, nwO_e, dvI_e, rmI_e, oV_e, oN_e, lt_e, rZ_e, br_T, br_F, fR_sI, aI_sI, aL_sI, aR_sI, kd_sI, ln_sI, hn_sI, hm_sI, fI_sI_n, fI_sR, aI_sR, aL_sR, aR_sR, kd_sR, ln_sR, hn_sR, hm_sR, fR_sR_n, fI_tI, fR_tI, aL_tI, aR_tI, kd_tI, ln_tI, hn_tI, hm_tI, aI_tI_n, fI_tL, fR_tL, aI_tL, aR_tL, kd_tL, ln_tL, hn_tL, hm_tL, aL_tL_n, fI_tR, fR_tR, aI_tR, aL_tR, kd_tR, ln_tR, hn_tR, hm_tR, aR_tR_n, hn_nw, hm_nw, rc400, rc403, rc404, rc405, rc407, rc409, rc420, rc440, bI_0, bI_1, bI_T, bI_F, iF_T, iF_F, br_not, le_nlt, not_true_eq_false, not_false_eq_true, and_self, and_true, true_and, and_false, false_and, or_true, true_or, or_false, false_or, ne_eq, reduceCtorEq, Nat.reduceLeDiff, Nat.reduceEqDiff, Nat.reduceLT, Nat.reduceAdd, Nat.reduceSub, Nat.reduceMul, Int32.reduceLT, Int32.reduceLE, Int32.reduceToNatClampNeg, Int32.reduceAdd, Int32.reduceSub, implies_true, forall_const, isIn_e, bit_e, lits, hA, hB, hC, hf, hn, hn1, hp, ha, hp1, ha1, placeAt_e hJ, askAt_e hJ, modelAt_e hJ, shelfAt_e hJ, isShelf_e, isGroup_e, isAsked_e, rZ_bI, dec_none, dec_s, dec_1, lt_e, bI_T, bI_F, bI_0, bI_1, Int32.add_zero, Int32.zero_add, if_true, if_false, Option.some.injEq, lt_irr, iF_T, iF_F, c, c24, ek, q, d]
      first | exact hQ _ hJ.jj | exact ⟨rfl, hQ _ hJ.jj⟩
    · simp (config := {decide := true}) only [gI_e, gR_e, pI_e, pZ_e, pR_e, ldI_e, ldZ_e, ldL_e, ldR_e, stI_e, stZ_e, stL_e, stR_e, alN_e, nwA_e, nwO_e, dvI_e, rmI_e, oV_e, oN_e, lt_e, rZ_e, br_T, br_F, fR_sI, aI_sI, aL_sI, aR_sI, kd_sI, ln_sI, hn_sI, hm_sI, fI_sI_n, fI_sR, aI_sR, aL_sR, aR_sR, kd_sR, ln_sR, hn_sR, hm_sR, fR_sR_n, fI_tI, fR_tI, aL_tI, aR_tI, kd_tI, ln_tI, hn_tI, hm_tI, aI_tI_n, fI_tL, fR_tL, aI_tL, aR_tL, kd_tL, ln_tL, hn_tL, hm_tL, aL_tL_n, fI_tR, fR_tR, aI_tR, aL_tR, kd_tR, ln_tR, hn_tR, hm_tR, aR_tR_n, hn_nw, hm_nw, rc400, rc403, rc404, rc405, rc407, rc409, rc420, rc440, bI_0, bI_1, bI_T, bI_F, iF_T, iF_F, br_not, le_nlt, not_true_eq_false, not_false_eq_true, and_self, and_true, true_and, and_false, false_and, or_true, true_or, or_false, false_or, ne_eq, reduceCtorEq, Nat.reduceLeDiff, Nat.reduceEqDiff, Nat.reduceLT, Nat.reduceAdd, Nat.reduceSub, Nat.reduceMul, Int32.reduceLT, Int32.reduceLE, Int32.reduceToNatClampNeg, Int32.reduceAdd, Int32.reduceSub, implies_true, forall_const, isIn_e, bit_e, lits, hA, hB, hC, hf, hn, hn1, hp, ha, hp1, ha1, placeAt_e hJ, askAt_e hJ, modelAt_e hJ, shelfAt_e hJ, isShelf_e, isGroup_e, isAsked_e, rZ_bI, dec_none, dec_s, dec_1, lt_e, bI_T, bI_F, bI_0, bI_1, Int32.add_zero, Int32.zero_add, if_true, if_false, Option.some.injEq, lt_irr, iF_T, iF_F, c, c24, ek, q, d]
      first | exact hQ _ hJ.jj | exact ⟨rfl, hQ _ hJ.jj⟩
  by_cases w3 : w = 3
  · subst w3
    have e := hE.e_hs k hk
    simp (config := {decide := true}) only [gI_e, gR_e, pI_e, pZ_e, pR_e, ldI_e, ldZ_e, ldL_e, ldR_e, stI_e, stZ_e, stL_e, stR_e, alN_e, nwA_e, nwO_e, dvI_e, rmI_e, oV_e, oN_e, lt_e, rZ_e, br_T, br_F, fR_sI, aI_sI, aL_sI, aR_sI, kd_sI, ln_sI, hn_sI, hm_sI, fI_sI_n, fI_sR, aI_sR, aL_sR, aR_sR, kd_sR, ln_sR, hn_sR, hm_sR, fR_sR_n, fI_tI, fR_tI, aL_tI, aR_tI, kd_tI, ln_tI, hn_tI, hm_tI, aI_tI_n, fI_tL, fR_tL, aI_tL, aR_tL, kd_tL, ln_tL, hn_tL, hm_tL, aL_tL_n, fI_tR, fR_tR, aI_tR, aL_tR, kd_tR, ln_tR, hn_tR, hm_tR, aR_tR_n, hn_nw, hm_nw, rc400, rc403, rc404, rc405, rc407, rc409, rc420, rc440, bI_0, bI_1, bI_T, bI_F, iF_T, iF_F, br_not, le_nlt, not_true_eq_false, not_false_eq_true, and_self, and_true, true_and, and_false, false_and, or_true, true_or, or_false, false_or, ne_eq, reduceCtorEq, Nat.reduceLeDiff, Nat.reduceEqDiff, Nat.reduceLT, Nat.reduceAdd, Nat.reduceSub, Nat.reduceMul, Int32.reduceLT, Int32.reduceLE, Int32.reduceToNatClampNeg, Int32.reduceAdd, Int32.reduceSub, implies_true, forall_const, isIn_e, bit_e, lits, hA, hB, hC, hf, hn, hn1, hp, ha, hp1, ha1, placeAt_e hJ, askAt_e hJ, modelAt_e hJ, shelfAt_e hJ, isShelf_e, isGroup_e, isAsked_e, rZ_bI, dec_none, dec_s, dec_1, lt_e, c, c24, ek, q, e]
    refine hearthsOf_e hR hk _ ?_
    first | exact hQ _ hJ.jj | exact ⟨rfl, hQ _ hJ.jj⟩
  by_cases w4 : w = 4
  · subst w4
    simp (config := {decide := true}) only [gI_e, gR_e, pI_e, pZ_e, pR_e, ldI_e, ldZ_e, ldL_e, ldR_e, stI_e, stZ_e, stL_e, stR_e, alN_e, nwA_e, nwO_e, dvI_e, rmI_e, oV_e, oN_e, lt_e, rZ_e, br_T, br_F, fR_sI, aI_sI, aL_sI, aR_sI, kd_sI, ln_sI, hn_sI, hm_sI, fI_sI_n, fI_sR, aI_sR, aL_sR, aR_sR, kd_sR, ln_sR, hn_sR, hm_sR, fR_sR_n, fI_tI, fR_tI, aL_tI, aR_tI, kd_tI, ln_tI, hn_tI, hm_tI, aI_tI_n, fI_tL, fR_tL, aI_tL, aR_tL, kd_tL, ln_tL, hn_tL, hm_tL, aL_tL_n, fI_tR, fR_tR, aI_tR, aL_tR, kd_tR, ln_tR, hn_tR, hm_tR, aR_tR_n, hn_nw, hm_nw, rc400, rc403, rc404, rc405, rc407, rc409, rc420, rc440, bI_0, bI_1, bI_T, bI_F, iF_T, iF_F, br_not, le_nlt, not_true_eq_false, not_false_eq_true, and_self, and_true, true_and, and_false, false_and, or_true, true_or, or_false, false_or, ne_eq, reduceCtorEq, Nat.reduceLeDiff, Nat.reduceEqDiff, Nat.reduceLT, Nat.reduceAdd, Nat.reduceSub, Nat.reduceMul, Int32.reduceLT, Int32.reduceLE, Int32.reduceToNatClampNeg, Int32.reduceAdd, Int32.reduceSub, implies_true, forall_const, isIn_e, bit_e, lits, hA, hB, hC, hf, hn, hn1, hp, ha, hp1, ha1, placeAt_e hJ, askAt_e hJ, modelAt_e hJ, shelfAt_e hJ, isShelf_e, isGroup_e, isAsked_e, rZ_bI, dec_none, dec_s, dec_1, lt_e, c, c24, ek, q]
    refine sizeOfBook_e hJ hk _ ?_
    simp (config := {decide := true}) only [gI_e, gR_e, pI_e, pZ_e, pR_e, ldI_e, ldZ_e, ldL_e, ldR_e, stI_e, stZ_e, stL_e, stR_e, alN_e, nwA_e, nwO_e, dvI_e, rmI_e, oV_e, oN_e, lt_e, rZ_e, br_T, br_F, fR_sI, aI_sI, aL_sI, aR_sI, kd_sI, ln_sI, hn_sI, hm_sI, fI_sI_n, fI_sR, aI_sR, aL_sR, aR_sR, kd_sR, ln_sR, hn_sR, hm_sR, fR_sR_n, fI_tI, fR_tI, aL_tI, aR_tI, kd_tI, ln_tI, hn_tI, hm_tI, aI_tI_n, fI_tL, fR_tL, aI_tL, aR_tL, kd_tL, ln_tL, hn_tL, hm_tL, aL_tL_n, fI_tR, fR_tR, aI_tR, aL_tR, kd_tR, ln_tR, hn_tR, hm_tR, aR_tR_n, hn_nw, hm_nw, rc400, rc403, rc404, rc405, rc407, rc409, rc420, rc440, bI_0, bI_1, bI_T, bI_F, iF_T, iF_F, br_not, le_nlt, not_true_eq_false, not_false_eq_true, and_self, and_true, true_and, and_false, false_and, or_true, true_or, or_false, false_or, ne_eq, reduceCtorEq, Nat.reduceLeDiff, Nat.reduceEqDiff, Nat.reduceLT, Nat.reduceAdd, Nat.reduceSub, Nat.reduceMul, Int32.reduceLT, Int32.reduceLE, Int32.reduceToNatClampNeg, Int32.reduceAdd, Int32.reduceSub, implies_true, forall_const, isIn_e, bit_e, lits, hA, hB, hC, hf, hn, hn1, hp, ha, hp1, ha1, placeAt_e hJ, askAt_e hJ, modelAt_e hJ, shelfAt_e hJ, isShelf_e, isGroup_e, isAsked_e, rZ_bI, dec_none, dec_s, dec_1, lt_e, c, c24, ek, q]
    refine bookSize_e hR _ ?_
    first | exact hQ _ hJ.jj | exact ⟨rfl, hQ _ hJ.jj⟩
  by_cases w5 : w = 5
  · subst w5
    rcases hW.w_mad k hk with d | d <;>
    · simp (config := {decide := true}) only [gI_e, gR_e, pI_e, pZ_e, pR_e, ldI_e, ldZ_e, ldL_e, ldR_e, stI_e, stZ_e, stL_e, stR_e, alN_e, nwA_e, nwO_e, dvI_e, rmI_e, oV_e, oN_e, lt_e, rZ_e, br_T, br_F, fR_sI, aI_sI, aL_sI, aR_sI, kd_sI, ln_sI, hn_sI, hm_sI, fI_sI_n, fI_sR, aI_sR, aL_sR, aR_sR, kd_sR, ln_sR, hn_sR, hm_sR, fR_sR_n, fI_tI, fR_tI, aL_tI, aR_tI, kd_tI, ln_tI, hn_tI, hm_tI, aI_tI_n, fI_tL, fR_tL, aI_tL, aR_tL, kd_tL, ln_tL, hn_tL, hm_tL, aL_tL_n, fI_tR, fR_tR, aI_tR, aL_tR, kd_tR, ln_tR, hn_tR, hm_tR, aR_tR_n, hn_nw, hm_nw, rc400, rc403, rc404, rc405, rc407, rc409, rc420, rc440, bI_0, bI_1, bI_T, bI_F, iF_T, iF_F, br_not, le_nlt, not_true_eq_false, not_false_eq_true, and_self, and_true, true_and, and_false, false_and, or_true, true_or, or_false, false_or, ne_eq, reduceCtorEq, Nat.reduceLeDiff, Nat.reduceEqDiff, Nat.reduceLT, Nat.reduceAdd, Nat.reduceSub, Nat.reduceMul, Int32.reduceLT, Int32.reduceLE, Int32.reduceToNatClampNeg, Int32.reduceAdd, Int32.reduceSub, implies_true, forall_const, isIn_e, bit_e, lits, hA, hB, hC, hf, hn, hn1, hp, ha, hp1, ha1, placeAt_e hJ, askAt_e hJ, modelAt_e hJ, shelfAt_e hJ, isShelf_e, isGroup_e, isAsked_e, rZ_bI, dec_none, dec_s, dec_1, lt_e, bI_T, bI_F, bI_0, bI_1, Int32.add_zero, Int32.zero_add, if_true, if_false, Option.some.injEq, lt_irr, iF_T, iF_F, c, c24, ek, q, d]
      first | exact hQ _ hJ.jj | exact ⟨rfl, hQ _ hJ.jj⟩
  by_cases w6 : w = 6
  · subst w6
    rcases hW.w_cho k hk with d | d
    · simp (config := {decide := true}) only [gI_e, gR_e, pI_e, pZ_e, pR_e, ldI_e, ldZ_e, ldL_e, ldR_e, stI_e, stZ_e, stL_e, stR_e, alN_e, nwA_e, nwO_e, dvI_e, rmI_e, oV_e, oN_e, lt_e, rZ_e, br_T, br_F, fR_sI, aI_sI, aL_sI, aR_sI, kd_sI, ln_sI, hn_sI, hm_sI, fI_sI_n, fI_sR, aI_sR, aL_sR, aR_sR, kd_sR, ln_sR, hn_sR, hm_sR, fR_sR_n, fI_tI, fR_tI, aL_tI, aR_tI, kd_tI, ln_tI, hn_tI, hm_tI, aI_tI_n, fI_tL, fR_tL, aI_tL, aR_tL, kd_tL, ln_tL, hn_tL, hm_tL, aL_tL_n, fI_tR, fR_tR, aI_tR, aL_tR, kd_tR, ln_tR, hn_tR, hm_tR, aR_tR_n, hn_nw, hm_nw, rc400, rc403, rc404, rc405, rc407, rc409, rc420, rc440, bI_0, bI_1, bI_T, bI_F, iF_T, iF_F, br_not, le_nlt, not_true_eq_false, not_false_eq_true, and_self, and_true, true_and, and_false, false_and, or_true, true_or, or_false, false_or, ne_eq, reduceCtorEq, Nat.reduceLeDiff, Nat.reduceEqDiff, Nat.reduceLT, Nat.reduceAdd, Nat.reduceSub, Nat.reduceMul, Int32.reduceLT, Int32.reduceLE, Int32.reduceToNatClampNeg, Int32.reduceAdd, Int32.reduceSub, implies_true, forall_const, isIn_e, bit_e, lits, hA, hB, hC, hf, hn, hn1, hp, ha, hp1, ha1, placeAt_e hJ, askAt_e hJ, modelAt_e hJ, shelfAt_e hJ, isShelf_e, isGroup_e, isAsked_e, rZ_bI, dec_none, dec_s, dec_1, lt_e, c, c24, ek, q, d]
      first | exact hQ _ hJ.jj | exact ⟨rfl, hQ _ hJ.jj⟩
    · obtain ⟨j, hj, ej⟩ := vp_ex d
      have u4 : ¬ nI j = -1 := nI_m1 (by omega)
      have u5 : (nI j).toNatClampNeg = j := nI_clamp (by omega)
      have q2 := peF hJ hj
      simp (config := {decide := true}) only [gI_e, gR_e, pI_e, pZ_e, pR_e, ldI_e, ldZ_e, ldL_e, ldR_e, stI_e, stZ_e, stL_e, stR_e, alN_e, nwA_e, nwO_e, dvI_e, rmI_e, oV_e, oN_e, lt_e, rZ_e, br_T, br_F, fR_sI, aI_sI, aL_sI, aR_sI, kd_sI, ln_sI, hn_sI, hm_sI, fI_sI_n, fI_sR, aI_sR, aL_sR, aR_sR, kd_sR, ln_sR, hn_sR, hm_sR, fR_sR_n, fI_tI, fR_tI, aL_tI, aR_tI, kd_tI, ln_tI, hn_tI, hm_tI, aI_tI_n, fI_tL, fR_tL, aI_tL, aR_tL, kd_tL, ln_tL, hn_tL, hm_tL, aL_tL_n, fI_tR, fR_tR, aI_tR, aL_tR, kd_tR, ln_tR, hn_tR, hm_tR, aR_tR_n, hn_nw, hm_nw, rc400, rc403, rc404, rc405, rc407, rc409, rc420, rc440, bI_0, bI_1, bI_T, bI_F, iF_T, iF_F, br_not, le_nlt, not_true_eq_false, not_false_eq_true, and_self, and_true, true_and, and_false, false_and, or_true, true_or, or_false, false_or, ne_eq, reduceCtorEq, Nat.reduceLeDiff, Nat.reduceEqDiff, Nat.reduceLT, Nat.reduceAdd, Nat.reduceSub, Nat.reduceMul, Int32.reduceLT, Int32.reduceLE, Int32.reduceToNatClampNeg, Int32.reduceAdd, Int32.reduceSub, implies_true, forall_const, isIn_e, bit_e, lits, hA, hB, hC, hf, hn, hn1, hp, ha, hp1, ha1, placeAt_e hJ, askAt_e hJ, modelAt_e hJ, shelfAt_e hJ, isShelf_e, isGroup_e, isAsked_e, rZ_bI, dec_none, dec_s, dec_1, lt_e, c, c24, ek, q, ej, u4, dec_s _ u4, u5, q2]
      first | exact hQ _ hJ.jj | exact ⟨rfl, hQ _ hJ.jj⟩
  by_cases w7 : w = 7
  · subst w7
    simp (config := {decide := true}) only [gI_e, gR_e, pI_e, pZ_e, pR_e, ldI_e, ldZ_e, ldL_e, ldR_e, stI_e, stZ_e, stL_e, stR_e, alN_e, nwA_e, nwO_e, dvI_e, rmI_e, oV_e, oN_e, lt_e, rZ_e, br_T, br_F, fR_sI, aI_sI, aL_sI, aR_sI, kd_sI, ln_sI, hn_sI, hm_sI, fI_sI_n, fI_sR, aI_sR, aL_sR, aR_sR, kd_sR, ln_sR, hn_sR, hm_sR, fR_sR_n, fI_tI, fR_tI, aL_tI, aR_tI, kd_tI, ln_tI, hn_tI, hm_tI, aI_tI_n, fI_tL, fR_tL, aI_tL, aR_tL, kd_tL, ln_tL, hn_tL, hm_tL, aL_tL_n, fI_tR, fR_tR, aI_tR, aL_tR, kd_tR, ln_tR, hn_tR, hm_tR, aR_tR_n, hn_nw, hm_nw, rc400, rc403, rc404, rc405, rc407, rc409, rc420, rc440, bI_0, bI_1, bI_T, bI_F, iF_T, iF_F, br_not, le_nlt, not_true_eq_false, not_false_eq_true, and_self, and_true, true_and, and_false, false_and, or_true, true_or, or_false, false_or, ne_eq, reduceCtorEq, Nat.reduceLeDiff, Nat.reduceEqDiff, Nat.reduceLT, Nat.reduceAdd, Nat.reduceSub, Nat.reduceMul, Int32.reduceLT, Int32.reduceLE, Int32.reduceToNatClampNeg, Int32.reduceAdd, Int32.reduceSub, implies_true, forall_const, isIn_e, bit_e, lits, hA, hB, hC, hf, hn, hn1, hp, ha, hp1, ha1, placeAt_e hJ, askAt_e hJ, modelAt_e hJ, shelfAt_e hJ, isShelf_e, isGroup_e, isAsked_e, rZ_bI, dec_none, dec_s, dec_1, lt_e, c, c24, ek, q]
    first | exact hQ _ hJ.jj | exact ⟨rfl, hQ _ hJ.jj⟩
  · simp only [gI_e, gR_e, pI_e, pZ_e, pR_e, ldI_e, ldZ_e, ldL_e, ldR_e, stI_e, stZ_e, stL_e, stR_e, alN_e, nwA_e, nwO_e, dvI_e, rmI_e, oV_e, oN_e, lt_e, rZ_e, br_T, br_F, fR_sI, aI_sI, aL_sI, aR_sI, kd_sI, ln_sI, hn_sI, hm_sI, fI_sI_n, fI_sR, aI_sR, aL_sR, aR_sR, kd_sR, ln_sR, hn_sR, hm_sR, fR_sR_n, fI_tI, fR_tI, aL_tI, aR_tI, kd_tI, ln_tI, hn_tI, hm_tI, aI_tI_n, fI_tL, fR_tL, aI_tL, aR_tL, kd_tL, ln_tL, hn_tL, hm_tL, aL_tL_n, fI_tR, fR_tR, aI_tR, aL_tR, kd_tR, ln_tR, hn_tR, hm_tR, aR_tR_n, hn_nw, hm_nw, rc400, rc403, rc404, rc405, rc407, rc409, rc420, rc440, bI_0, bI_1, bI_T, bI_F, iF_T, iF_F, br_not, le_nlt, not_true_eq_false, not_false_eq_true, and_self, and_true, true_and, and_false, false_and, or_true, true_or, or_false, false_or, ne_eq, reduceCtorEq, Nat.reduceLeDiff, Nat.reduceEqDiff, Nat.reduceLT, Nat.reduceAdd, Nat.reduceSub, Nat.reduceMul, Int32.reduceLT, Int32.reduceLE, Int32.reduceToNatClampNeg, Int32.reduceAdd, Int32.reduceSub, implies_true, forall_const, isIn_e, bit_e, lits, hA, hB, hC, hf, hn, hn1, hp, ha, hp1, ha1, placeAt_e hJ, askAt_e hJ, modelAt_e hJ, shelfAt_e hJ, isShelf_e, isGroup_e, isAsked_e, rZ_bI, dec_none, dec_s, dec_1, lt_e, c, c24, ek, q, w0, w1, w2, w3, w4, w5, w6, w7]
    first | exact hQ _ hJ.jj | exact ⟨rfl, hQ _ hJ.jj⟩
theorem endOf_e (hR : RJ y np na nm nr ne m h) {a : Nat} (ha : a < na) (Q : Int32 → Hp → Prop) (hQ : Q (nI (lst (aI h 139 (m 139)) 4 a)) h) : w_X11_endOf (some y) (nI a) h Q := by
  have hA := hR.1
  unfold JM at hA
  have hW := hR.2.2.2
  have hb := hR.2.2.1
  have hc := chn_int hW (by omega) (by omega)
  unfold w_X11_endOf n_X11_endOf_0 l_X11_endOf_2
  refine Lo.intro (fun k s h' => h' = h ∧ ∃ p', p' < na ∧ s = nI p' ∧ 3 - lvN h m (atN h m p') ≤ k ∧ lst (aI h 139 (m 139)) 4 p' = lst (aI h 139 (m 139)) 4 a) ?_ 3 _ _ ⟨rfl, a, ha, rfl, by omega, rfl⟩
  rintro k s h' ⟨rfl, p', hp', rfl, hk, hl⟩ K hK
  unfold b_X11_endOf_2
  have c := cnF hp' (show na ≤ 160 by omega) (by decide)
  rcases (hc.2 p' hp').2 with e | ⟨j, j1, j2, j3⟩
  · rw [lst_u e] at hl
    rw [← hl] at hQ
    simp only [gI_e, gR_e, pI_e, pZ_e, pR_e, ldI_e, ldZ_e, ldL_e, ldR_e, stI_e, stZ_e, stL_e, stR_e, alN_e, nwA_e, nwO_e, dvI_e, rmI_e, oV_e, oN_e, lt_e, rZ_e, br_T, br_F, fR_sI, aI_sI, aL_sI, aR_sI, kd_sI, ln_sI, hn_sI, hm_sI, fI_sI_n, fI_sR, aI_sR, aL_sR, aR_sR, kd_sR, ln_sR, hn_sR, hm_sR, fR_sR_n, fI_tI, fR_tI, aL_tI, aR_tI, kd_tI, ln_tI, hn_tI, hm_tI, aI_tI_n, fI_tL, fR_tL, aI_tL, aR_tL, kd_tL, ln_tL, hn_tL, hm_tL, aL_tL_n, fI_tR, fR_tR, aI_tR, aL_tR, kd_tR, ln_tR, hn_tR, hm_tR, aR_tR_n, hn_nw, hm_nw, rc400, rc403, rc404, rc405, rc407, rc409, rc420, rc440, bI_0, bI_1, bI_T, bI_F, iF_T, iF_F, br_not, le_nlt, not_true_eq_false, not_false_eq_true, and_self, and_true, true_and, and_false, false_and, or_true, true_or, or_false, false_or, ne_eq, reduceCtorEq, Nat.reduceLeDiff, Nat.reduceEqDiff, Nat.reduceLT, Nat.reduceAdd, Nat.reduceSub, Nat.reduceMul, Int32.reduceLT, Int32.reduceLE, Int32.reduceToNatClampNeg, Int32.reduceAdd, Int32.reduceSub, implies_true, forall_const, isIn_e, bit_e, lits, hA, c, e]
    exact hQ
  · have u4 : ¬ nI j = -1 := nI_m1 (by omega)
    simp only [gI_e, gR_e, pI_e, pZ_e, pR_e, ldI_e, ldZ_e, ldL_e, ldR_e, stI_e, stZ_e, stL_e, stR_e, alN_e, nwA_e, nwO_e, dvI_e, rmI_e, oV_e, oN_e, lt_e, rZ_e, br_T, br_F, fR_sI, aI_sI, aL_sI, aR_sI, kd_sI, ln_sI, hn_sI, hm_sI, fI_sI_n, fI_sR, aI_sR, aL_sR, aR_sR, kd_sR, ln_sR, hn_sR, hm_sR, fR_sR_n, fI_tI, fR_tI, aL_tI, aR_tI, kd_tI, ln_tI, hn_tI, hm_tI, aI_tI_n, fI_tL, fR_tL, aI_tL, aR_tL, kd_tL, ln_tL, hn_tL, hm_tL, aL_tL_n, fI_tR, fR_tR, aI_tR, aL_tR, kd_tR, ln_tR, hn_tR, hm_tR, aR_tR_n, hn_nw, hm_nw, rc400, rc403, rc404, rc405, rc407, rc409, rc420, rc440, bI_0, bI_1, bI_T, bI_F, iF_T, iF_F, br_not, le_nlt, not_true_eq_false, not_false_eq_true, and_self, and_true, true_and, and_false, false_and, or_true, true_or, or_false, false_or, ne_eq, reduceCtorEq, Nat.reduceLeDiff, Nat.reduceEqDiff, Nat.reduceLT, Nat.reduceAdd, Nat.reduceSub, Nat.reduceMul, Int32.reduceLT, Int32.reduceLE, Int32.reduceToNatClampNeg, Int32.reduceAdd, Int32.reduceSub, implies_true, forall_const, isIn_e, bit_e, lits, hA, c, j2, u4]
    rw [lst_4 hc hp' j1 j2 j3] at hl
    have : 3 - lvN h' m (atN h' m j) + 1 ≤ 3 - lvN h' m (atN h' m p') := j3
    exact hK (k - 1) _ _ (by omega) ⟨rfl, j, j1, rfl, by omega, hl⟩
theorem lastOf_e (hJ : JA x y b0 s0 np na nm nr ne g m h) {a : Nat} (ha : a < na) (Q : Option Nat → Hp → Prop) (hQ : Q (some (g 3 (lst (aI h 139 (m 139)) 4 a))) h) : w_X10_lastOf (some (g 3 a)) h Q := by
  have hB := hJ.2.1
  unfold JS at hB
  have hW := hJ.2.2.2.2.2.1
  have hb := hJ.2.2.1.2
  have hc := chn_int hW (by omega) (by omega)
  unfold w_X10_lastOf n_X10_lastOf_0 l_X10_lastOf_4
  refine Lo.intro (fun k s h' => h' = h ∧ ∃ p', p' < na ∧ k ≤ 3 ∧ s = (some (g 3 p'), nI (3 - k)) ∧ 3 - lvN h m (atN h m p') ≤ k ∧ lst (aI h 139 (m 139)) 4 p' = lst (aI h 139 (m 139)) 4 a) ?_ 3 _ _ ⟨rfl, a, ha, by omega, rfl, by omega, rfl⟩
  rintro k s h' ⟨rfl, p', hp', hk3, rfl, hk, hl⟩ K hK
  unfold b_X10_lastOf_4 n_X10_lastOf_27
  have q := asF hJ hp'
  have c8 : nI (3 - k) < 4 := nI_lt (b := 4) (by omega) (by decide)
  have c9 : nI (3 - k) + 1 = nI (3 - k + 1) := n1 _
  rcases (hc.2 p' hp').2 with e | ⟨j, j1, j2, j3⟩
  · rw [lst_u e] at hl
    rw [← hl] at hQ
    simp only [gI_e, gR_e, pI_e, pZ_e, pR_e, ldI_e, ldZ_e, ldL_e, ldR_e, stI_e, stZ_e, stL_e, stR_e, alN_e, nwA_e, nwO_e, dvI_e, rmI_e, oV_e, oN_e, lt_e, rZ_e, br_T, br_F, fR_sI, aI_sI, aL_sI, aR_sI, kd_sI, ln_sI, hn_sI, hm_sI, fI_sI_n, fI_sR, aI_sR, aL_sR, aR_sR, kd_sR, ln_sR, hn_sR, hm_sR, fR_sR_n, fI_tI, fR_tI, aL_tI, aR_tI, kd_tI, ln_tI, hn_tI, hm_tI, aI_tI_n, fI_tL, fR_tL, aI_tL, aR_tL, kd_tL, ln_tL, hn_tL, hm_tL, aL_tL_n, fI_tR, fR_tR, aI_tR, aL_tR, kd_tR, ln_tR, hn_tR, hm_tR, aR_tR_n, hn_nw, hm_nw, rc400, rc403, rc404, rc405, rc407, rc409, rc420, rc440, bI_0, bI_1, bI_T, bI_F, iF_T, iF_F, br_not, le_nlt, not_true_eq_false, not_false_eq_true, and_self, and_true, true_and, and_false, false_and, or_true, true_or, or_false, false_or, ne_eq, reduceCtorEq, Nat.reduceLeDiff, Nat.reduceEqDiff, Nat.reduceLT, Nat.reduceAdd, Nat.reduceSub, Nat.reduceMul, Int32.reduceLT, Int32.reduceLE, Int32.reduceToNatClampNeg, Int32.reduceAdd, Int32.reduceSub, implies_true, forall_const, isIn_e, bit_e, lits, dec_none, dec_1, q, c8, e]
    exact hQ
  · have u4 : ¬ nI j = -1 := nI_m1 (by omega)
    have u5 : (nI j).toNatClampNeg = j := nI_clamp (by omega)
    simp only [gI_e, gR_e, pI_e, pZ_e, pR_e, ldI_e, ldZ_e, ldL_e, ldR_e, stI_e, stZ_e, stL_e, stR_e, alN_e, nwA_e, nwO_e, dvI_e, rmI_e, oV_e, oN_e, lt_e, rZ_e, br_T, br_F, fR_sI, aI_sI, aL_sI, aR_sI, kd_sI, ln_sI, hn_sI, hm_sI, fI_sI_n, fI_sR, aI_sR, aL_sR, aR_sR, kd_sR, ln_sR, hn_sR, hm_sR, fR_sR_n, fI_tI, fR_tI, aL_tI, aR_tI, kd_tI, ln_tI, hn_tI, hm_tI, aI_tI_n, fI_tL, fR_tL, aI_tL, aR_tL, kd_tL, ln_tL, hn_tL, hm_tL, aL_tL_n, fI_tR, fR_tR, aI_tR, aL_tR, kd_tR, ln_tR, hn_tR, hm_tR, aR_tR_n, hn_nw, hm_nw, rc400, rc403, rc404, rc405, rc407, rc409, rc420, rc440, bI_0, bI_1, bI_T, bI_F, iF_T, iF_F, br_not, le_nlt, not_true_eq_false, not_false_eq_true, and_self, and_true, true_and, and_false, false_and, or_true, true_or, or_false, false_or, ne_eq, reduceCtorEq, Nat.reduceLeDiff, Nat.reduceEqDiff, Nat.reduceLT, Nat.reduceAdd, Nat.reduceSub, Nat.reduceMul, Int32.reduceLT, Int32.reduceLE, Int32.reduceToNatClampNeg, Int32.reduceAdd, Int32.reduceSub, implies_true, forall_const, isIn_e, bit_e, lits, dec_none, dec_s _ u4, q, c8, c9, j2, u4, u5]
    rw [lst_4 hc hp' j1 j2 j3] at hl
    have : 3 - lvN h' m (atN h' m j) + 1 ≤ 3 - lvN h' m (atN h' m p') := j3
    exact hK (k - 1) _ _ (by omega) ⟨rfl, j, j1, by omega, by rw [show 3 - (k - 1) = 3 - k + 1 by omega], by omega, hl⟩
theorem K_end (hJ : JA x y b0 s0 np na nm nr ne g m h) (a : Int32) (Q : Hp → Prop) (hQ : ∀ h2, JJ x y b0 s0 m h2 → Q h2) : w_X10_end (some x) a h (fun r h1 => w_X11_end (some y) a h1 (fun r2 h2 => r = r2 ∧ Q h2)) := by
  have hA := hJ.1; unfold JM at hA; have hB := hJ.2.1; unfold JS at hB; have hC := hJ.2.2.1.1; have hR := hJ.rj; have hf := rf_l hJ; have hn := no_l hR; have hn1 := fun k v => no_l (hJ.rj1 k v); have hp := isPlace_e hR; have ha := isAsk_e hR; have hp1 := fun k v => isPlace_e (hJ.rj1 k v); have ha1 := fun k v => isAsk_e (hJ.rj1 k v)
  have hbd := hJ.2.2.1.2
  have hW := hJ.2.2.2.2.2.1
  have hc := chn_int hW (by omega) (by omega)
  unfold w_X10_end n_X10_end_0 n_X10_end_21 w_X11_end n_X11_end_0 n_X11_end_17
  by_cases c : vp_in a na
  · obtain ⟨k, hk, rfl⟩ := vp_ex c
    have ek : (nI k).toNatClampNeg = k := nI_clamp (by omega)
    have q2 := asF hJ (lst_lt hc 3 k hk (hc.2 k hk).1)
    simp only [gI_e, gR_e, pI_e, pZ_e, pR_e, ldI_e, ldZ_e, ldL_e, ldR_e, stI_e, stZ_e, stL_e, stR_e, alN_e, nwA_e, nwO_e, dvI_e, rmI_e, oV_e, oN_e, lt_e, rZ_e, br_T, br_F, fR_sI, aI_sI, aL_sI, aR_sI, kd_sI, ln_sI, hn_sI, hm_sI, fI_sI_n, fI_sR, aI_sR, aL_sR, aR_sR, kd_sR, ln_sR, hn_sR, hm_sR, fR_sR_n, fI_tI, fR_tI, aL_tI, aR_tI, kd_tI, ln_tI, hn_tI, hm_tI, aI_tI_n, fI_tL, fR_tL, aI_tL, aR_tL, kd_tL, ln_tL, hn_tL, hm_tL, aL_tL_n, fI_tR, fR_tR, aI_tR, aL_tR, kd_tR, ln_tR, hn_tR, hm_tR, aR_tR_n, hn_nw, hm_nw, rc400, rc403, rc404, rc405, rc407, rc409, rc420, rc440, bI_0, bI_1, bI_T, bI_F, iF_T, iF_F, br_not, le_nlt, not_true_eq_false, not_false_eq_true, and_self, and_true, true_and, and_false, false_and, or_true, true_or, or_false, false_or, ne_eq, reduceCtorEq, Nat.reduceLeDiff, Nat.reduceEqDiff, Nat.reduceLT, Nat.reduceAdd, Nat.reduceSub, Nat.reduceMul, Int32.reduceLT, Int32.reduceLE, Int32.reduceToNatClampNeg, Int32.reduceAdd, Int32.reduceSub, implies_true, forall_const, isIn_e, bit_e, lits, hA, hB, hC, hf, hn, hn1, hp, ha, hp1, ha1, placeAt_e hJ, askAt_e hJ, modelAt_e hJ, shelfAt_e hJ, isShelf_e, isGroup_e, isAsked_e, rZ_bI, dec_none, dec_s, dec_1, lt_e, c, ek]
    refine lastOf_e hJ hk _ ?_
    simp only [gI_e, gR_e, pI_e, pZ_e, pR_e, ldI_e, ldZ_e, ldL_e, ldR_e, stI_e, stZ_e, stL_e, stR_e, alN_e, nwA_e, nwO_e, dvI_e, rmI_e, oV_e, oN_e, lt_e, rZ_e, br_T, br_F, fR_sI, aI_sI, aL_sI, aR_sI, kd_sI, ln_sI, hn_sI, hm_sI, fI_sI_n, fI_sR, aI_sR, aL_sR, aR_sR, kd_sR, ln_sR, hn_sR, hm_sR, fR_sR_n, fI_tI, fR_tI, aL_tI, aR_tI, kd_tI, ln_tI, hn_tI, hm_tI, aI_tI_n, fI_tL, fR_tL, aI_tL, aR_tL, kd_tL, ln_tL, hn_tL, hm_tL, aL_tL_n, fI_tR, fR_tR, aI_tR, aL_tR, kd_tR, ln_tR, hn_tR, hm_tR, aR_tR_n, hn_nw, hm_nw, rc400, rc403, rc404, rc405, rc407, rc409, rc420, rc440, bI_0, bI_1, bI_T, bI_F, iF_T, iF_F, br_not, le_nlt, not_true_eq_false, not_false_eq_true, and_self, and_true, true_and, and_false, false_and, or_true, true_or, or_false, false_or, ne_eq, reduceCtorEq, Nat.reduceLeDiff, Nat.reduceEqDiff, Nat.reduceLT, Nat.reduceAdd, Nat.reduceSub, Nat.reduceMul, Int32.reduceLT, Int32.reduceLE, Int32.reduceToNatClampNeg, Int32.reduceAdd, Int32.reduceSub, implies_true, forall_const, isIn_e, bit_e, lits, hA, hB, hC, hf, hn, hn1, hp, ha, hp1, ha1, placeAt_e hJ, askAt_e hJ, modelAt_e hJ, shelfAt_e hJ, isShelf_e, isGroup_e, isAsked_e, rZ_bI, dec_none, dec_s, dec_1, lt_e, c, ek, q2]
    refine endOf_e hR hk _ ?_
    first | exact hQ _ hJ.jj | exact ⟨rfl, hQ _ hJ.jj⟩
  · simp only [gI_e, gR_e, pI_e, pZ_e, pR_e, ldI_e, ldZ_e, ldL_e, ldR_e, stI_e, stZ_e, stL_e, stR_e, alN_e, nwA_e, nwO_e, dvI_e, rmI_e, oV_e, oN_e, lt_e, rZ_e, br_T, br_F, fR_sI, aI_sI, aL_sI, aR_sI, kd_sI, ln_sI, hn_sI, hm_sI, fI_sI_n, fI_sR, aI_sR, aL_sR, aR_sR, kd_sR, ln_sR, hn_sR, hm_sR, fR_sR_n, fI_tI, fR_tI, aL_tI, aR_tI, kd_tI, ln_tI, hn_tI, hm_tI, aI_tI_n, fI_tL, fR_tL, aI_tL, aR_tL, kd_tL, ln_tL, hn_tL, hm_tL, aL_tL_n, fI_tR, fR_tR, aI_tR, aL_tR, kd_tR, ln_tR, hn_tR, hm_tR, aR_tR_n, hn_nw, hm_nw, rc400, rc403, rc404, rc405, rc407, rc409, rc420, rc440, bI_0, bI_1, bI_T, bI_F, iF_T, iF_F, br_not, le_nlt, not_true_eq_false, not_false_eq_true, and_self, and_true, true_and, and_false, false_and, or_true, true_or, or_false, false_or, ne_eq, reduceCtorEq, Nat.reduceLeDiff, Nat.reduceEqDiff, Nat.reduceLT, Nat.reduceAdd, Nat.reduceSub, Nat.reduceMul, Int32.reduceLT, Int32.reduceLE, Int32.reduceToNatClampNeg, Int32.reduceAdd, Int32.reduceSub, implies_true, forall_const, isIn_e, bit_e, lits, hA, hB, hC, hf, hn, hn1, hp, ha, hp1, ha1, placeAt_e hJ, askAt_e hJ, modelAt_e hJ, shelfAt_e hJ, isShelf_e, isGroup_e, isAsked_e, rZ_bI, dec_none, dec_s, dec_1, lt_e, c]
    first | exact hQ _ hJ.jj | exact ⟨rfl, hQ _ hJ.jj⟩
theorem K_lost (hJ : JA x y b0 s0 np na nm nr ne g m h) (a : Int32) (Q : Hp → Prop) (hQ : ∀ h2, JJ x y b0 s0 m h2 → Q h2) : w_X10_lost (some x) a h (fun r h1 => w_X11_lost (some y) a h1 (fun r2 h2 => r = r2 ∧ Q h2)) := by
  have hA := hJ.1; unfold JM at hA; have hB := hJ.2.1; unfold JS at hB; have hC := hJ.2.2.1.1; have hR := hJ.rj; have hf := rf_l hJ; have hn := no_l hR; have hn1 := fun k v => no_l (hJ.rj1 k v); have hp := isPlace_e hR; have ha := isAsk_e hR; have hp1 := fun k v => isPlace_e (hJ.rj1 k v); have ha1 := fun k v => isAsk_e (hJ.rj1 k v)
  have hbd := hJ.2.2.1.2
  have hW := hJ.2.2.2.2.2.1
  have hc := chn_int hW (by omega) (by omega)
  unfold w_X10_lost n_X10_lost_0 n_X10_lost_32 w_X11_lost n_X11_lost_0 n_X11_lost_22
  by_cases c : vp_in a na
  · obtain ⟨k, hk, rfl⟩ := vp_ex c
    have ek : (nI k).toNatClampNeg = k := nI_clamp (by omega)
    have hl := lst_lt hc 3 k hk (hc.2 k hk).1
    have q2 := asF hJ hl
    have cl := cnF hl (show na ≤ 160 by omega) (by decide)
    rcases hW.w_dro _ hl with d | d
    · simp only [gI_e, gR_e, pI_e, pZ_e, pR_e, ldI_e, ldZ_e, ldL_e, ldR_e, stI_e, stZ_e, stL_e, stR_e, alN_e, nwA_e, nwO_e, dvI_e, rmI_e, oV_e, oN_e, lt_e, rZ_e, br_T, br_F, fR_sI, aI_sI, aL_sI, aR_sI, kd_sI, ln_sI, hn_sI, hm_sI, fI_sI_n, fI_sR, aI_sR, aL_sR, aR_sR, kd_sR, ln_sR, hn_sR, hm_sR, fR_sR_n, fI_tI, fR_tI, aL_tI, aR_tI, kd_tI, ln_tI, hn_tI, hm_tI, aI_tI_n, fI_tL, fR_tL, aI_tL, aR_tL, kd_tL, ln_tL, hn_tL, hm_tL, aL_tL_n, fI_tR, fR_tR, aI_tR, aL_tR, kd_tR, ln_tR, hn_tR, hm_tR, aR_tR_n, hn_nw, hm_nw, rc400, rc403, rc404, rc405, rc407, rc409, rc420, rc440, bI_0, bI_1, bI_T, bI_F, iF_T, iF_F, br_not, le_nlt, not_true_eq_false, not_false_eq_true, and_self, and_true, true_and, and_false, false_and, or_true, true_or, or_false, false_or, ne_eq, reduceCtorEq, Nat.reduceLeDiff, Nat.reduceEqDiff, Nat.reduceLT, Nat.reduceAdd, Nat.reduceSub, Nat.reduceMul, Int32.reduceLT, Int32.reduceLE, Int32.reduceToNatClampNeg, Int32.reduceAdd, Int32.reduceSub, implies_true, forall_const, isIn_e, bit_e, lits, hA, hB, hC, hf, hn, hn1, hp, ha, hp1, ha1, placeAt_e hJ, askAt_e hJ, modelAt_e hJ, shelfAt_e hJ, isShelf_e, isGroup_e, isAsked_e, rZ_bI, dec_none, dec_s, dec_1, lt_e, c, ek]
      refine lastOf_e hJ hk _ ?_
      simp only [gI_e, gR_e, pI_e, pZ_e, pR_e, ldI_e, ldZ_e, ldL_e, ldR_e, stI_e, stZ_e, stL_e, stR_e, alN_e, nwA_e, nwO_e, dvI_e, rmI_e, oV_e, oN_e, lt_e, rZ_e, br_T, br_F, fR_sI, aI_sI, aL_sI, aR_sI, kd_sI, ln_sI, hn_sI, hm_sI, fI_sI_n, fI_sR, aI_sR, aL_sR, aR_sR, kd_sR, ln_sR, hn_sR, hm_sR, fR_sR_n, fI_tI, fR_tI, aL_tI, aR_tI, kd_tI, ln_tI, hn_tI, hm_tI, aI_tI_n, fI_tL, fR_tL, aI_tL, aR_tL, kd_tL, ln_tL, hn_tL, hm_tL, aL_tL_n, fI_tR, fR_tR, aI_tR, aL_tR, kd_tR, ln_tR, hn_tR, hm_tR, aR_tR_n, hn_nw, hm_nw, rc400, rc403, rc404, rc405, rc407, rc409, rc420, rc440, bI_0, bI_1, bI_T, bI_F, iF_T, iF_F, br_not, le_nlt, not_true_eq_false, not_false_eq_true, and_self, and_true, true_and, and_false, false_and, or_true, true_or, or_false, false_or, ne_eq, reduceCtorEq, Nat.reduceLeDiff, Nat.reduceEqDiff, Nat.reduceLT, Nat.reduceAdd, Nat.reduceSub, Nat.reduceMul, Int32.reduceLT, Int32.reduceLE, Int32.reduceToNatClampNeg, Int32.reduceAdd, Int32.reduceSub, implies_true, forall_const, isIn_e, bit_e, lits, hA, hB, hC, hf, hn, hn1, hp, ha, hp1, ha1, placeAt_e hJ, askAt_e hJ, modelAt_e hJ, shelfAt_e hJ, isShelf_e, isGroup_e, isAsked_e, rZ_bI, dec_none, dec_s, dec_1, lt_e, c, ek, q2, d]
      refine endOf_e hR hk _ ?_
      simp only [gI_e, gR_e, pI_e, pZ_e, pR_e, ldI_e, ldZ_e, ldL_e, ldR_e, stI_e, stZ_e, stL_e, stR_e, alN_e, nwA_e, nwO_e, dvI_e, rmI_e, oV_e, oN_e, lt_e, rZ_e, br_T, br_F, fR_sI, aI_sI, aL_sI, aR_sI, kd_sI, ln_sI, hn_sI, hm_sI, fI_sI_n, fI_sR, aI_sR, aL_sR, aR_sR, kd_sR, ln_sR, hn_sR, hm_sR, fR_sR_n, fI_tI, fR_tI, aL_tI, aR_tI, kd_tI, ln_tI, hn_tI, hm_tI, aI_tI_n, fI_tL, fR_tL, aI_tL, aR_tL, kd_tL, ln_tL, hn_tL, hm_tL, aL_tL_n, fI_tR, fR_tR, aI_tR, aL_tR, kd_tR, ln_tR, hn_tR, hm_tR, aR_tR_n, hn_nw, hm_nw, rc400, rc403, rc404, rc405, rc407, rc409, rc420, rc440, bI_0, bI_1, bI_T, bI_F, iF_T, iF_F, br_not, le_nlt, not_true_eq_false, not_false_eq_true, and_self, and_true, true_and, and_false, false_and, or_true, true_or, or_false, false_or, ne_eq, reduceCtorEq, Nat.reduceLeDiff, Nat.reduceEqDiff, Nat.reduceLT, Nat.reduceAdd, Nat.reduceSub, Nat.reduceMul, Int32.reduceLT, Int32.reduceLE, Int32.reduceToNatClampNeg, Int32.reduceAdd, Int32.reduceSub, implies_true, forall_const, isIn_e, bit_e, lits, hA, hB, hC, hf, hn, hn1, hp, ha, hp1, ha1, placeAt_e hJ, askAt_e hJ, modelAt_e hJ, shelfAt_e hJ, isShelf_e, isGroup_e, isAsked_e, rZ_bI, dec_none, dec_s, dec_1, lt_e, cl, d]
      first | exact hQ _ hJ.jj | exact ⟨rfl, hQ _ hJ.jj⟩
    · obtain ⟨j, hj, ej⟩ := vp_ex d
      have u4 : ¬ nI j = -1 := nI_m1 (by omega)
      have u5 : (nI j).toNatClampNeg = j := nI_clamp (by omega)
      have q3 := plF hJ hj
      simp only [gI_e, gR_e, pI_e, pZ_e, pR_e, ldI_e, ldZ_e, ldL_e, ldR_e, stI_e, stZ_e, stL_e, stR_e, alN_e, nwA_e, nwO_e, dvI_e, rmI_e, oV_e, oN_e, lt_e, rZ_e, br_T, br_F, fR_sI, aI_sI, aL_sI, aR_sI, kd_sI, ln_sI, hn_sI, hm_sI, fI_sI_n, fI_sR, aI_sR, aL_sR, aR_sR, kd_sR, ln_sR, hn_sR, hm_sR, fR_sR_n, fI_tI, fR_tI, aL_tI, aR_tI, kd_tI, ln_tI, hn_tI, hm_tI, aI_tI_n, fI_tL, fR_tL, aI_tL, aR_tL, kd_tL, ln_tL, hn_tL, hm_tL, aL_tL_n, fI_tR, fR_tR, aI_tR, aL_tR, kd_tR, ln_tR, hn_tR, hm_tR, aR_tR_n, hn_nw, hm_nw, rc400, rc403, rc404, rc405, rc407, rc409, rc420, rc440, bI_0, bI_1, bI_T, bI_F, iF_T, iF_F, br_not, le_nlt, not_true_eq_false, not_false_eq_true, and_self, and_true, true_and, and_false, false_and, or_true, true_or, or_false, false_or, ne_eq, reduceCtorEq, Nat.reduceLeDiff, Nat.reduceEqDiff, Nat.reduceLT, Nat.reduceAdd, Nat.reduceSub, Nat.reduceMul, Int32.reduceLT, Int32.reduceLE, Int32.reduceToNatClampNeg, Int32.reduceAdd, Int32.reduceSub, implies_true, forall_const, isIn_e, bit_e, lits, hA, hB, hC, hf, hn, hn1, hp, ha, hp1, ha1, placeAt_e hJ, askAt_e hJ, modelAt_e hJ, shelfAt_e hJ, isShelf_e, isGroup_e, isAsked_e, rZ_bI, dec_none, dec_s, dec_1, lt_e, c, ek]
      refine lastOf_e hJ hk _ ?_
      simp only [gI_e, gR_e, pI_e, pZ_e, pR_e, ldI_e, ldZ_e, ldL_e, ldR_e, stI_e, stZ_e, stL_e, stR_e, alN_e, nwA_e, nwO_e, dvI_e, rmI_e, oV_e, oN_e, lt_e, rZ_e, br_T, br_F, fR_sI, aI_sI, aL_sI, aR_sI, kd_sI, ln_sI, hn_sI, hm_sI, fI_sI_n, fI_sR, aI_sR, aL_sR, aR_sR, kd_sR, ln_sR, hn_sR, hm_sR, fR_sR_n, fI_tI, fR_tI, aL_tI, aR_tI, kd_tI, ln_tI, hn_tI, hm_tI, aI_tI_n, fI_tL, fR_tL, aI_tL, aR_tL, kd_tL, ln_tL, hn_tL, hm_tL, aL_tL_n, fI_tR, fR_tR, aI_tR, aL_tR, kd_tR, ln_tR, hn_tR, hm_tR, aR_tR_n, hn_nw, hm_nw, rc400, rc403, rc404, rc405, rc407, rc409, rc420, rc440, bI_0, bI_1, bI_T, bI_F, iF_T, iF_F, br_not, le_nlt, not_true_eq_false, not_false_eq_true, and_self, and_true, true_and, and_false, false_and, or_true, true_or, or_false, false_or, ne_eq, reduceCtorEq, Nat.reduceLeDiff, Nat.reduceEqDiff, Nat.reduceLT, Nat.reduceAdd, Nat.reduceSub, Nat.reduceMul, Int32.reduceLT, Int32.reduceLE, Int32.reduceToNatClampNeg, Int32.reduceAdd, Int32.reduceSub, implies_true, forall_const, isIn_e, bit_e, lits, hA, hB, hC, hf, hn, hn1, hp, ha, hp1, ha1, placeAt_e hJ, askAt_e hJ, modelAt_e hJ, shelfAt_e hJ, isShelf_e, isGroup_e, isAsked_e, rZ_bI, dec_none, dec_s, dec_1, lt_e, c, ek, q2, q3, ej, u4, u5, dec_s _ u4]
      refine endOf_e hR hk _ ?_
      simp only [gI_e, gR_e, pI_e, pZ_e, pR_e, ldI_e, ldZ_e, ldL_e, ldR_e, stI_e, stZ_e, stL_e, stR_e, alN_e, nwA_e, nwO_e, dvI_e, rmI_e, oV_e, oN_e, lt_e, rZ_e, br_T, br_F, fR_sI, aI_sI, aL_sI, aR_sI, kd_sI, ln_sI, hn_sI, hm_sI, fI_sI_n, fI_sR, aI_sR, aL_sR, aR_sR, kd_sR, ln_sR, hn_sR, hm_sR, fR_sR_n, fI_tI, fR_tI, aL_tI, aR_tI, kd_tI, ln_tI, hn_tI, hm_tI, aI_tI_n, fI_tL, fR_tL, aI_tL, aR_tL, kd_tL, ln_tL, hn_tL, hm_tL, aL_tL_n, fI_tR, fR_tR, aI_tR, aL_tR, kd_tR, ln_tR, hn_tR, hm_tR, aR_tR_n, hn_nw, hm_nw, rc400, rc403, rc404, rc405, rc407, rc409, rc420, rc440, bI_0, bI_1, bI_T, bI_F, iF_T, iF_F, br_not, le_nlt, not_true_eq_false, not_false_eq_true, and_self, and_true, true_and, and_false, false_and, or_true, true_or, or_false, false_or, ne_eq, reduceCtorEq, Nat.reduceLeDiff, Nat.reduceEqDiff, Nat.reduceLT, Nat.reduceAdd, Nat.reduceSub, Nat.reduceMul, Int32.reduceLT, Int32.reduceLE, Int32.reduceToNatClampNeg, Int32.reduceAdd, Int32.reduceSub, implies_true, forall_const, isIn_e, bit_e, lits, hA, hB, hC, hf, hn, hn1, hp, ha, hp1, ha1, placeAt_e hJ, askAt_e hJ, modelAt_e hJ, shelfAt_e hJ, isShelf_e, isGroup_e, isAsked_e, rZ_bI, dec_none, dec_s, dec_1, lt_e, cl, ej]
      first | exact hQ _ hJ.jj | exact ⟨rfl, hQ _ hJ.jj⟩
  · simp only [gI_e, gR_e, pI_e, pZ_e, pR_e, ldI_e, ldZ_e, ldL_e, ldR_e, stI_e, stZ_e, stL_e, stR_e, alN_e, nwA_e, nwO_e, dvI_e, rmI_e, oV_e, oN_e, lt_e, rZ_e, br_T, br_F, fR_sI, aI_sI, aL_sI, aR_sI, kd_sI, ln_sI, hn_sI, hm_sI, fI_sI_n, fI_sR, aI_sR, aL_sR, aR_sR, kd_sR, ln_sR, hn_sR, hm_sR, fR_sR_n, fI_tI, fR_tI, aL_tI, aR_tI, kd_tI, ln_tI, hn_tI, hm_tI, aI_tI_n, fI_tL, fR_tL, aI_tL, aR_tL, kd_tL, ln_tL, hn_tL, hm_tL, aL_tL_n, fI_tR, fR_tR, aI_tR, aL_tR, kd_tR, ln_tR, hn_tR, hm_tR, aR_tR_n, hn_nw, hm_nw, rc400, rc403, rc404, rc405, rc407, rc409, rc420, rc440, bI_0, bI_1, bI_T, bI_F, iF_T, iF_F, br_not, le_nlt, not_true_eq_false, not_false_eq_true, and_self, and_true, true_and, and_false, false_and, or_true, true_or, or_false, false_or, ne_eq, reduceCtorEq, Nat.reduceLeDiff, Nat.reduceEqDiff, Nat.reduceLT, Nat.reduceAdd, Nat.reduceSub, Nat.reduceMul, Int32.reduceLT, Int32.reduceLE, Int32.reduceToNatClampNeg, Int32.reduceAdd, Int32.reduceSub, implies_true, forall_const, isIn_e, bit_e, lits, hA, hB, hC, hf, hn, hn1, hp, ha, hp1, ha1, placeAt_e hJ, askAt_e hJ, modelAt_e hJ, shelfAt_e hJ, isShelf_e, isGroup_e, isAsked_e, rZ_bI, dec_none, dec_s, dec_1, lt_e, c]
    first | exact hQ _ hJ.jj | exact ⟨rfl, hQ _ hJ.jj⟩
end CH2
