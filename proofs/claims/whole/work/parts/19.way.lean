/-- a loop that runs through: its states and heaps, one by one -/
theorem Lo.run {σ : Type} {F : (σ → Hp → Prop) → σ → Hp → Prop} (N : Nat) (st : Nat → σ) (hs : Nat → Hp) (h1 : ∀ k, k < N → ∀ K : σ → Hp → Prop, K (st (k + 1)) (hs (k + 1)) → F K (st k) (hs k)) (h2 : ∀ K : σ → Hp → Prop, F K (st N) (hs N)) {s : σ} {h : Hp} (es : s = st 0) (eh : h = hs 0) : Lo F s h := by
  subst es
  subst eh
  refine Lo.count N (fun k s h => s = st k ∧ h = hs k) ?_ 0 (Nat.zero_le _) _ _ ⟨rfl, rfl⟩
  rintro k s h hk ⟨rfl, rfl⟩ K hK
  by_cases e : k < N
  · exact h1 k e K (hK _ _ e ⟨rfl, rfl⟩)
  · obtain rfl : k = N := by omega
    exact h2 K
theorem lt_irr (a : Int32) : (a < a) = False := eq_false Int32.lt_irrefl
/-- what a counter says of its bound -/
theorem cnF {k n N : Nat} (hk : k < n) (hn : n ≤ N) (hN : N < 1000000) : (nI k < nI n) ∧ vp_in (nI k) N ∧ (nI k).toNatClampNeg = k ∧ nI k + 1 = nI (k + 1) :=
  ⟨nI_lt hk (by omega), vp_in_nI (by omega) (by omega), nI_clamp (by omega), n1 k⟩
/-- the way between two places: the lower one climbs -/
def pw (L U : Nat → Nat) (W : Nat → Int32) : Nat → Nat → Nat → Int32
  | 0, _, _ => 0
  | f + 1, p, q => if p = q then 0 else if L q < L p then W q + pw L U W f p (U q) else W p + pw L U W f (U p) q
section PW
variable {np : Nat} {L U : Nat → Nat} {W : Nat → Int32}
theorem pw_fu (h0 : L 0 = 3) (h1 : ∀ p, p < np → L p ≤ 3) (h2 : ∀ p, p < np → L p = 3 → p = 0) (h3 : ∀ p, p < np → ¬ p = 0 → U p < np ∧ L (U p) = L p + 1) : ∀ d p q, p < np → q < np → (3 - L p) + (3 - L q) ≤ d → ∀ f f', d ≤ f → d ≤ f' → pw L U W f p q = pw L U W f' p q := by
  intro d
  induction d with
  | zero =>
    intro p q hp hq hd f f' _ _
    have e1 := h2 p hp (by have := h1 p hp; omega)
    have e2 := h2 q hq (by have := h1 q hq; omega)
    subst e1
    subst e2
    cases f <;> cases f' <;> simp [pw]
  | succ d ih =>
    intro p q hp hq hd f f' hf hf'
    obtain ⟨f, rfl⟩ : ∃ k, f = k + 1 := ⟨f - 1, by omega⟩
    obtain ⟨f', rfl⟩ : ∃ k, f' = k + 1 := ⟨f' - 1, by omega⟩
    rw [pw, pw]
    have lp := h1 p hp
    have lq := h1 q hq
    by_cases e : p = q
    · rw [if_pos e, if_pos e]
    · rw [if_neg e, if_neg e]
      by_cases a : L q < L p
      · rw [if_pos a, if_pos a]
        have hz : ¬ q = 0 := fun z => by rw [z, h0] at a; omega
        obtain ⟨u1, u2⟩ := h3 q hq hz
        rw [ih p (U q) hp u1 (by omega) f f' (by omega) (by omega)]
      · rw [if_neg a, if_neg a]
        have hz : ¬ p = 0 := fun z => by
          rw [z, h0] at a
          exact e (z.trans (h2 q hq (by omega)).symm)
        obtain ⟨u1, u2⟩ := h3 p hp hz
        rw [ih (U p) q u1 hq (by omega) f f' (by omega) (by omega)]
theorem pw_s (h0 : L 0 = 3) (h1 : ∀ p, p < np → L p ≤ 3) (h2 : ∀ p, p < np → L p = 3 → p = 0) (h3 : ∀ p, p < np → ¬ p = 0 → U p < np ∧ L (U p) = L p + 1) {p q : Nat} (hp : p < np) (hq : q < np) (e : ¬ p = q) :
    (L q < L p → ¬ q = 0 ∧ pw L U W 6 p q = W q + pw L U W 6 p (U q)) ∧ (¬ L q < L p → ¬ p = 0 ∧ pw L U W 6 p q = W p + pw L U W 6 (U p) q) ∧ (L p = L q → ¬ q = 0 ∧ pw L U W 6 p q = W q + pw L U W 6 p (U q)) := by
  have lp := h1 p hp
  have lq := h1 q hq
  have A : L q < L p → ¬ q = 0 ∧ pw L U W 6 p q = W q + pw L U W 6 p (U q) := by
    intro a
    have hz : ¬ q = 0 := fun z => by rw [z, h0] at a; omega
    obtain ⟨u1, u2⟩ := h3 q hq hz
    refine ⟨hz, ?_⟩
    rw [pw, if_neg e, if_pos a, pw_fu h0 h1 h2 h3 _ p (U q) hp u1 (Nat.le_refl _) 5 6 (by omega) (by omega)]
  have B : ¬ L q < L p → ¬ p = 0 ∧ pw L U W 6 p q = W p + pw L U W 6 (U p) q := by
    intro a
    have hz : ¬ p = 0 := fun z => by
      rw [z, h0] at a
      exact e (z.trans (h2 q hq (by omega)).symm)
    obtain ⟨u1, u2⟩ := h3 p hp hz
    refine ⟨hz, ?_⟩
    rw [pw, if_neg e, if_neg a, pw_fu h0 h1 h2 h3 _ (U p) q u1 hq (Nat.le_refl _) 5 6 (by omega) (by omega)]
  refine ⟨A, B, fun a => ?_⟩
  obtain ⟨zp, ep⟩ := B (by omega)
  obtain ⟨u1, u2⟩ := h3 p hp zp
  have zq : ¬ q = 0 := fun z => by
    rw [z, h0] at a
    exact zp (h2 p hp a)
  obtain ⟨v1, v2⟩ := h3 q hq zq
  refine ⟨zq, ?_⟩
  have e1 : ¬ U p = q := fun z => by rw [z] at u2; omega
  have e2 : ¬ p = U q := fun z => by rw [← z] at v2; omega
  have f1 : pw L U W 6 (U p) q = W q + pw L U W 6 (U p) (U q) := by
    rw [pw, if_neg e1, if_pos (by omega), pw_fu h0 h1 h2 h3 _ (U p) (U q) u1 v1 (Nat.le_refl _) 5 6 (by omega) (by omega)]
  have f2 : pw L U W 6 p (U q) = W p + pw L U W 6 (U p) (U q) := by
    rw [pw, if_neg e2, if_neg (by omega), pw_fu h0 h1 h2 h3 _ (U p) (U q) u1 v1 (Nat.le_refl _) 5 6 (by omega) (by omega)]
  rw [ep, f1, f2, ← Int32.add_assoc, ← Int32.add_assoc, Int32.add_comm (W p) (W q)]
theorem pw_z (p : Nat) : pw L U W 6 p p = 0 := by rw [pw, if_pos rfl]
theorem pw_b (h0 : L 0 = 3) (h1 : ∀ p, p < np → L p ≤ 3) (h2 : ∀ p, p < np → L p = 3 → p = 0) (h3 : ∀ p, p < np → ¬ p = 0 → U p < np ∧ L (U p) = L p + 1) (hW : ∀ p, p < np → ∃ w, w ≤ 99 ∧ W p = nI w) : ∀ f p q, p < np → q < np → ∃ w, w ≤ 99 * f ∧ pw L U W f p q = nI w := by
  intro f
  induction f with
  | zero => intro p q _ _; exact ⟨0, by omega, rfl⟩
  | succ f ih =>
    intro p q hp hq
    rw [pw]
    have lp := h1 p hp
    have lq := h1 q hq
    by_cases e : p = q
    · rw [if_pos e]; exact ⟨0, by omega, rfl⟩
    · rw [if_neg e]
      by_cases a : L q < L p
      · rw [if_pos a]
        have hz : ¬ q = 0 := fun z => by rw [z, h0] at a; omega
        obtain ⟨w1, b1, c1⟩ := hW q hq
        obtain ⟨w2, b2, c2⟩ := ih p (U q) hp (h3 q hq hz).1
        exact ⟨w1 + w2, by omega, by rw [c1, c2, nI_add]⟩
      · rw [if_neg a]
        have hz : ¬ p = 0 := fun z => by
          rw [z, h0] at a
          exact e (z.trans (h2 q hq (by omega)).symm)
        obtain ⟨w1, b1, c1⟩ := hW p hp
        obtain ⟨w2, b2, c2⟩ := ih (U p) q (h3 p hp hz).1 hq
        exact ⟨w1 + w2, by omega, by rw [c1, c2, nI_add]⟩
end PW
def lvN (h : Hp) (m : Nat → Nat) (p : Nat) : Nat := (aI h 120 (m 120) p).toNatClampNeg
def unN (h : Hp) (m : Nat → Nat) (p : Nat) : Nat := (aI h 121 (m 121) p).toNatClampNeg
def wy (h : Hp) (m : Nat → Nat) (p q : Nat) : Int32 := pw (lvN h m) (unN h m) (aI h 122 (m 122)) 6 p q
section WY
variable {x y b0 s0 np na nm nr ne : Nat} {g : Nat → Nat → Nat} {m : Nat → Nat} {h : Hp}
theorem lv_e (hW : JW y np na nm nr ne m h) {p : Nat} (hp : p < np) : lvN h m p ≤ 3 ∧ aI h 120 (m 120) p = nI (lvN h m p) := by
  obtain ⟨z, hz, e⟩ := rngN (N := 3) (hW.w_lev p hp)
  have : lvN h m p = z := by unfold lvN; rw [e]; exact nI_clamp (by omega)
  rw [this]
  exact ⟨hz, e⟩
theorem lv_0 (hW : JW y np na nm nr ne m h) : lvN h m 0 = 3 := by
  unfold lvN
  rw [hW.w_l0]
  rfl
theorem lv_3 (hW : JW y np na nm nr ne m h) {p : Nat} (hp : p < np) (e : lvN h m p = 3) : p = 0 := by
  by_cases z : p = 0
  · exact z
  · have q1 := hW.w_lv3 p (by omega) hp
    rw [(lv_e hW hp).2, e] at q1
    exact absurd q1 (by decide)
theorem un_e (hW : JW y np na nm nr ne m h) {p : Nat} (hp : p < np) (hb : np ≤ 24) (z : ¬ p = 0) : (unN h m p < np ∧ lvN h m (unN h m p) = lvN h m p + 1) ∧ unN h m p < p ∧ aI h 121 (m 121) p = nI (unN h m p) ∧ ¬ aI h 121 (m 121) p = -1 := by
  obtain ⟨j, j1, j2, j3⟩ := hW.w_und p (by omega) hp
  have e : unN h m p = j := by unfold unN; rw [j2]; exact nI_clamp (by omega)
  have a := lv_e hW hp
  have b := lv_e hW (show j < np by omega)
  rw [a.2, b.2, n1] at j3
  have := (nI_eq (by omega) (by omega)).mp j3
  rw [e]
  refine ⟨⟨by omega, this⟩, j1, j2, ?_⟩
  rw [j2]
  intro q
  have := nI_pos (n := j) (by omega)
  rw [q] at this
  exact this (by decide)
theorem lv_u (hW : JW y np na nm nr ne m h) (hb : np ≤ 24) {p : Nat} (hp : p < np) : (aI h 121 (m 121) p = -1) = (p = 0) := by
  apply propext
  constructor
  · intro q
    by_cases z : p = 0
    · exact z
    · exact absurd q (un_e hW hp hb z).2.2.2
  · intro q
    rw [q]
    exact hW.w_u0
theorem wy_s (hW : JW y np na nm nr ne m h) (hb : np ≤ 24) {p q : Nat} (hp : p < np) (hq : q < np) (e : ¬ p = q) :
    (lvN h m q < lvN h m p → ¬ q = 0 ∧ wy h m p q = aI h 122 (m 122) q + wy h m p (unN h m q)) ∧ (¬ lvN h m q < lvN h m p → ¬ p = 0 ∧ wy h m p q = aI h 122 (m 122) p + wy h m (unN h m p) q) ∧ (lvN h m p = lvN h m q → ¬ q = 0 ∧ wy h m p q = aI h 122 (m 122) q + wy h m p (unN h m q)) :=
  pw_s (lv_0 hW) (fun _ a => (lv_e hW a).1) (fun _ a => lv_3 hW a) (fun _ a z => (un_e hW a hb z).1) hp hq e
theorem wy_z (p : Nat) : wy h m p p = 0 := pw_z p
theorem wy_b (hW : JW y np na nm nr ne m h) (hb : np ≤ 24) {p q : Nat} (hp : p < np) (hq : q < np) : ∃ w, w ≤ 594 ∧ wy h m p q = nI w :=
  pw_b (lv_0 hW) (fun _ a => (lv_e hW a).1) (fun _ a => lv_3 hW a) (fun _ a z => (un_e hW a hb z).1) (fun p hp => rngN (N := 99) (hW.w_way p hp)) 6 p q hp hq
theorem pathOf_e (hR : RJ y np na nm nr ne m h) {p q : Nat} (hp : p < np) (hq : q < np) (Q : Int32 → Hp → Prop) (hQ : Q (wy h m p q) h) : w_X11_pathOf (some y) (nI p) (nI q) h Q := by
  have hA := hR.1
  unfold JM at hA
  have hW := hR.2.2.2
  have hb := hR.2.2.1.2.1
  unfold w_X11_pathOf n_X11_pathOf_0 l_X11_pathOf_8
  refine Lo.intro (fun n s h' => h' = h ∧ ∃ p' q' z, p' < np ∧ q' < np ∧ s = (nI p', nI q', z) ∧ (3 - lvN h m p') + (3 - lvN h m q') = n ∧ z + wy h m p' q' = wy h m p q) ?_ ((3 - lvN h m p) + (3 - lvN h m q)) _ _ ⟨rfl, p, q, 0, hp, hq, rfl, rfl, Int32.zero_add _⟩
  rintro n s h' ⟨rfl, p', q', z, hp', hq', rfl, hn, hz⟩ K hK
  unfold b_X11_pathOf_8 n_X11_pathOf_52 n_X11_pathOf_73
  have fp := cnF hp' hb (by decide)
  have fq := cnF hq' hb (by decide)
  have lp := lv_e hW hp'
  have lq := lv_e hW hq'
  by_cases e : p' = q'
  · subst e
    rw [wy_z, Int32.add_zero] at hz
    rw [br_y rfl, hz]
    exact hQ
  · have e1 : ¬ nI p' = nI q' := fun w => e ((nI_eq (by omega) (by omega)).mp w)
    obtain ⟨sA, sB, sC⟩ := wy_s hW hb hp' hq' e
    have c1 : (nI (lvN h' m p') < nI (lvN h' m q')) = (lvN h' m p' < lvN h' m q') := propext (nI_ltI (by omega) (by omega))
    have c2 : (nI (lvN h' m p') = nI (lvN h' m q')) = (lvN h' m p' = lvN h' m q') := propext (nI_eq (by omega) (by omega))
    simp only [gI_e, gR_e, pI_e, pZ_e, pR_e, ldI_e, ldZ_e, ldL_e, ldR_e, stI_e, stZ_e, stL_e, stR_e, alN_e, nwA_e, nwO_e, dvI_e, rmI_e, oV_e, oN_e, lt_e, rZ_e, br_T, br_F, fR_sI, aI_sI, aL_sI, aR_sI, kd_sI, ln_sI, hn_sI, hm_sI, fI_sI_n, fI_sR, aI_sR, aL_sR, aR_sR, kd_sR, ln_sR, hn_sR, hm_sR, fR_sR_n, fI_tI, fR_tI, aL_tI, aR_tI, kd_tI, ln_tI, hn_tI, hm_tI, aI_tI_n, fI_tL, fR_tL, aI_tL, aR_tL, kd_tL, ln_tL, hn_tL, hm_tL, aL_tL_n, fI_tR, fR_tR, aI_tR, aL_tR, kd_tR, ln_tR, hn_tR, hm_tR, aR_tR_n, hn_nw, hm_nw, rc400, rc403, rc404, rc405, rc407, rc409, rc420, rc440, bI_0, bI_1, bI_T, bI_F, iF_T, iF_F, br_not, le_nlt, not_true_eq_false, not_false_eq_true, and_self, and_true, true_and, and_false, false_and, or_true, true_or, or_false, false_or, ne_eq, reduceCtorEq, Nat.reduceLeDiff, Nat.reduceEqDiff, Nat.reduceLT, Nat.reduceAdd, Nat.reduceSub, Nat.reduceMul, Int32.reduceLT, Int32.reduceLE, Int32.reduceToNatClampNeg, Int32.reduceAdd, Int32.reduceSub, implies_true, forall_const, isIn_e, bit_e, lits, hA, e1, fp, fq, lp, lq, c1, c2]
    have goP : ¬ p' = 0 → wy h' m p' q' = aI h' 122 (m 122) p' + wy h' m (unN h' m p') q' → K (aI h' 121 (m 121) p', nI q', z + aI h' 122 (m 122) p') h' := by
      intro zz ee
      obtain ⟨⟨u1, u2⟩, -, u3, -⟩ := un_e hW hp' hb zz
      rw [u3]
      have lu := (lv_e hW u1).1
      exact hK (n - 1) _ _ (by omega) ⟨rfl, unN h' m p', q', z + aI h' 122 (m 122) p', u1, hq', rfl, by omega, by rw [Int32.add_assoc, ← ee, hz]⟩
    have goQ : ¬ q' = 0 → wy h' m p' q' = aI h' 122 (m 122) q' + wy h' m p' (unN h' m q') → K (nI p', aI h' 121 (m 121) q', z + aI h' 122 (m 122) q') h' := by
      intro zz ee
      obtain ⟨⟨u1, u2⟩, -, u3, -⟩ := un_e hW hq' hb zz
      rw [u3]
      have lu := (lv_e hW u1).1
      exact hK (n - 1) _ _ (by omega) ⟨rfl, p', unN h' m q', z + aI h' 122 (m 122) q', hp', u1, rfl, by omega, by rw [Int32.add_assoc, ← ee, hz]⟩
    by_cases a : lvN h' m p' < lvN h' m q'
    · simp only [a, br_T]
      exact goP (sB (by omega)).1 (sB (by omega)).2
    · by_cases b : lvN h' m p' = lvN h' m q'
      · simp only [b, lt_irr, Nat.lt_irrefl, br_F, br_T]
        refine br_i (fun _ => ?_) (fun _ => ?_)
        · exact goP (sB (by omega)).1 (sB (by omega)).2
        · exact goQ (sC b).1 (sC b).2
      · simp only [a, b, br_F]
        exact goQ (sA (by omega)).1 (sA (by omega)).2
theorem wayBetween_e (hJ : JA x y b0 s0 np na nm nr ne g m h) {p q : Nat} (hp : p < np) (hq : q < np) (Q : Int32 → Hp → Prop) (hQ : Q (wy h m p q) h) : w_X10_wayBetween (some (g 1 p)) (some (g 1 q)) h Q := by
  have hB := hJ.2.1
  unfold JS at hB
  have hW := hJ.2.2.2.2.2.1
  have hb := hJ.2.2.1.2.2.1
  unfold w_X10_wayBetween n_X10_wayBetween_0 l_X10_wayBetween_10
  refine Lo.intro (fun n s h' => h' = h ∧ ∃ p' q' z, p' < np ∧ q' < np ∧ n ≤ 6 ∧ s = (some (g 1 p'), some (g 1 q'), z, nI (6 - n)) ∧ (3 - lvN h m p') + (3 - lvN h m q') ≤ n ∧ z + wy h m p' q' = wy h m p q) ?_ 6 _ _ ⟨rfl, p, q, 0, hp, hq, by omega, rfl, by omega, Int32.zero_add _⟩
  rintro n s h' ⟨rfl, p', q', z, hp', hq', hn6, rfl, hn, hz⟩ K hK
  unfold b_X10_wayBetween_10 n_X10_wayBetween_72 n_X10_wayBetween_78
  have fp := plF hJ hp'
  have fq := plF hJ hq'
  have lp := lv_e hW hp'
  have lq := lv_e hW hq'
  have c8 : nI (6 - n) < 8 := nI_lt (b := 8) (by omega) (by decide)
  have c9 : nI (6 - n) + 1 = nI (6 - n + 1) := n1 _
  by_cases e : p' = q'
  · subst e
    rw [wy_z, Int32.add_zero] at hz
    simp only [gI_e, gR_e, pI_e, pZ_e, pR_e, ldI_e, ldZ_e, ldL_e, ldR_e, stI_e, stZ_e, stL_e, stR_e, alN_e, nwA_e, nwO_e, dvI_e, rmI_e, oV_e, oN_e, lt_e, rZ_e, br_T, br_F, fR_sI, aI_sI, aL_sI, aR_sI, kd_sI, ln_sI, hn_sI, hm_sI, fI_sI_n, fI_sR, aI_sR, aL_sR, aR_sR, kd_sR, ln_sR, hn_sR, hm_sR, fR_sR_n, fI_tI, fR_tI, aL_tI, aR_tI, kd_tI, ln_tI, hn_tI, hm_tI, aI_tI_n, fI_tL, fR_tL, aI_tL, aR_tL, kd_tL, ln_tL, hn_tL, hm_tL, aL_tL_n, fI_tR, fR_tR, aI_tR, aL_tR, kd_tR, ln_tR, hn_tR, hm_tR, aR_tR_n, hn_nw, hm_nw, rc400, rc403, rc404, rc405, rc407, rc409, rc420, rc440, bI_0, bI_1, bI_T, bI_F, iF_T, iF_F, br_not, le_nlt, not_true_eq_false, not_false_eq_true, and_self, and_true, true_and, and_false, false_and, or_true, true_or, or_false, false_or, ne_eq, reduceCtorEq, Nat.reduceLeDiff, Nat.reduceEqDiff, Nat.reduceLT, Nat.reduceAdd, Nat.reduceSub, Nat.reduceMul, Int32.reduceLT, Int32.reduceLE, Int32.reduceToNatClampNeg, Int32.reduceAdd, Int32.reduceSub, implies_true, forall_const, isIn_e, bit_e, lits, c8, eq_self, hz]
    exact hQ
  · have e1 : ¬ g 1 p' = g 1 q' := fun w => e (hJ.2.2.2.1.pl_in hb p' q' hp' hq' w)
    obtain ⟨sA, sB, sC⟩ := wy_s hW hb hp' hq' e
    have c1 : (nI (lvN h' m q') < nI (lvN h' m p')) = (lvN h' m q' < lvN h' m p') := propext (nI_ltI (by omega) (by omega))
    simp only [gI_e, gR_e, pI_e, pZ_e, pR_e, ldI_e, ldZ_e, ldL_e, ldR_e, stI_e, stZ_e, stL_e, stR_e, alN_e, nwA_e, nwO_e, dvI_e, rmI_e, oV_e, oN_e, lt_e, rZ_e, br_T, br_F, fR_sI, aI_sI, aL_sI, aR_sI, kd_sI, ln_sI, hn_sI, hm_sI, fI_sI_n, fI_sR, aI_sR, aL_sR, aR_sR, kd_sR, ln_sR, hn_sR, hm_sR, fR_sR_n, fI_tI, fR_tI, aL_tI, aR_tI, kd_tI, ln_tI, hn_tI, hm_tI, aI_tI_n, fI_tL, fR_tL, aI_tL, aR_tL, kd_tL, ln_tL, hn_tL, hm_tL, aL_tL_n, fI_tR, fR_tR, aI_tR, aL_tR, kd_tR, ln_tR, hn_tR, hm_tR, aR_tR_n, hn_nw, hm_nw, rc400, rc403, rc404, rc405, rc407, rc409, rc420, rc440, bI_0, bI_1, bI_T, bI_F, iF_T, iF_F, br_not, le_nlt, not_true_eq_false, not_false_eq_true, and_self, and_true, true_and, and_false, false_and, or_true, true_or, or_false, false_or, ne_eq, reduceCtorEq, Nat.reduceLeDiff, Nat.reduceEqDiff, Nat.reduceLT, Nat.reduceAdd, Nat.reduceSub, Nat.reduceMul, Int32.reduceLT, Int32.reduceLE, Int32.reduceToNatClampNeg, Int32.reduceAdd, Int32.reduceSub, implies_true, forall_const, isIn_e, bit_e, lits, Option.some.injEq, e1, fp, fq, lp, lq, c1, c8, c9]
    by_cases a : lvN h' m q' < lvN h' m p'
    · obtain ⟨zz, ee⟩ := sA a
      obtain ⟨⟨u1, u2⟩, -, u3, u4⟩ := un_e hW hq' hb zz
      have u5 : (nI (unN h' m q')).toNatClampNeg = unN h' m q' := nI_clamp (by omega)
      have lu := (lv_e hW u1).1
      simp only [a, br_T, dec_s _ u4]
      rw [u3, u5]
      exact hK (n - 1) _ _ (by omega) ⟨rfl, p', unN h' m q', z + aI h' 122 (m 122) q', hp', u1, by omega, by rw [show 6 - (n - 1) = 6 - n + 1 by omega], by omega, by rw [Int32.add_assoc, ← ee, hz]⟩
    · obtain ⟨zz, ee⟩ := sB a
      obtain ⟨⟨u1, u2⟩, -, u3, u4⟩ := un_e hW hp' hb zz
      have u5 : (nI (unN h' m p')).toNatClampNeg = unN h' m p' := nI_clamp (by omega)
      have lu := (lv_e hW u1).1
      simp only [a, br_F, dec_s _ u4]
      rw [u3, u5]
      exact hK (n - 1) _ _ (by omega) ⟨rfl, unN h' m p', q', z + aI h' 122 (m 122) p', u1, hq', by omega, by rw [show 6 - (n - 1) = 6 - n + 1 by omega], by omega, by rw [Int32.add_assoc, ← ee, hz]⟩
theorem K_path (hJ : JA x y b0 s0 np na nm nr ne g m h) (a b : Int32) (Q : Hp → Prop) (hQ : ∀ h2, JJ x y b0 s0 m h2 → Q h2) : w_X10_path (some x) a b h (fun r h1 => w_X11_path (some y) a b h1 (fun r2 h2 => r = r2 ∧ Q h2)) := by
  have hA := hJ.1; unfold JM at hA; have hB := hJ.2.1; unfold JS at hB; have hC := hJ.2.2.1.1; have hR := hJ.rj; have hf := rf_l hJ; have hn := no_l hR; have hn1 := fun k v => no_l (hJ.rj1 k v); have hp := isPlace_e hR; have ha := isAsk_e hR; have hp1 := fun k v => isPlace_e (hJ.rj1 k v); have ha1 := fun k v => isAsk_e (hJ.rj1 k v)
  have hbd := hJ.2.2.1.2
  unfold w_X10_path n_X10_path_0 n_X10_path_22 n_X10_path_32 w_X11_path n_X11_path_0 n_X11_path_25 n_X11_path_26
  by_cases c : vp_in a np
  · by_cases c2 : vp_in b np
    · obtain ⟨k, hk, rfl⟩ := vp_ex c
      obtain ⟨l, hl, rfl⟩ := vp_ex c2
      have ek : (nI k).toNatClampNeg = k := nI_clamp (by omega)
      have el : (nI l).toNatClampNeg = l := nI_clamp (by omega)
      simp only [gI_e, gR_e, pI_e, pZ_e, pR_e, ldI_e, ldZ_e, ldL_e, ldR_e, stI_e, stZ_e, stL_e, stR_e, alN_e, nwA_e, nwO_e, dvI_e, rmI_e, oV_e, oN_e, lt_e, rZ_e, br_T, br_F, fR_sI, aI_sI, aL_sI, aR_sI, kd_sI, ln_sI, hn_sI, hm_sI, fI_sI_n, fI_sR, aI_sR, aL_sR, aR_sR, kd_sR, ln_sR, hn_sR, hm_sR, fR_sR_n, fI_tI, fR_tI, aL_tI, aR_tI, kd_tI, ln_tI, hn_tI, hm_tI, aI_tI_n, fI_tL, fR_tL, aI_tL, aR_tL, kd_tL, ln_tL, hn_tL, hm_tL, aL_tL_n, fI_tR, fR_tR, aI_tR, aL_tR, kd_tR, ln_tR, hn_tR, hm_tR, aR_tR_n, hn_nw, hm_nw, rc400, rc403, rc404, rc405, rc407, rc409, rc420, rc440, bI_0, bI_1, bI_T, bI_F, iF_T, iF_F, br_not, le_nlt, not_true_eq_false, not_false_eq_true, and_self, and_true, true_and, and_false, false_and, or_true, true_or, or_false, false_or, ne_eq, reduceCtorEq, Nat.reduceLeDiff, Nat.reduceEqDiff, Nat.reduceLT, Nat.reduceAdd, Nat.reduceSub, Nat.reduceMul, Int32.reduceLT, Int32.reduceLE, Int32.reduceToNatClampNeg, Int32.reduceAdd, Int32.reduceSub, implies_true, forall_const, isIn_e, bit_e, lits, hA, hB, hC, hf, hn, hn1, hp, ha, hp1, ha1, placeAt_e hJ, askAt_e hJ, modelAt_e hJ, shelfAt_e hJ, isShelf_e, isGroup_e, isAsked_e, rZ_bI, dec_none, dec_s, dec_1, lt_e, c, c2, ek, el]
      refine wayBetween_e hJ hk hl _ ?_
      simp only [gI_e, gR_e, pI_e, pZ_e, pR_e, ldI_e, ldZ_e, ldL_e, ldR_e, stI_e, stZ_e, stL_e, stR_e, alN_e, nwA_e, nwO_e, dvI_e, rmI_e, oV_e, oN_e, lt_e, rZ_e, br_T, br_F, fR_sI, aI_sI, aL_sI, aR_sI, kd_sI, ln_sI, hn_sI, hm_sI, fI_sI_n, fI_sR, aI_sR, aL_sR, aR_sR, kd_sR, ln_sR, hn_sR, hm_sR, fR_sR_n, fI_tI, fR_tI, aL_tI, aR_tI, kd_tI, ln_tI, hn_tI, hm_tI, aI_tI_n, fI_tL, fR_tL, aI_tL, aR_tL, kd_tL, ln_tL, hn_tL, hm_tL, aL_tL_n, fI_tR, fR_tR, aI_tR, aL_tR, kd_tR, ln_tR, hn_tR, hm_tR, aR_tR_n, hn_nw, hm_nw, rc400, rc403, rc404, rc405, rc407, rc409, rc420, rc440, bI_0, bI_1, bI_T, bI_F, iF_T, iF_F, br_not, le_nlt, not_true_eq_false, not_false_eq_true, and_self, and_true, true_and, and_false, false_and, or_true, true_or, or_false, false_or, ne_eq, reduceCtorEq, Nat.reduceLeDiff, Nat.reduceEqDiff, Nat.reduceLT, Nat.reduceAdd, Nat.reduceSub, Nat.reduceMul, Int32.reduceLT, Int32.reduceLE, Int32.reduceToNatClampNeg, Int32.reduceAdd, Int32.reduceSub, implies_true, forall_const, isIn_e, bit_e, lits, hA, hB, hC, hf, hn, hn1, hp, ha, hp1, ha1, placeAt_e hJ, askAt_e hJ, modelAt_e hJ, shelfAt_e hJ, isShelf_e, isGroup_e, isAsked_e, rZ_bI, dec_none, dec_s, dec_1, lt_e, c, c2, ek, el]
      refine pathOf_e hR hk hl _ ?_
      exact ⟨rfl, hQ _ hJ.jj⟩
    · simp only [gI_e, gR_e, pI_e, pZ_e, pR_e, ldI_e, ldZ_e, ldL_e, ldR_e, stI_e, stZ_e, stL_e, stR_e, alN_e, nwA_e, nwO_e, dvI_e, rmI_e, oV_e, oN_e, lt_e, rZ_e, br_T, br_F, fR_sI, aI_sI, aL_sI, aR_sI, kd_sI, ln_sI, hn_sI, hm_sI, fI_sI_n, fI_sR, aI_sR, aL_sR, aR_sR, kd_sR, ln_sR, hn_sR, hm_sR, fR_sR_n, fI_tI, fR_tI, aL_tI, aR_tI, kd_tI, ln_tI, hn_tI, hm_tI, aI_tI_n, fI_tL, fR_tL, aI_tL, aR_tL, kd_tL, ln_tL, hn_tL, hm_tL, aL_tL_n, fI_tR, fR_tR, aI_tR, aL_tR, kd_tR, ln_tR, hn_tR, hm_tR, aR_tR_n, hn_nw, hm_nw, rc400, rc403, rc404, rc405, rc407, rc409, rc420, rc440, bI_0, bI_1, bI_T, bI_F, iF_T, iF_F, br_not, le_nlt, not_true_eq_false, not_false_eq_true, and_self, and_true, true_and, and_false, false_and, or_true, true_or, or_false, false_or, ne_eq, reduceCtorEq, Nat.reduceLeDiff, Nat.reduceEqDiff, Nat.reduceLT, Nat.reduceAdd, Nat.reduceSub, Nat.reduceMul, Int32.reduceLT, Int32.reduceLE, Int32.reduceToNatClampNeg, Int32.reduceAdd, Int32.reduceSub, implies_true, forall_const, isIn_e, bit_e, lits, hA, hB, hC, hf, hn, hn1, hp, ha, hp1, ha1, placeAt_e hJ, askAt_e hJ, modelAt_e hJ, shelfAt_e hJ, isShelf_e, isGroup_e, isAsked_e, rZ_bI, dec_none, dec_s, dec_1, lt_e, c, c2]
      exact hQ _ hJ.jj
  · by_cases c2 : vp_in b np <;>
    · simp only [gI_e, gR_e, pI_e, pZ_e, pR_e, ldI_e, ldZ_e, ldL_e, ldR_e, stI_e, stZ_e, stL_e, stR_e, alN_e, nwA_e, nwO_e, dvI_e, rmI_e, oV_e, oN_e, lt_e, rZ_e, br_T, br_F, fR_sI, aI_sI, aL_sI, aR_sI, kd_sI, ln_sI, hn_sI, hm_sI, fI_sI_n, fI_sR, aI_sR, aL_sR, aR_sR, kd_sR, ln_sR, hn_sR, hm_sR, fR_sR_n, fI_tI, fR_tI, aL_tI, aR_tI, kd_tI, ln_tI, hn_tI, hm_tI, aI_tI_n, fI_tL, fR_tL, aI_tL, aR_tL, kd_tL, ln_tL, hn_tL, hm_tL, aL_tL_n, fI_tR, fR_tR, aI_tR, aL_tR, kd_tR, ln_tR, hn_tR, hm_tR, aR_tR_n, hn_nw, hm_nw, rc400, rc403, rc404, rc405, rc407, rc409, rc420, rc440, bI_0, bI_1, bI_T, bI_F, iF_T, iF_F, br_not, le_nlt, not_true_eq_false, not_false_eq_true, and_self, and_true, true_and, and_false, false_and, or_true, true_or, or_false, false_or, ne_eq, reduceCtorEq, Nat.reduceLeDiff, Nat.reduceEqDiff, Nat.reduceLT, Nat.reduceAdd, Nat.reduceSub, Nat.reduceMul, Int32.reduceLT, Int32.reduceLE, Int32.reduceToNatClampNeg, Int32.reduceAdd, Int32.reduceSub, implies_true, forall_const, isIn_e, bit_e, lits, hA, hB, hC, hf, hn, hn1, hp, ha, hp1, ha1, placeAt_e hJ, askAt_e hJ, modelAt_e hJ, shelfAt_e hJ, isShelf_e, isGroup_e, isAsked_e, rZ_bI, dec_none, dec_s, dec_1, lt_e, c, c2]
      exact hQ _ hJ.jj
theorem K_reaches (hJ : JA x y b0 s0 np na nm nr ne g m h) (a b : Int32) (Q : Hp → Prop) (hQ : ∀ h2, JJ x y b0 s0 m h2 → Q h2) : w_X10_reaches (some x) a b h (fun r h1 => w_X11_reaches (some y) a b h1 (fun r2 h2 => r = r2 ∧ Q h2)) := by
  have hA := hJ.1; unfold JM at hA; have hB := hJ.2.1; unfold JS at hB; have hC := hJ.2.2.1.1; have hR := hJ.rj; have hf := rf_l hJ; have hn := no_l hR; have hn1 := fun k v => no_l (hJ.rj1 k v); have hp := isPlace_e hR; have ha := isAsk_e hR; have hp1 := fun k v => isPlace_e (hJ.rj1 k v); have ha1 := fun k v => isAsk_e (hJ.rj1 k v)
  have hbd := hJ.2.2.1.2
  have hW := hJ.2.2.2.2.2.1
  unfold w_X10_reaches n_X10_reaches_0 n_X10_reaches_22 n_X10_reaches_32 w_X10_dayOfReach n_X10_dayOfReach_0 w_X11_reaches n_X11_reaches_0 n_X11_reaches_29 n_X11_reaches_30 w_X11_reached n_X11_reached_0
  by_cases c : vp_in a nm
  · have c0 := (in_iff (by omega)).mp c
    by_cases c2 : vp_in b np
    · obtain ⟨k, hk, rfl⟩ := vp_ex c
      obtain ⟨l, hl, rfl⟩ := vp_ex c2
      have ek : (nI k).toNatClampNeg = k := nI_clamp (by omega)
      have el : (nI l).toNatClampNeg = l := nI_clamp (by omega)
      have c8 : vp_in (nI k) 8 := vp_le c (by omega)
      have q := moF hJ hk
      obtain ⟨pl, hpl, epl⟩ := vp_ex (hW.w_mpl k hk)
      have epl2 : (nI pl).toNatClampNeg = pl := nI_clamp (by omega)
      simp only [gI_e, gR_e, pI_e, pZ_e, pR_e, ldI_e, ldZ_e, ldL_e, ldR_e, stI_e, stZ_e, stL_e, stR_e, alN_e, nwA_e, nwO_e, dvI_e, rmI_e, oV_e, oN_e, lt_e, rZ_e, br_T, br_F, fR_sI, aI_sI, aL_sI, aR_sI, kd_sI, ln_sI, hn_sI, hm_sI, fI_sI_n, fI_sR, aI_sR, aL_sR, aR_sR, kd_sR, ln_sR, hn_sR, hm_sR, fR_sR_n, fI_tI, fR_tI, aL_tI, aR_tI, kd_tI, ln_tI, hn_tI, hm_tI, aI_tI_n, fI_tL, fR_tL, aI_tL, aR_tL, kd_tL, ln_tL, hn_tL, hm_tL, aL_tL_n, fI_tR, fR_tR, aI_tR, aL_tR, kd_tR, ln_tR, hn_tR, hm_tR, aR_tR_n, hn_nw, hm_nw, rc400, rc403, rc404, rc405, rc407, rc409, rc420, rc440, bI_0, bI_1, bI_T, bI_F, iF_T, iF_F, br_not, le_nlt, not_true_eq_false, not_false_eq_true, and_self, and_true, true_and, and_false, false_and, or_true, true_or, or_false, false_or, ne_eq, reduceCtorEq, Nat.reduceLeDiff, Nat.reduceEqDiff, Nat.reduceLT, Nat.reduceAdd, Nat.reduceSub, Nat.reduceMul, Int32.reduceLT, Int32.reduceLE, Int32.reduceToNatClampNeg, Int32.reduceAdd, Int32.reduceSub, implies_true, forall_const, isIn_e, bit_e, lits, hA, hB, hC, hf, hn, hn1, hp, ha, hp1, ha1, placeAt_e hJ, askAt_e hJ, modelAt_e hJ, shelfAt_e hJ, isShelf_e, isGroup_e, isAsked_e, rZ_bI, dec_none, dec_s, dec_1, lt_e, c, c2, ek, el, q, epl, epl2]
      refine wayBetween_e hJ hpl hl _ ?_
      simp only [gI_e, gR_e, pI_e, pZ_e, pR_e, ldI_e, ldZ_e, ldL_e, ldR_e, stI_e, stZ_e, stL_e, stR_e, alN_e, nwA_e, nwO_e, dvI_e, rmI_e, oV_e, oN_e, lt_e, rZ_e, br_T, br_F, fR_sI, aI_sI, aL_sI, aR_sI, kd_sI, ln_sI, hn_sI, hm_sI, fI_sI_n, fI_sR, aI_sR, aL_sR, aR_sR, kd_sR, ln_sR, hn_sR, hm_sR, fR_sR_n, fI_tI, fR_tI, aL_tI, aR_tI, kd_tI, ln_tI, hn_tI, hm_tI, aI_tI_n, fI_tL, fR_tL, aI_tL, aR_tL, kd_tL, ln_tL, hn_tL, hm_tL, aL_tL_n, fI_tR, fR_tR, aI_tR, aL_tR, kd_tR, ln_tR, hn_tR, hm_tR, aR_tR_n, hn_nw, hm_nw, rc400, rc403, rc404, rc405, rc407, rc409, rc420, rc440, bI_0, bI_1, bI_T, bI_F, iF_T, iF_F, br_not, le_nlt, not_true_eq_false, not_false_eq_true, and_self, and_true, true_and, and_false, false_and, or_true, true_or, or_false, false_or, ne_eq, reduceCtorEq, Nat.reduceLeDiff, Nat.reduceEqDiff, Nat.reduceLT, Nat.reduceAdd, Nat.reduceSub, Nat.reduceMul, Int32.reduceLT, Int32.reduceLE, Int32.reduceToNatClampNeg, Int32.reduceAdd, Int32.reduceSub, implies_true, forall_const, isIn_e, bit_e, lits, hA, hB, hC, hf, hn, hn1, hp, ha, hp1, ha1, placeAt_e hJ, askAt_e hJ, modelAt_e hJ, shelfAt_e hJ, isShelf_e, isGroup_e, isAsked_e, rZ_bI, dec_none, dec_s, dec_1, lt_e, c, c0, c2, c8, ek, el, q, epl, epl2]
      refine pathOf_e hR hpl hl _ ?_
      exact ⟨rfl, hQ _ hJ.jj⟩
    · simp only [gI_e, gR_e, pI_e, pZ_e, pR_e, ldI_e, ldZ_e, ldL_e, ldR_e, stI_e, stZ_e, stL_e, stR_e, alN_e, nwA_e, nwO_e, dvI_e, rmI_e, oV_e, oN_e, lt_e, rZ_e, br_T, br_F, fR_sI, aI_sI, aL_sI, aR_sI, kd_sI, ln_sI, hn_sI, hm_sI, fI_sI_n, fI_sR, aI_sR, aL_sR, aR_sR, kd_sR, ln_sR, hn_sR, hm_sR, fR_sR_n, fI_tI, fR_tI, aL_tI, aR_tI, kd_tI, ln_tI, hn_tI, hm_tI, aI_tI_n, fI_tL, fR_tL, aI_tL, aR_tL, kd_tL, ln_tL, hn_tL, hm_tL, aL_tL_n, fI_tR, fR_tR, aI_tR, aL_tR, kd_tR, ln_tR, hn_tR, hm_tR, aR_tR_n, hn_nw, hm_nw, rc400, rc403, rc404, rc405, rc407, rc409, rc420, rc440, bI_0, bI_1, bI_T, bI_F, iF_T, iF_F, br_not, le_nlt, not_true_eq_false, not_false_eq_true, and_self, and_true, true_and, and_false, false_and, or_true, true_or, or_false, false_or, ne_eq, reduceCtorEq, Nat.reduceLeDiff, Nat.reduceEqDiff, Nat.reduceLT, Nat.reduceAdd, Nat.reduceSub, Nat.reduceMul, Int32.reduceLT, Int32.reduceLE, Int32.reduceToNatClampNeg, Int32.reduceAdd, Int32.reduceSub, implies_true, forall_const, isIn_e, bit_e, lits, hA, hB, hC, hf, hn, hn1, hp, ha, hp1, ha1, placeAt_e hJ, askAt_e hJ, modelAt_e hJ, shelfAt_e hJ, isShelf_e, isGroup_e, isAsked_e, rZ_bI, dec_none, dec_s, dec_1, lt_e, c, c0, c2]
      exact hQ _ hJ.jj
  · by_cases d : a < 0
    · by_cases c2 : vp_in b np <;>
      · simp only [gI_e, gR_e, pI_e, pZ_e, pR_e, ldI_e, ldZ_e, ldL_e, ldR_e, stI_e, stZ_e, stL_e, stR_e, alN_e, nwA_e, nwO_e, dvI_e, rmI_e, oV_e, oN_e, lt_e, rZ_e, br_T, br_F, fR_sI, aI_sI, aL_sI, aR_sI, kd_sI, ln_sI, hn_sI, hm_sI, fI_sI_n, fI_sR, aI_sR, aL_sR, aR_sR, kd_sR, ln_sR, hn_sR, hm_sR, fR_sR_n, fI_tI, fR_tI, aL_tI, aR_tI, kd_tI, ln_tI, hn_tI, hm_tI, aI_tI_n, fI_tL, fR_tL, aI_tL, aR_tL, kd_tL, ln_tL, hn_tL, hm_tL, aL_tL_n, fI_tR, fR_tR, aI_tR, aL_tR, kd_tR, ln_tR, hn_tR, hm_tR, aR_tR_n, hn_nw, hm_nw, rc400, rc403, rc404, rc405, rc407, rc409, rc420, rc440, bI_0, bI_1, bI_T, bI_F, iF_T, iF_F, br_not, le_nlt, not_true_eq_false, not_false_eq_true, and_self, and_true, true_and, and_false, false_and, or_true, true_or, or_false, false_or, ne_eq, reduceCtorEq, Nat.reduceLeDiff, Nat.reduceEqDiff, Nat.reduceLT, Nat.reduceAdd, Nat.reduceSub, Nat.reduceMul, Int32.reduceLT, Int32.reduceLE, Int32.reduceToNatClampNeg, Int32.reduceAdd, Int32.reduceSub, implies_true, forall_const, isIn_e, bit_e, lits, hA, hB, hC, hf, hn, hn1, hp, ha, hp1, ha1, placeAt_e hJ, askAt_e hJ, modelAt_e hJ, shelfAt_e hJ, isShelf_e, isGroup_e, isAsked_e, rZ_bI, dec_none, dec_s, dec_1, lt_e, c, c2, d]
        exact hQ _ hJ.jj
    · have c0 : ¬ a < nI nm := fun w => c ((in_iff (by omega)).mpr ⟨d, w⟩)
      by_cases c2 : vp_in b np <;>
      · simp only [gI_e, gR_e, pI_e, pZ_e, pR_e, ldI_e, ldZ_e, ldL_e, ldR_e, stI_e, stZ_e, stL_e, stR_e, alN_e, nwA_e, nwO_e, dvI_e, rmI_e, oV_e, oN_e, lt_e, rZ_e, br_T, br_F, fR_sI, aI_sI, aL_sI, aR_sI, kd_sI, ln_sI, hn_sI, hm_sI, fI_sI_n, fI_sR, aI_sR, aL_sR, aR_sR, kd_sR, ln_sR, hn_sR, hm_sR, fR_sR_n, fI_tI, fR_tI, aL_tI, aR_tI, kd_tI, ln_tI, hn_tI, hm_tI, aI_tI_n, fI_tL, fR_tL, aI_tL, aR_tL, kd_tL, ln_tL, hn_tL, hm_tL, aL_tL_n, fI_tR, fR_tR, aI_tR, aL_tR, kd_tR, ln_tR, hn_tR, hm_tR, aR_tR_n, hn_nw, hm_nw, rc400, rc403, rc404, rc405, rc407, rc409, rc420, rc440, bI_0, bI_1, bI_T, bI_F, iF_T, iF_F, br_not, le_nlt, not_true_eq_false, not_false_eq_true, and_self, and_true, true_and, and_false, false_and, or_true, true_or, or_false, false_or, ne_eq, reduceCtorEq, Nat.reduceLeDiff, Nat.reduceEqDiff, Nat.reduceLT, Nat.reduceAdd, Nat.reduceSub, Nat.reduceMul, Int32.reduceLT, Int32.reduceLE, Int32.reduceToNatClampNeg, Int32.reduceAdd, Int32.reduceSub, implies_true, forall_const, isIn_e, bit_e, lits, hA, hB, hC, hf, hn, hn1, hp, ha, hp1, ha1, placeAt_e hJ, askAt_e hJ, modelAt_e hJ, shelfAt_e hJ, isShelf_e, isGroup_e, isAsked_e, rZ_bI, dec_none, dec_s, dec_1, lt_e, c, c0, c2, d]
        exact hQ _ hJ.jj
theorem K_unbind (hJ : JA x y b0 s0 np na nm nr ne g m h) (n : Int32) (Q : Hp → Prop) (hQ : ∀ h2, JJ x y b0 s0 m h2 → Q h2) : w_X10_unbind (some x) n h (fun r h1 => w_X11_unbind (some y) n h1 (fun r2 h2 => r = r2 ∧ Q h2)) := by
  have hA := hJ.1; unfold JM at hA; have hB := hJ.2.1; unfold JS at hB; have hC := hJ.2.2.1.1; have hR := hJ.rj; have hf := rf_l hJ; have hn := no_l hR; have hn1 := fun k v => no_l (hJ.rj1 k v); have hp := isPlace_e hR; have ha := isAsk_e hR; have hp1 := fun k v => isPlace_e (hJ.rj1 k v); have ha1 := fun k v => isAsk_e (hJ.rj1 k v)
  have hbd := hJ.2.2.1.2
  have hG := hJ.2.2.2.1
  have hD := hJ.2.2.2.2.1
  have hW := hJ.2.2.2.2.2.1
  unfold w_X10_unbind n_X10_unbind_0 n_X10_unbind_32 w_X11_unbind n_X11_unbind_0 n_X11_unbind_34
  by_cases c : vp_in n na
  · obtain ⟨k, hk, rfl⟩ := vp_ex c
    have ek : (nI k).toNatClampNeg = k := nI_clamp (by omega)
    have c4 : vp_in (nI k) 160 := vp_le c (by omega)
    have q := asF hJ hk
    obtain ⟨p, hp, ep⟩ := vp_ex (hW.w_at _ hk)
    have ep2 : (nI p).toNatClampNeg = p := nI_clamp (by omega)
    have q0 := plF hJ (k := 0) (by omega)
    have v0 : vp_in 0 24 := vp_lit 0 (by decide) (by decide)
    by_cases d1 : aI h 137 (m 137) k = 3
    · by_cases d2 : aI h 142 (m 142) k = -1
      · simp only [gI_e, gR_e, pI_e, pZ_e, pR_e, ldI_e, ldZ_e, ldL_e, ldR_e, stI_e, stZ_e, stL_e, stR_e, alN_e, nwA_e, nwO_e, dvI_e, rmI_e, oV_e, oN_e, lt_e, rZ_e, br_T, br_F, fR_sI, aI_sI, aL_sI, aR_sI, kd_sI, ln_sI, hn_sI, hm_sI, fI_sI_n, fI_sR, aI_sR, aL_sR, aR_sR, kd_sR, ln_sR, hn_sR, hm_sR, fR_sR_n, fI_tI, fR_tI, aL_tI, aR_tI, kd_tI, ln_tI, hn_tI, hm_tI, aI_tI_n, fI_tL, fR_tL, aI_tL, aR_tL, kd_tL, ln_tL, hn_tL, hm_tL, aL_tL_n, fI_tR, fR_tR, aI_tR, aL_tR, kd_tR, ln_tR, hn_tR, hm_tR, aR_tR_n, hn_nw, hm_nw, rc400, rc403, rc404, rc405, rc407, rc409, rc420, rc440, bI_0, bI_1, bI_T, bI_F, iF_T, iF_F, br_not, le_nlt, not_true_eq_false, not_false_eq_true, and_self, and_true, true_and, and_false, false_and, or_true, true_or, or_false, false_or, ne_eq, reduceCtorEq, Nat.reduceLeDiff, Nat.reduceEqDiff, Nat.reduceLT, Nat.reduceAdd, Nat.reduceSub, Nat.reduceMul, Int32.reduceLT, Int32.reduceLE, Int32.reduceToNatClampNeg, Int32.reduceAdd, Int32.reduceSub, implies_true, forall_const, isIn_e, bit_e, lits, hA, hB, hC, hf, hn, hn1, hp, ha, hp1, ha1, placeAt_e hJ, askAt_e hJ, modelAt_e hJ, shelfAt_e hJ, isShelf_e, isGroup_e, isAsked_e, rZ_bI, dec_none, dec_s, dec_1, lt_e, c, c4, ek, q, q0, v0, d1, d2, ep, ep2]
        refine wayBetween_e hJ hp (by omega) _ ?_
        have hR1 := hR.of ((eqM.rf h).sI (f := 18) (by decide) (g 3 k) (fI h 1408 y + wy h m p 0))
        have ha2 := isAsk_e hR1
        have hM1 := hR1.1
        simp only [gI_e, gR_e, pI_e, pZ_e, pR_e, ldI_e, ldZ_e, ldL_e, ldR_e, stI_e, stZ_e, stL_e, stR_e, alN_e, nwA_e, nwO_e, dvI_e, rmI_e, oV_e, oN_e, lt_e, rZ_e, br_T, br_F, fR_sI, aI_sI, aL_sI, aR_sI, kd_sI, ln_sI, hn_sI, hm_sI, fI_sI_n, fI_sR, aI_sR, aL_sR, aR_sR, kd_sR, ln_sR, hn_sR, hm_sR, fR_sR_n, fI_tI, fR_tI, aL_tI, aR_tI, kd_tI, ln_tI, hn_tI, hm_tI, aI_tI_n, fI_tL, fR_tL, aI_tL, aR_tL, kd_tL, ln_tL, hn_tL, hm_tL, aL_tL_n, fI_tR, fR_tR, aI_tR, aL_tR, kd_tR, ln_tR, hn_tR, hm_tR, aR_tR_n, hn_nw, hm_nw, rc400, rc403, rc404, rc405, rc407, rc409, rc420, rc440, bI_0, bI_1, bI_T, bI_F, iF_T, iF_F, br_not, le_nlt, not_true_eq_false, not_false_eq_true, and_self, and_true, true_and, and_false, false_and, or_true, true_or, or_false, false_or, ne_eq, reduceCtorEq, Nat.reduceLeDiff, Nat.reduceEqDiff, Nat.reduceLT, Nat.reduceAdd, Nat.reduceSub, Nat.reduceMul, Int32.reduceLT, Int32.reduceLE, Int32.reduceToNatClampNeg, Int32.reduceAdd, Int32.reduceSub, implies_true, forall_const, isIn_e, bit_e, lits, hA, hB, hC, hf, hn, hn1, hp, ha, hp1, ha1, placeAt_e hJ, askAt_e hJ, modelAt_e hJ, shelfAt_e hJ, isShelf_e, isGroup_e, isAsked_e, rZ_bI, dec_none, dec_s, dec_1, lt_e, ha2, c, c4, ek, q, q0, v0, d1, d2, ep, ep2]
        have hw0 : wy (sI h 18 (g 3 k) (fI h 1408 y + wy h m p 0)) m p 0 = wy h m p 0 := rfl
        refine pathOf_e hR1 (p := p) (q := 0) hp (by omega) _ ?_
        rw [hw0]
        simp only [gI_e, gR_e, pI_e, pZ_e, pR_e, ldI_e, ldZ_e, ldL_e, ldR_e, stI_e, stZ_e, stL_e, stR_e, alN_e, nwA_e, nwO_e, dvI_e, rmI_e, oV_e, oN_e, lt_e, rZ_e, br_T, br_F, fR_sI, aI_sI, aL_sI, aR_sI, kd_sI, ln_sI, hn_sI, hm_sI, fI_sI_n, fI_sR, aI_sR, aL_sR, aR_sR, kd_sR, ln_sR, hn_sR, hm_sR, fR_sR_n, fI_tI, fR_tI, aL_tI, aR_tI, kd_tI, ln_tI, hn_tI, hm_tI, aI_tI_n, fI_tL, fR_tL, aI_tL, aR_tL, kd_tL, ln_tL, hn_tL, hm_tL, aL_tL_n, fI_tR, fR_tR, aI_tR, aL_tR, kd_tR, ln_tR, hn_tR, hm_tR, aR_tR_n, hn_nw, hm_nw, rc400, rc403, rc404, rc405, rc407, rc409, rc420, rc440, bI_0, bI_1, bI_T, bI_F, iF_T, iF_F, br_not, le_nlt, not_true_eq_false, not_false_eq_true, and_self, and_true, true_and, and_false, false_and, or_true, true_or, or_false, false_or, ne_eq, reduceCtorEq, Nat.reduceLeDiff, Nat.reduceEqDiff, Nat.reduceLT, Nat.reduceAdd, Nat.reduceSub, Nat.reduceMul, Int32.reduceLT, Int32.reduceLE, Int32.reduceToNatClampNeg, Int32.reduceAdd, Int32.reduceSub, implies_true, forall_const, isIn_e, bit_e, lits, hA, hB, hC, hf, hn, hn1, hp, ha, hp1, ha1, placeAt_e hJ, askAt_e hJ, modelAt_e hJ, shelfAt_e hJ, isShelf_e, isGroup_e, isAsked_e, rZ_bI, dec_none, dec_s, dec_1, lt_e, c, c4, ek, q, q0, v0, d1, d2, ep, ep2, fI_sI_e, fR_sR_e, aI_tI_e, aL_tL_e, aR_tR_e, and_self, if_true]
        obtain ⟨w, hw, ew⟩ := wy_b hW (by omega) hp (show 0 < np by omega)
        obtain ⟨t, ht, et⟩ := rngN (N := 4000) hW.w_now
        refine hQ _ ⟨np, na, nm, nr, ne, g, hJ.1, hJ.2.1, (by unfold JC; simp (config := {decide := true}) only [fR_sI, aI_sI, aL_sI, aR_sI, kd_sI, ln_sI, hn_sI, hm_sI, fI_sI_n, fI_sR, aI_sR, aL_sR, aR_sR, kd_sR, ln_sR, hn_sR, hm_sR, fR_sR_n, fI_tI, fR_tI, aL_tI, aR_tI, kd_tI, ln_tI, hn_tI, hm_tI, aI_tI_n, fI_tL, fR_tL, aI_tL, aR_tL, kd_tL, ln_tL, hn_tL, hm_tL, aL_tL_n, fI_tR, fR_tR, aI_tR, aL_tR, kd_tR, ln_tR, hn_tR, hm_tR, aR_tR_n, hn_nw, hm_nw]; exact hJ.2.2.1), (by unfold JG; simp (config := {decide := true}) only [fR_sI, aI_sI, aL_sI, aR_sI, kd_sI, ln_sI, hn_sI, hm_sI, fI_sI_n, fI_sR, aI_sR, aL_sR, aR_sR, kd_sR, ln_sR, hn_sR, hm_sR, fR_sR_n, fI_tI, fR_tI, aL_tI, aR_tI, kd_tI, ln_tI, hn_tI, hm_tI, aI_tI_n, fI_tL, fR_tL, aI_tL, aR_tL, kd_tL, ln_tL, hn_tL, hm_tL, aL_tL_n, fI_tR, fR_tR, aI_tR, aL_tR, kd_tR, ln_tR, hn_tR, hm_tR, aR_tR_n, hn_nw, hm_nw]; exact hJ.2.2.2.1), ?_, ?_, (by unfold JE; simp (config := {decide := true}) only [fR_sI, aI_sI, aL_sI, aR_sI, kd_sI, ln_sI, hn_sI, hm_sI, fI_sI_n, fI_sR, aI_sR, aL_sR, aR_sR, kd_sR, ln_sR, hn_sR, hm_sR, fR_sR_n, fI_tI, fR_tI, aL_tI, aR_tI, kd_tI, ln_tI, hn_tI, hm_tI, aI_tI_n, fI_tL, fR_tL, aI_tL, aR_tL, kd_tL, ln_tL, hn_tL, hm_tL, aL_tL_n, fI_tR, fR_tR, aI_tR, aL_tR, kd_tR, ln_tR, hn_tR, hm_tR, aR_tR_n, hn_nw, hm_nw]; exact hJ.2.2.2.2.2.2.1), hJ.2.2.2.2.2.2.2⟩
        · unfold JD
          simp (config := {decide := true}) only [fR_sI, aI_sI, aL_sI, aR_sI, kd_sI, ln_sI, hn_sI, hm_sI, fI_sI_n, fI_sR, aI_sR, aL_sR, aR_sR, kd_sR, ln_sR, hn_sR, hm_sR, fR_sR_n, fI_tI, fR_tI, aL_tI, aR_tI, kd_tI, ln_tI, hn_tI, hm_tI, aI_tI_n, fI_tL, fR_tL, aI_tL, aR_tL, kd_tL, ln_tL, hn_tL, hm_tL, aL_tL_n, fI_tR, fR_tR, aI_tR, aL_tR, kd_tR, ln_tR, hn_tR, hm_tR, aR_tR_n, hn_nw, hm_nw, fI_sI_e, fR_sR_e, aI_tI_e, aL_tL_e, aR_tR_e, true_and]
          exact ⟨JD.d_lev hD, JD.d_und hD, JD.d_way hD, JD.d_ord hD, JD.d_mad hD, JD.d_tor hD, JD.d_cho hD, JD.d_yes hD, JD.d_srt hD, JD.d_siz hD, JD.d_sha hD, JD.d_cel hD, JD.d_at hD, JD.d_wha hD, JD.d_who hD, JD.d_muc hD, JD.d_wri hD, JD.d_kin hD, JD.d_lat hD, JD.d_gap hD, JD.d_gon hD, JD.d_yie hD, col_upd (hG.as_in (by omega)) hk hD.d_wor, JD.d_mod hD, JD.d_int hD, JD.d_dro hD, JD.d_wds hD, JD.d_wdn hD, JD.d_mwh hD, JD.d_mda hD, JD.d_mpl hD, JD.d_mwd hD, JD.d_rle hD, JD.d_rda hD, JD.d_rst hD, JD.d_ppl hD, JD.d_pbo hD, JD.d_cla hD, JD.d_ref hD⟩
        · unfold JW
          simp (config := {decide := true}) only [fR_sI, aI_sI, aL_sI, aR_sI, kd_sI, ln_sI, hn_sI, hm_sI, fI_sI_n, fI_sR, aI_sR, aL_sR, aR_sR, kd_sR, ln_sR, hn_sR, hm_sR, fR_sR_n, fI_tI, fR_tI, aL_tI, aR_tI, kd_tI, ln_tI, hn_tI, hm_tI, aI_tI_n, fI_tL, fR_tL, aI_tL, aR_tL, kd_tL, ln_tL, hn_tL, hm_tL, aL_tL_n, fI_tR, fR_tR, aI_tR, aL_tR, kd_tR, ln_tR, hn_tR, hm_tR, aR_tR_n, hn_nw, hm_nw, fI_sI_e, fR_sR_e, aI_tI_e, aL_tL_e, aR_tR_e, true_and]
          refine ⟨JW.w_l0 hW, JW.w_u0 hW, JW.w_und hW, JW.w_lev hW, JW.w_lv3 hW, JW.w_way hW, JW.w_hea hW, JW.w_tor hW, JW.w_tlv hW, JW.w_cho hW, JW.w_c0 hW, JW.w_mad hW, JW.w_mlv hW, JW.w_yes hW, JW.w_hel hW, JW.w_srt hW, JW.w_siz hW, JW.w_sho hW, JW.w_at hW, JW.w_wha hW, JW.w_who hW, JW.w_muc hW, JW.w_wri hW, JW.w_kin hW, JW.w_klv hW, JW.w_mod hW, JW.w_kmo hW, JW.w_int hW, JW.w_dro hW, JW.w_gon hW, JW.w_lat hW, JW.w_gap hW, JW.w_yie hW, ?_, JW.w_wdn hW, JW.w_nsg hW, JW.w_gto hW, JW.w_one hW, JW.w_mwh hW, JW.w_mpl hW, JW.w_mda hW, JW.w_mn hW, JW.w_rle hW, JW.w_rda hW, JW.w_rst hW, JW.w_ppl hW, JW.w_pbo hW, JW.w_cla hW, JW.w_csy hW, JW.w_now hW, JW.w_amd hW, JW.w_hl0 hW, JW.w_src hW, JW.w_zgp hW, JW.w_zyi hW, JW.w_zwn hW, JW.w_zma hW, JW.w_zys hW⟩
          intro i hi
          by_cases e : i = k
          · rw [if_pos e, ew, et, nI_add, nI_toInt (by omega)]
            omega
          · rw [if_neg e]; exact hW.w_wor i hi
      · simp only [gI_e, gR_e, pI_e, pZ_e, pR_e, ldI_e, ldZ_e, ldL_e, ldR_e, stI_e, stZ_e, stL_e, stR_e, alN_e, nwA_e, nwO_e, dvI_e, rmI_e, oV_e, oN_e, lt_e, rZ_e, br_T, br_F, fR_sI, aI_sI, aL_sI, aR_sI, kd_sI, ln_sI, hn_sI, hm_sI, fI_sI_n, fI_sR, aI_sR, aL_sR, aR_sR, kd_sR, ln_sR, hn_sR, hm_sR, fR_sR_n, fI_tI, fR_tI, aL_tI, aR_tI, kd_tI, ln_tI, hn_tI, hm_tI, aI_tI_n, fI_tL, fR_tL, aI_tL, aR_tL, kd_tL, ln_tL, hn_tL, hm_tL, aL_tL_n, fI_tR, fR_tR, aI_tR, aL_tR, kd_tR, ln_tR, hn_tR, hm_tR, aR_tR_n, hn_nw, hm_nw, rc400, rc403, rc404, rc405, rc407, rc409, rc420, rc440, bI_0, bI_1, bI_T, bI_F, iF_T, iF_F, br_not, le_nlt, not_true_eq_false, not_false_eq_true, and_self, and_true, true_and, and_false, false_and, or_true, true_or, or_false, false_or, ne_eq, reduceCtorEq, Nat.reduceLeDiff, Nat.reduceEqDiff, Nat.reduceLT, Nat.reduceAdd, Nat.reduceSub, Nat.reduceMul, Int32.reduceLT, Int32.reduceLE, Int32.reduceToNatClampNeg, Int32.reduceAdd, Int32.reduceSub, implies_true, forall_const, isIn_e, bit_e, lits, hA, hB, hC, hf, hn, hn1, hp, ha, hp1, ha1, placeAt_e hJ, askAt_e hJ, modelAt_e hJ, shelfAt_e hJ, isShelf_e, isGroup_e, isAsked_e, rZ_bI, dec_none, dec_s, dec_1, lt_e, c, c4, ek, q, d1, d2]
        exact hQ _ (hJ.ref 6 (by decide)).jj
    · simp only [gI_e, gR_e, pI_e, pZ_e, pR_e, ldI_e, ldZ_e, ldL_e, ldR_e, stI_e, stZ_e, stL_e, stR_e, alN_e, nwA_e, nwO_e, dvI_e, rmI_e, oV_e, oN_e, lt_e, rZ_e, br_T, br_F, fR_sI, aI_sI, aL_sI, aR_sI, kd_sI, ln_sI, hn_sI, hm_sI, fI_sI_n, fI_sR, aI_sR, aL_sR, aR_sR, kd_sR, ln_sR, hn_sR, hm_sR, fR_sR_n, fI_tI, fR_tI, aL_tI, aR_tI, kd_tI, ln_tI, hn_tI, hm_tI, aI_tI_n, fI_tL, fR_tL, aI_tL, aR_tL, kd_tL, ln_tL, hn_tL, hm_tL, aL_tL_n, fI_tR, fR_tR, aI_tR, aL_tR, kd_tR, ln_tR, hn_tR, hm_tR, aR_tR_n, hn_nw, hm_nw, rc400, rc403, rc404, rc405, rc407, rc409, rc420, rc440, bI_0, bI_1, bI_T, bI_F, iF_T, iF_F, br_not, le_nlt, not_true_eq_false, not_false_eq_true, and_self, and_true, true_and, and_false, false_and, or_true, true_or, or_false, false_or, ne_eq, reduceCtorEq, Nat.reduceLeDiff, Nat.reduceEqDiff, Nat.reduceLT, Nat.reduceAdd, Nat.reduceSub, Nat.reduceMul, Int32.reduceLT, Int32.reduceLE, Int32.reduceToNatClampNeg, Int32.reduceAdd, Int32.reduceSub, implies_true, forall_const, isIn_e, bit_e, lits, hA, hB, hC, hf, hn, hn1, hp, ha, hp1, ha1, placeAt_e hJ, askAt_e hJ, modelAt_e hJ, shelfAt_e hJ, isShelf_e, isGroup_e, isAsked_e, rZ_bI, dec_none, dec_s, dec_1, lt_e, c, c4, ek, q, d1]
      exact hQ _ (hJ.ref 6 (by decide)).jj
  · simp only [gI_e, gR_e, pI_e, pZ_e, pR_e, ldI_e, ldZ_e, ldL_e, ldR_e, stI_e, stZ_e, stL_e, stR_e, alN_e, nwA_e, nwO_e, dvI_e, rmI_e, oV_e, oN_e, lt_e, rZ_e, br_T, br_F, fR_sI, aI_sI, aL_sI, aR_sI, kd_sI, ln_sI, hn_sI, hm_sI, fI_sI_n, fI_sR, aI_sR, aL_sR, aR_sR, kd_sR, ln_sR, hn_sR, hm_sR, fR_sR_n, fI_tI, fR_tI, aL_tI, aR_tI, kd_tI, ln_tI, hn_tI, hm_tI, aI_tI_n, fI_tL, fR_tL, aI_tL, aR_tL, kd_tL, ln_tL, hn_tL, hm_tL, aL_tL_n, fI_tR, fR_tR, aI_tR, aL_tR, kd_tR, ln_tR, hn_tR, hm_tR, aR_tR_n, hn_nw, hm_nw, rc400, rc403, rc404, rc405, rc407, rc409, rc420, rc440, bI_0, bI_1, bI_T, bI_F, iF_T, iF_F, br_not, le_nlt, not_true_eq_false, not_false_eq_true, and_self, and_true, true_and, and_false, false_and, or_true, true_or, or_false, false_or, ne_eq, reduceCtorEq, Nat.reduceLeDiff, Nat.reduceEqDiff, Nat.reduceLT, Nat.reduceAdd, Nat.reduceSub, Nat.reduceMul, Int32.reduceLT, Int32.reduceLE, Int32.reduceToNatClampNeg, Int32.reduceAdd, Int32.reduceSub, implies_true, forall_const, isIn_e, bit_e, lits, hA, hB, hC, hf, hn, hn1, hp, ha, hp1, ha1, placeAt_e hJ, askAt_e hJ, modelAt_e hJ, shelfAt_e hJ, isShelf_e, isGroup_e, isAsked_e, rZ_bI, dec_none, dec_s, dec_1, lt_e, c]
    exact hQ _ (hJ.ref 1 (by decide)).jj
end WY
