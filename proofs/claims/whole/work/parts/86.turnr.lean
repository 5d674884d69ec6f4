/-- the kinds of the reference's arrays that are no scratch -/
def isRq (k : Nat) : Bool := (decide (120 ≤ k) && decide (k ≤ 161)) || k == 168 || (decide (200 ≤ k) && decide (k ≤ 204))
section TURR
variable {x y b0 s0 np na nm nr ne : Nat} {g : Nat → Nat → Nat} {m : Nat → Nat} {h h1 : Hp}
theorem turnY_e (hR : RJ y np na nm nr ne m h) {L : List Nat} (hG : GG h m y L) (l0 : 0 < L.length) (l24 : L.length ≤ 24) (hL : ∀ i, i < L.length → L.getD i 0 < na) {p k : Nat} (hk : k < 128) {ro : Option Nat} (hro : ∀ r, ro = some r → r < 12) {dd : Nat} (hd : dd < 3) (d0 : ro = none → dd = 0) (d1 : ∀ r, ro = some r → aI h 152 (m 152) r = nI (dd + 1)) (room : na < 160) {kp : Prop} (hkp : kp) (l3 : Int32) (Q : Int32 → Hp → Prop) (K : Int32 → Hp → Prop) (hQ : ∀ h', eqS h h' → K (nI (k + 1)) (rfT m y p kp (nI (jvN (mgF h m L) L.length (rkN L.length dd))) L k na h')) : n_X11_make_166 (some y) (nI p) (onI ro) l3 (nI k) 1 h Q K := by
  have hA := hR.1
  unfold JM at hA
  obtain ⟨e1, e2, e3, e4, e5⟩ := cd8 hk
  rw [e2] at e3
  have c := cnF hk (Nat.le_refl 128) (by decide)
  have bd := hR.2.2.1
  have go : n_X11_make_201 (some y) (nI p) (onI ro) l3 (nI k) 1 (nI (dd + 1)) (some y) (nI (k % 8)) (nI (k / 8)) (nI p) (some y) h Q K := by
    unfold n_X11_make_201
    simp (config := {decide := true}) only [gI_e, gR_e, pI_e, pZ_e, pR_e, ldI_e, ldZ_e, ldL_e, ldR_e, stI_e, stZ_e, stL_e, stR_e, alN_e, nwA_e, nwO_e, dvI_e, rmI_e, oV_e, oN_e, lt_e, rZ_e, br_T, br_F, fR_sI, aI_sI, aL_sI, aR_sI, kd_sI, ln_sI, hn_sI, hm_sI, fI_sI_n, fI_sR, aI_sR, aL_sR, aR_sR, kd_sR, ln_sR, hn_sR, hm_sR, fR_sR_n, fI_tI, fR_tI, aL_tI, aR_tI, kd_tI, ln_tI, hn_tI, hm_tI, aI_tI_n, fI_tL, fR_tL, aI_tL, aR_tL, kd_tL, ln_tL, hn_tL, hm_tL, aL_tL_n, fI_tR, fR_tR, aI_tR, aL_tR, kd_tR, ln_tR, hn_tR, hm_tR, aR_tR_n, hn_nw, hm_nw, rc400, rc403, rc404, rc405, rc407, rc409, rc420, rc440, bI_0, bI_1, bI_T, bI_F, iF_T, iF_F, br_not, le_nlt, not_true_eq_false, not_false_eq_true, and_self, and_true, true_and, and_false, false_and, or_true, true_or, or_false, false_or, ne_eq, reduceCtorEq, Nat.reduceLeDiff, Nat.reduceEqDiff, Nat.reduceLT, Nat.reduceAdd, Nat.reduceSub, Nat.reduceMul, Int32.reduceLT, Int32.reduceLE, Int32.reduceToNatClampNeg, Int32.reduceAdd, Int32.reduceSub, implies_true, forall_const, isIn_e, bit_e, lits, hA]
    refine joinR_e hR hG l0 l24 hL hd _ ?_
    intro h2 e2 g2
    have eS2 := eqX.s jr_sF jr_sK e2
    have hR2 := RJ.ofS hR eS2
    have hA2 := hR2.1
    unfold JM at hA2
    simp (config := {decide := true}) only [gI_e, gR_e, pI_e, pZ_e, pR_e, ldI_e, ldZ_e, ldL_e, ldR_e, stI_e, stZ_e, stL_e, stR_e, alN_e, nwA_e, nwO_e, dvI_e, rmI_e, oV_e, oN_e, lt_e, rZ_e, br_T, br_F, fR_sI, aI_sI, aL_sI, aR_sI, kd_sI, ln_sI, hn_sI, hm_sI, fI_sI_n, fI_sR, aI_sR, aL_sR, aR_sR, kd_sR, ln_sR, hn_sR, hm_sR, fR_sR_n, fI_tI, fR_tI, aL_tI, aR_tI, kd_tI, ln_tI, hn_tI, hm_tI, aI_tI_n, fI_tL, fR_tL, aI_tL, aR_tL, kd_tL, ln_tL, hn_tL, hm_tL, aL_tL_n, fI_tR, fR_tR, aI_tR, aL_tR, kd_tR, ln_tR, hn_tR, hm_tR, aR_tR_n, hn_nw, hm_nw, rc400, rc403, rc404, rc405, rc407, rc409, rc420, rc440, bI_0, bI_1, bI_T, bI_F, iF_T, iF_F, br_not, le_nlt, not_true_eq_false, not_false_eq_true, and_self, and_true, true_and, and_false, false_and, or_true, true_or, or_false, false_or, ne_eq, reduceCtorEq, Nat.reduceLeDiff, Nat.reduceEqDiff, Nat.reduceLT, Nat.reduceAdd, Nat.reduceSub, Nat.reduceMul, Int32.reduceLT, Int32.reduceLE, Int32.reduceToNatClampNeg, Int32.reduceAdd, Int32.reduceSub, implies_true, forall_const, isIn_e, bit_e, lits, hA2]
    refine putsR_e hR2 room p _ _ _ _ ?_
    have gp : GG (psR m y na p (nI (k / 8)) (nI (k % 8)) (nI (jvN (mgF h m L) L.length (rkN L.length dd))) (fI h2 1408 y) h2) m y L := by
      obtain ⟨g3, g4⟩ := g2
      refine ⟨?_, fun i hi => ?_⟩
      · unfold psR
        simp (config := {decide := true}) only [fR_sI, aI_sI, aL_sI, aR_sI, kd_sI, ln_sI, hn_sI, hm_sI, fI_sI_n, fI_sR, aI_sR, aL_sR, aR_sR, kd_sR, ln_sR, hn_sR, hm_sR, fR_sR_n, fI_tI, fR_tI, aL_tI, aR_tI, kd_tI, ln_tI, hn_tI, hm_tI, aI_tI_n, fI_tL, fR_tL, aI_tL, aR_tL, kd_tL, ln_tL, hn_tL, hm_tL, aL_tL_n, fI_tR, fR_tR, aI_tR, aL_tR, kd_tR, ln_tR, hn_tR, hm_tR, aR_tR_n, hn_nw, hm_nw]
        exact g3
      · unfold psR
        simp (config := {decide := true}) only [fR_sI, aI_sI, aL_sI, aR_sI, kd_sI, ln_sI, hn_sI, hm_sI, fI_sI_n, fI_sR, aI_sR, aL_sR, aR_sR, kd_sR, ln_sR, hn_sR, hm_sR, fR_sR_n, fI_tI, fR_tI, aL_tI, aR_tI, kd_tI, ln_tI, hn_tI, hm_tI, aI_tI_n, fI_tL, fR_tL, aI_tL, aR_tL, kd_tL, ln_tL, hn_tL, hm_tL, aL_tL_n, fI_tR, fR_tR, aI_tR, aL_tR, kd_tR, ln_tR, hn_tR, hm_tR, aR_tR_n, hn_nw, hm_nw]
        exact g4 i hi
    have jp : JM y m (psR m y na p (nI (k / 8)) (nI (k % 8)) (nI (jvN (mgF h m L) L.length (rkN L.length dd))) (fI h2 1408 y) h2) := hR2.1
    have f := hQ h2 eS2
    unfold rfT at f
    rw [iF_y hkp] at f
    generalize psR m y na p (nI (k / 8)) (nI (k % 8)) (nI (jvN (mgF h m L) L.length (rkN L.length dd))) (fI h2 1408 y) h2 = P at *
    unfold n_X11_make_213
    have lk := linkR_e (l2 := onI ro) (l3 := l3) (l4 := nI k) (Q := Q) (K := K) jp gp l24 (fun i hi => by have := hL i hi; omega) (p := p) True (nI na) (by
      rw [iF_y trivial]
      unfold n_X11_make_268
      simp (config := {decide := true}) only [lt_e, c]
      exact f)
    rw [bI_y trivial] at lk
    exact lk
  unfold n_X11_make_166
  cases ro with
  | none =>
    have o1 : onI none = -1 := rfl
    have z0 := d0 rfl
    subst z0
    have t1 : nI (0 + 1) = 1 := by decide
    rw [o1, t1] at go
    rw [o1]
    simp (config := {decide := true}) only [gI_e, gR_e, pI_e, pZ_e, pR_e, ldI_e, ldZ_e, ldL_e, ldR_e, stI_e, stZ_e, stL_e, stR_e, alN_e, nwA_e, nwO_e, dvI_e, rmI_e, oV_e, oN_e, lt_e, rZ_e, br_T, br_F, fR_sI, aI_sI, aL_sI, aR_sI, kd_sI, ln_sI, hn_sI, hm_sI, fI_sI_n, fI_sR, aI_sR, aL_sR, aR_sR, kd_sR, ln_sR, hn_sR, hm_sR, fR_sR_n, fI_tI, fR_tI, aL_tI, aR_tI, kd_tI, ln_tI, hn_tI, hm_tI, aI_tI_n, fI_tL, fR_tL, aI_tL, aR_tL, kd_tL, ln_tL, hn_tL, hm_tL, aL_tL_n, fI_tR, fR_tR, aI_tR, aL_tR, kd_tR, ln_tR, hn_tR, hm_tR, aR_tR_n, hn_nw, hm_nw, rc400, rc403, rc404, rc405, rc407, rc409, rc420, rc440, bI_0, bI_1, bI_T, bI_F, iF_T, iF_F, br_not, le_nlt, not_true_eq_false, not_false_eq_true, and_self, and_true, true_and, and_false, false_and, or_true, true_or, or_false, false_or, ne_eq, reduceCtorEq, Nat.reduceLeDiff, Nat.reduceEqDiff, Nat.reduceLT, Nat.reduceAdd, Nat.reduceSub, Nat.reduceMul, Int32.reduceLT, Int32.reduceLE, Int32.reduceToNatClampNeg, Int32.reduceAdd, Int32.reduceSub, implies_true, forall_const, isIn_e, bit_e, lits, e2, e3]
    exact go
  | some r =>
    have o1 : onI (some r) = nI r := rfl
    have r12 := hro r rfl
    have cr := cnF (show r < 13 by omega) (Nat.le_refl 13) (by decide)
    have nm : ¬ nI r = -1 := nI_m1 (by omega)
    have d2 := d1 r rfl
    rw [o1] at go ⊢
    simp (config := {decide := true}) only [gI_e, gR_e, pI_e, pZ_e, pR_e, ldI_e, ldZ_e, ldL_e, ldR_e, stI_e, stZ_e, stL_e, stR_e, alN_e, nwA_e, nwO_e, dvI_e, rmI_e, oV_e, oN_e, lt_e, rZ_e, br_T, br_F, fR_sI, aI_sI, aL_sI, aR_sI, kd_sI, ln_sI, hn_sI, hm_sI, fI_sI_n, fI_sR, aI_sR, aL_sR, aR_sR, kd_sR, ln_sR, hn_sR, hm_sR, fR_sR_n, fI_tI, fR_tI, aL_tI, aR_tI, kd_tI, ln_tI, hn_tI, hm_tI, aI_tI_n, fI_tL, fR_tL, aI_tL, aR_tL, kd_tL, ln_tL, hn_tL, hm_tL, aL_tL_n, fI_tR, fR_tR, aI_tR, aL_tR, kd_tR, ln_tR, hn_tR, hm_tR, aR_tR_n, hn_nw, hm_nw, rc400, rc403, rc404, rc405, rc407, rc409, rc420, rc440, bI_0, bI_1, bI_T, bI_F, iF_T, iF_F, br_not, le_nlt, not_true_eq_false, not_false_eq_true, and_self, and_true, true_and, and_false, false_and, or_true, true_or, or_false, false_or, ne_eq, reduceCtorEq, Nat.reduceLeDiff, Nat.reduceEqDiff, Nat.reduceLT, Nat.reduceAdd, Nat.reduceSub, Nat.reduceMul, Int32.reduceLT, Int32.reduceLE, Int32.reduceToNatClampNeg, Int32.reduceAdd, Int32.reduceSub, implies_true, forall_const, isIn_e, bit_e, lits, hA, e2, e3, nm, cr, d2]
    exact go
theorem turnN_e (hR : RJ y np na nm nr ne m h) {L : List Nat} (hG : GG h m y L) (l24 : L.length ≤ 24) (hL : ∀ i, i < L.length → L.getD i 0 < na) {p k : Nat} (hk : k < 128) {kp : Prop} (hkp : ¬ kp) (v l2 l3 : Int32) (Q : Int32 → Hp → Prop) (K : Int32 → Hp → Prop) (hQ : K (nI (k + 1)) (rfT m y p kp v L k na h)) : n_X11_make_166 (some y) (nI p) l2 l3 (nI k) 0 h Q K := by
  have c := cnF hk (Nat.le_refl 128) (by decide)
  have bd := hR.2.2.1
  unfold rfT at hQ
  rw [iF_n hkp] at hQ
  have lk := linkR_e (l2 := l2) (l3 := l3) (l4 := nI k) (Q := Q) (K := K) hR.1 hG l24 (fun i hi => by have := hL i hi; omega) (p := p) False (-1) (by
    rw [iF_n (fun z => z)]
    unfold n_X11_make_268
    simp (config := {decide := true}) only [lt_e, c]
    exact hQ)
  rw [bI_n (fun z => z)] at lk
  unfold n_X11_make_166 n_X11_make_213
  simp (config := {decide := true}) only [gI_e, gR_e, pI_e, pZ_e, pR_e, ldI_e, ldZ_e, ldL_e, ldR_e, stI_e, stZ_e, stL_e, stR_e, alN_e, nwA_e, nwO_e, dvI_e, rmI_e, oV_e, oN_e, lt_e, rZ_e, br_T, br_F, fR_sI, aI_sI, aL_sI, aR_sI, kd_sI, ln_sI, hn_sI, hm_sI, fI_sI_n, fI_sR, aI_sR, aL_sR, aR_sR, kd_sR, ln_sR, hn_sR, hm_sR, fR_sR_n, fI_tI, fR_tI, aL_tI, aR_tI, kd_tI, ln_tI, hn_tI, hm_tI, aI_tI_n, fI_tL, fR_tL, aI_tL, aR_tL, kd_tL, ln_tL, hn_tL, hm_tL, aL_tL_n, fI_tR, fR_tR, aI_tR, aL_tR, kd_tR, ln_tR, hn_tR, hm_tR, aR_tR_n, hn_nw, hm_nw, rc400, rc403, rc404, rc405, rc407, rc409, rc420, rc440, bI_0, bI_1, bI_T, bI_F, iF_T, iF_F, br_not, le_nlt, not_true_eq_false, not_false_eq_true, and_self, and_true, true_and, and_false, false_and, or_true, true_or, or_false, false_or, ne_eq, reduceCtorEq, Nat.reduceLeDiff, Nat.reduceEqDiff, Nat.reduceLT, Nat.reduceAdd, Nat.reduceSub, Nat.reduceMul, Int32.reduceLT, Int32.reduceLE, Int32.reduceToNatClampNeg, Int32.reduceAdd, Int32.reduceSub, implies_true, forall_const, isIn_e, bit_e, lits]
  exact lk
/-- the reference can tell whether one group is kept -/
def KEo (h : Hp) (m : Nat → Nat) (y np na p : Nat) (ro : Option Nat) (L : List Nat) (k : Nat) (P : Prop) : Prop := (ro = none → P) ∧ ∀ r, ro = some r → r < 12 ∧ ∃ C T, RKq h m r C T ∧ rS T.length (fun i => gtE (vaF h m y np na L p k) (T.getD i (0, 0, 0, 0, 0))) C [] = some [P]
theorem KEq.o {KP : List Nat → Nat → Prop} {p : Nat} {ro : Option Nat} (hK : KEq h m y np na p ro KP) (L : List Nat) (k : Nat) : KEo h m y np na p ro L k (KP L k) :=
  ⟨fun e => hK.1 e L k, fun r e => by
    obtain ⟨r12, C, T, rk, rv⟩ := hK.2 r e
    exact ⟨r12, C, T, rk, rv L k⟩⟩
theorem KEo_c {P : Prop} {na1 p : Nat} {ro : Option Nat} {L : List Nat} {k : Nat} (hK : KEo h m y np na p ro L k P) (e : ∀ k, isRq k = true → aI h1 k (m k) = aI h k (m k)) (ev : vaF h1 m y np na1 L p k = vaF h m y np na L p k) : KEo h1 m y np na1 p ro L k P := by
  refine ⟨hK.1, fun r er => ?_⟩
  obtain ⟨r12, C, T, rk, rv⟩ := hK.2 r er
  refine ⟨r12, C, T, ?_, by rw [ev]; exact rv⟩
  unfold RKq tTT at rk ⊢
  rw [e 151 rfl, e 153 rfl, e 154 rfl, e 155 rfl, e 156 rfl, e 157 rfl, e 158 rfl]
  exact rk
theorem KEo_same {P : Prop} {p : Nat} {ro : Option Nat} {L : List Nat} {k : Nat} (hK : KEo h m y np na p ro L k P) (e : eqS h h1) : KEo h1 m y np na p ro L k P :=
  KEo_c hK (fun k hk => by rw [e.2.2.2.2.2.2.1 k (by unfold isRq at hk; unfold isSk; simp at hk ⊢; omega)]) (by rw [vaF_S e])
/-- one turn of the reference's second loop -/
theorem turnR_e (hR : RJ y np na nm nr ne m h) {p : Nat} (hp : p < np) (hx : ¬ aI h 121 (m 121) (m 0) = nI p ∨ np ≤ m 0) {k : Nat} (hk : k < 128) {ro : Option Nat} {P : Prop} (hK : ¬ gaL h m na p k np = [] → KEo h m y np na p ro (gaL h m na p k np) k P) {dd : Nat} (hd : dd < 3) (d0 : ro = none → dd = 0) (d1 : ∀ r, ro = some r → aI h 152 (m 152) r = nI (dd + 1)) (room : ¬ gaL h m na p k np = [] → P → na < 160) (l3 : Int32) (Q : Int32 → Hp → Prop) (K : Int32 → Hp → Prop) (hQ0 : gaL h m na p k np = [] → ∀ h', eqS h h' → K (nI (k + 1)) h') (hQ1 : ¬ gaL h m na p k np = [] → ∀ h', eqS h h' → K (nI (k + 1)) (rfT m y p P (nI (jvN (mgF h m (gaL h m na p k np)) (gaL h m na p k np).length (rkN (gaL h m na p k np).length dd))) (gaL h m na p k np) k na h')) : b_X11_make_124 (some y) (nI p) (onI ro) l3 (nI k) h Q K := by
  have hW := hR.2.2.2
  have hA := hR.1
  unfold JM at hA
  have c := cnF hk (Nat.le_refl 128) (by decide)
  have c128 : nI k < 128 := c.1
  have ll := gaL_len hW p k np
  have bd := hR.2.2.1
  have hL : ∀ i, i < (gaL h m na p k np).length → (gaL h m na p k np).getD i 0 < na := fun i hi => (ga_m hW hk (gD_mem hi)).1
  unfold b_X11_make_124
  simp (config := {decide := true}) only [gI_e, gR_e, pI_e, pZ_e, pR_e, ldI_e, ldZ_e, ldL_e, ldR_e, stI_e, stZ_e, stL_e, stR_e, alN_e, nwA_e, nwO_e, dvI_e, rmI_e, oV_e, oN_e, lt_e, rZ_e, br_T, br_F, fR_sI, aI_sI, aL_sI, aR_sI, kd_sI, ln_sI, hn_sI, hm_sI, fI_sI_n, fI_sR, aI_sR, aL_sR, aR_sR, kd_sR, ln_sR, hn_sR, hm_sR, fR_sR_n, fI_tI, fR_tI, aL_tI, aR_tI, kd_tI, ln_tI, hn_tI, hm_tI, aI_tI_n, fI_tL, fR_tL, aI_tL, aR_tL, kd_tL, ln_tL, hn_tL, hm_tL, aL_tL_n, fI_tR, fR_tR, aI_tR, aL_tR, kd_tR, ln_tR, hn_tR, hm_tR, aR_tR_n, hn_nw, hm_nw, rc400, rc403, rc404, rc405, rc407, rc409, rc420, rc440, bI_0, bI_1, bI_T, bI_F, iF_T, iF_F, br_not, le_nlt, not_true_eq_false, not_false_eq_true, and_self, and_true, true_and, and_false, false_and, or_true, true_or, or_false, false_or, ne_eq, reduceCtorEq, Nat.reduceLeDiff, Nat.reduceEqDiff, Nat.reduceLT, Nat.reduceAdd, Nat.reduceSub, Nat.reduceMul, Int32.reduceLT, Int32.reduceLE, Int32.reduceToNatClampNeg, Int32.reduceAdd, Int32.reduceSub, implies_true, forall_const, isIn_e, bit_e, lits, hA, c128]
  refine gathersX_e hR hx _ ?_
  intro h2 e2 g2
  have eS2 := eqX.s gx_sF gx_sK e2
  have lz : (nI (gaL h m na p k np).length = 0) = (gaL h m na p k np = []) := by
    apply propext
    rw [← List.length_eq_zero_iff]
    exact nI_eq (b := 0) (by omega) (by omega)
  by_cases z : gaL h m na p k np = []
  · unfold n_X11_make_268
    simp (config := {decide := true}) only [gI_e, gR_e, pI_e, pZ_e, pR_e, ldI_e, ldZ_e, ldL_e, ldR_e, stI_e, stZ_e, stL_e, stR_e, alN_e, nwA_e, nwO_e, dvI_e, rmI_e, oV_e, oN_e, lt_e, rZ_e, br_T, br_F, fR_sI, aI_sI, aL_sI, aR_sI, kd_sI, ln_sI, hn_sI, hm_sI, fI_sI_n, fI_sR, aI_sR, aL_sR, aR_sR, kd_sR, ln_sR, hn_sR, hm_sR, fR_sR_n, fI_tI, fR_tI, aL_tI, aR_tI, kd_tI, ln_tI, hn_tI, hm_tI, aI_tI_n, fI_tL, fR_tL, aI_tL, aR_tL, kd_tL, ln_tL, hn_tL, hm_tL, aL_tL_n, fI_tR, fR_tR, aI_tR, aL_tR, kd_tR, ln_tR, hn_tR, hm_tR, aR_tR_n, hn_nw, hm_nw, rc400, rc403, rc404, rc405, rc407, rc409, rc420, rc440, bI_0, bI_1, bI_T, bI_F, iF_T, iF_F, br_not, le_nlt, not_true_eq_false, not_false_eq_true, and_self, and_true, true_and, and_false, false_and, or_true, true_or, or_false, false_or, ne_eq, reduceCtorEq, Nat.reduceLeDiff, Nat.reduceEqDiff, Nat.reduceLT, Nat.reduceAdd, Nat.reduceSub, Nat.reduceMul, Int32.reduceLT, Int32.reduceLE, Int32.reduceToNatClampNeg, Int32.reduceAdd, Int32.reduceSub, implies_true, forall_const, isIn_e, bit_e, lits, lz, z, c]
    exact hQ0 z _ eS2
  have l0 : 0 < (gaL h m na p k np).length := List.length_pos_iff.mpr z
  have hR2 := RJ.ofS hR eS2
  have hA2 := hR2.1
  unfold JM at hA2
  have Q1 := hQ1 z
  have rm := room z
  have hK := hK z
  generalize hLq : gaL h m na p k np = L at *
  simp (config := {decide := true}) only [gI_e, gR_e, pI_e, pZ_e, pR_e, ldI_e, ldZ_e, ldL_e, ldR_e, stI_e, stZ_e, stL_e, stR_e, alN_e, nwA_e, nwO_e, dvI_e, rmI_e, oV_e, oN_e, lt_e, rZ_e, br_T, br_F, fR_sI, aI_sI, aL_sI, aR_sI, kd_sI, ln_sI, hn_sI, hm_sI, fI_sI_n, fI_sR, aI_sR, aL_sR, aR_sR, kd_sR, ln_sR, hn_sR, hm_sR, fR_sR_n, fI_tI, fR_tI, aL_tI, aR_tI, kd_tI, ln_tI, hn_tI, hm_tI, aI_tI_n, fI_tL, fR_tL, aI_tL, aR_tL, kd_tL, ln_tL, hn_tL, hm_tL, aL_tL_n, fI_tR, fR_tR, aI_tR, aL_tR, kd_tR, ln_tR, hn_tR, hm_tR, aR_tR_n, hn_nw, hm_nw, rc400, rc403, rc404, rc405, rc407, rc409, rc420, rc440, bI_0, bI_1, bI_T, bI_F, iF_T, iF_F, br_not, le_nlt, not_true_eq_false, not_false_eq_true, and_self, and_true, true_and, and_false, false_and, or_true, true_or, or_false, false_or, ne_eq, reduceCtorEq, Nat.reduceLeDiff, Nat.reduceEqDiff, Nat.reduceLT, Nat.reduceAdd, Nat.reduceSub, Nat.reduceMul, Int32.reduceLT, Int32.reduceLE, Int32.reduceToNatClampNeg, Int32.reduceAdd, Int32.reduceSub, implies_true, forall_const, isIn_e, bit_e, lits, lz, z]
  -- a group that is kept
  have yes : P → ∀ h3, eqS h h3 → GG h3 m y L → n_X11_make_166 (some y) (nI p) (onI ro) l3 (nI k) 1 h3 Q K := by
    intro w h3 e3 g3
    have hR3 := RJ.ofS hR e3
    have E3 := eqS_l e3
    have mg : mgF h3 m L = mgF h m L := by
      funext i
      unfold mgF mcN
      simp only [E3]
    refine turnY_e hR3 g3 l0 (by omega) hL hk (fun r e => (hK.2 r e).1) hd d0 (fun r e => by simp only [E3]; exact d1 r e) (rm w) w l3 Q K ?_
    intro h4 e4
    rw [mg]
    exact Q1 h4 (e3.tr e4)
  cases ro with
  | none =>
    have o1 : onI none = -1 := rfl
    have w : P := hK.1 rfl
    have y1 := yes w h2 eS2 g2
    rw [o1] at y1 ⊢
    unfold n_X11_make_161
    simp (config := {decide := true}) only [gI_e, gR_e, pI_e, pZ_e, pR_e, ldI_e, ldZ_e, ldL_e, ldR_e, stI_e, stZ_e, stL_e, stR_e, alN_e, nwA_e, nwO_e, dvI_e, rmI_e, oV_e, oN_e, lt_e, rZ_e, br_T, br_F, fR_sI, aI_sI, aL_sI, aR_sI, kd_sI, ln_sI, hn_sI, hm_sI, fI_sI_n, fI_sR, aI_sR, aL_sR, aR_sR, kd_sR, ln_sR, hn_sR, hm_sR, fR_sR_n, fI_tI, fR_tI, aL_tI, aR_tI, kd_tI, ln_tI, hn_tI, hm_tI, aI_tI_n, fI_tL, fR_tL, aI_tL, aR_tL, kd_tL, ln_tL, hn_tL, hm_tL, aL_tL_n, fI_tR, fR_tR, aI_tR, aL_tR, kd_tR, ln_tR, hn_tR, hm_tR, aR_tR_n, hn_nw, hm_nw, rc400, rc403, rc404, rc405, rc407, rc409, rc420, rc440, bI_0, bI_1, bI_T, bI_F, iF_T, iF_F, br_not, le_nlt, not_true_eq_false, not_false_eq_true, and_self, and_true, true_and, and_false, false_and, or_true, true_or, or_false, false_or, ne_eq, reduceCtorEq, Nat.reduceLeDiff, Nat.reduceEqDiff, Nat.reduceLT, Nat.reduceAdd, Nat.reduceSub, Nat.reduceMul, Int32.reduceLT, Int32.reduceLE, Int32.reduceToNatClampNeg, Int32.reduceAdd, Int32.reduceSub, implies_true, forall_const, isIn_e, bit_e, lits]
    exact y1
  | some r =>
    obtain ⟨r12, C, T, rk, rv⟩ := (KEo_same hK eS2).2 r rfl
    obtain ⟨k1, k2, k3, k4, k5⟩ := rk
    have o1 : onI (some r) = nI r := rfl
    have nm : ¬ nI r = -1 := nI_m1 (by omega)
    rw [o1] at yes ⊢
    simp (config := {decide := true}) only [gI_e, gR_e, pI_e, pZ_e, pR_e, ldI_e, ldZ_e, ldL_e, ldR_e, stI_e, stZ_e, stL_e, stR_e, alN_e, nwA_e, nwO_e, dvI_e, rmI_e, oV_e, oN_e, lt_e, rZ_e, br_T, br_F, fR_sI, aI_sI, aL_sI, aR_sI, kd_sI, ln_sI, hn_sI, hm_sI, fI_sI_n, fI_sR, aI_sR, aL_sR, aR_sR, kd_sR, ln_sR, hn_sR, hm_sR, fR_sR_n, fI_tI, fR_tI, aL_tI, aR_tI, kd_tI, ln_tI, hn_tI, hm_tI, aI_tI_n, fI_tL, fR_tL, aI_tL, aR_tL, kd_tL, ln_tL, hn_tL, hm_tL, aL_tL_n, fI_tR, fR_tR, aI_tR, aL_tR, kd_tR, ln_tR, hn_tR, hm_tR, aR_tR_n, hn_nw, hm_nw, rc400, rc403, rc404, rc405, rc407, rc409, rc420, rc440, bI_0, bI_1, bI_T, bI_F, iF_T, iF_F, br_not, le_nlt, not_true_eq_false, not_false_eq_true, and_self, and_true, true_and, and_false, false_and, or_true, true_or, or_false, false_or, ne_eq, reduceCtorEq, Nat.reduceLeDiff, Nat.reduceEqDiff, Nat.reduceLT, Nat.reduceAdd, Nat.reduceSub, Nat.reduceMul, Int32.reduceLT, Int32.reduceLE, Int32.reduceToNatClampNeg, Int32.reduceAdd, Int32.reduceSub, implies_true, forall_const, isIn_e, bit_e, lits, hA2, nm]
    refine keeps_e hR2 g2 l0 (by omega) hL hp hk r12 k1 k2 k3 k4 k5 rv _ ?_
    intro h3 e3 g3
    have eS3 := eS2.tr (eqX.s kp_sF kp_sK e3)
    have hR3 := RJ.ofS hR eS3
    by_cases w : P
    · rw [bI_y w]
      unfold n_X11_make_161
      simp (config := {decide := true}) only [gI_e, gR_e, pI_e, pZ_e, pR_e, ldI_e, ldZ_e, ldL_e, ldR_e, stI_e, stZ_e, stL_e, stR_e, alN_e, nwA_e, nwO_e, dvI_e, rmI_e, oV_e, oN_e, lt_e, rZ_e, br_T, br_F, fR_sI, aI_sI, aL_sI, aR_sI, kd_sI, ln_sI, hn_sI, hm_sI, fI_sI_n, fI_sR, aI_sR, aL_sR, aR_sR, kd_sR, ln_sR, hn_sR, hm_sR, fR_sR_n, fI_tI, fR_tI, aL_tI, aR_tI, kd_tI, ln_tI, hn_tI, hm_tI, aI_tI_n, fI_tL, fR_tL, aI_tL, aR_tL, kd_tL, ln_tL, hn_tL, hm_tL, aL_tL_n, fI_tR, fR_tR, aI_tR, aL_tR, kd_tR, ln_tR, hn_tR, hm_tR, aR_tR_n, hn_nw, hm_nw, rc400, rc403, rc404, rc405, rc407, rc409, rc420, rc440, bI_0, bI_1, bI_T, bI_F, iF_T, iF_F, br_not, le_nlt, not_true_eq_false, not_false_eq_true, and_self, and_true, true_and, and_false, false_and, or_true, true_or, or_false, false_or, ne_eq, reduceCtorEq, Nat.reduceLeDiff, Nat.reduceEqDiff, Nat.reduceLT, Nat.reduceAdd, Nat.reduceSub, Nat.reduceMul, Int32.reduceLT, Int32.reduceLE, Int32.reduceToNatClampNeg, Int32.reduceAdd, Int32.reduceSub, implies_true, forall_const, isIn_e, bit_e, lits]
      exact yes w h3 eS3 g3
    · rw [bI_n w]
      simp (config := {decide := true}) only [gI_e, gR_e, pI_e, pZ_e, pR_e, ldI_e, ldZ_e, ldL_e, ldR_e, stI_e, stZ_e, stL_e, stR_e, alN_e, nwA_e, nwO_e, dvI_e, rmI_e, oV_e, oN_e, lt_e, rZ_e, br_T, br_F, fR_sI, aI_sI, aL_sI, aR_sI, kd_sI, ln_sI, hn_sI, hm_sI, fI_sI_n, fI_sR, aI_sR, aL_sR, aR_sR, kd_sR, ln_sR, hn_sR, hm_sR, fR_sR_n, fI_tI, fR_tI, aL_tI, aR_tI, kd_tI, ln_tI, hn_tI, hm_tI, aI_tI_n, fI_tL, fR_tL, aI_tL, aR_tL, kd_tL, ln_tL, hn_tL, hm_tL, aL_tL_n, fI_tR, fR_tR, aI_tR, aL_tR, kd_tR, ln_tR, hn_tR, hm_tR, aR_tR_n, hn_nw, hm_nw, rc400, rc403, rc404, rc405, rc407, rc409, rc420, rc440, bI_0, bI_1, bI_T, bI_F, iF_T, iF_F, br_not, le_nlt, not_true_eq_false, not_false_eq_true, and_self, and_true, true_and, and_false, false_and, or_true, true_or, or_false, false_or, ne_eq, reduceCtorEq, Nat.reduceLeDiff, Nat.reduceEqDiff, Nat.reduceLT, Nat.reduceAdd, Nat.reduceSub, Nat.reduceMul, Int32.reduceLT, Int32.reduceLE, Int32.reduceToNatClampNeg, Int32.reduceAdd, Int32.reduceSub, implies_true, forall_const, isIn_e, bit_e, lits]
      exact turnN_e hR3 g3 (by omega) hL hk w _ _ _ Q K (Q1 h3 eS3)
end TURR
