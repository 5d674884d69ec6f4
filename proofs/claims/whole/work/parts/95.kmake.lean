section KMAK
variable {x y b0 s0 np na nm nr ne : Nat} {g : Nat → Nat → Nat} {m : Nat → Nat} {h h1 : Hp}
theorem ga_at {u k q b : Nat} (hm : b ∈ gaL h m na u k q) : b < na ∧ ∃ q2, q2 < q ∧ aI h 121 (m 121) q2 = nI u ∧ aI h 132 (m 132) b = nI q2 := by
  induction q with
  | zero => cases hm
  | succ q ih =>
    have h2 : b ∈ gaL h m na u k q ++ (iF (aI h 121 (m 121) q = nI u) (fL (gaP h m k q) na) []) := hm
    rw [List.mem_append] at h2
    rcases h2 with h2 | h2
    · obtain ⟨a1, q2, a2, a3⟩ := ih h2
      exact ⟨a1, q2, by omega, a3⟩
    · by_cases c : aI h 121 (m 121) q = nI u
      · rw [iF_y c] at h2
        obtain ⟨i, hi, e⟩ := List.getElem_of_mem h2
        have f := fL_lt (P := gaP h m k q) (k := na) (i := i) hi
        have e2 : (fL (gaP h m k q) na).getD i 0 = b := by
          rw [List.getD_eq_getElem?_getD, List.getElem?_eq_getElem hi]
          exact e
        rw [e2] at f
        exact ⟨f.1, q, Nat.lt_succ_self q, c, f.2.1⟩
      · rw [iF_n c] at h2
        cases h2
theorem rOK_c (e : AR m h1 h) (l d : Int32) : rOK h1 m l d = rOK h m l d := by
  funext r
  unfold rOK
  rw [e 148 rfl, e 149 rfl, e 150 rfl]
/-- the reference's make, up to its second loop -/
theorem makeR_e (hR : RJ y np na nm nr ne m h) (hx : np ≤ m 0) {p : Nat} (hpp : p < np) (lv : ¬ aI h 120 (m 120) p = 0) (md : aI h 200 (m 200) p = 0) {ro : Option Nat} (hro : frc (rOK h m (aI h 120 (m 120) p) (fI h 1408 y)) (aI h 149 (m 149)) nr = ro) {KP : List Nat → Nat → Prop} (hK : KEq h m y np na p ro KP) (Q : Int32 → Hp → Prop) (hY : na + cN (fun j => KP (cdM h m na p np j) ((cdL h m na p np).getD j 0)) (cdL h m na p np).length ≤ 160 → ∀ h', eqS h h' → l_X11_make_124 (some y) (nI p) (onI ro) (nI (cN (fun j => KP (cdM h m na p np j) ((cdL h m na p np).getD j 0)) (cdL h m na p np).length)) 0 h' Q) (hN : ¬ na + cN (fun j => KP (cdM h m na p np j) ((cdL h m na p np).getD j 0)) (cdL h m na p np).length ≤ 160 → ∀ h', eqS h h' → Q (-7) (tI h' 161 (m 161) 7 (aI h' 161 (m 161) 7 + 1))) : w_X11_make (some y) (nI p) h Q := by
  have key := passM_e hR hx hpp hK Q hY hN
  clear hY hN hK
  have hA := hR.1
  unfold JM at hA
  have bd := hR.2.2.1
  have ip := isPlace_e hR
  have c : vp_in (nI p) np := vp_in_nI hpp (by omega)
  have cp := cnF hpp (show np ≤ 24 by omega) (by decide)
  have ky : kd h y = 12 := by simp only [hA]
  have r15 : fR h 1415 y = some (m 120) := by simp only [hA]
  have r23 : fR h 1423 y = some (m 200) := by simp only [hA]
  have k120 : kd h (m 120) = 120 := by simp only [hA]
  have k200 : kd h (m 200) = 200 := by simp only [hA]
  have l120 : ln h (m 120) = 24 := by simp only [hA]
  have l200 : ln h (m 200) = 24 := by simp only [hA]
  clear hA
  have fe := force_e hR (aI h 120 (m 120) p) (fI h 1408 y) (fun v11 h => l_X11_make_59 (some y) (nI p) v11 0 0 h Q) (by rw [hro]; exact key)
  clear key
  unfold w_X11_make n_X11_make_0
  refine ⟨⟨y, rfl, ky⟩, ?_⟩
  rw [ip, bI_y c]
  refine ⟨fun z => absurd z (by decide), fun _ => ?_⟩
  refine ⟨y, rfl, ky, ?_⟩
  rw [r15]
  refine ⟨m 120, rfl, by rw [k120]; decide, by rw [l120]; exact cp.2.1, ?_⟩
  rw [k120, cp.2.2.1]
  refine ⟨fun z => absurd z lv, fun _ => ?_⟩
  refine ⟨y, rfl, ky, ?_⟩
  rw [r23]
  refine ⟨m 200, rfl, by rw [k200]; decide, by rw [l200]; exact cp.2.1, ?_⟩
  rw [k200, cp.2.2.1]
  refine ⟨fun _ => ?_, fun z => absurd md z⟩
  refine ⟨y, rfl, ky, ?_⟩
  rw [r15]
  refine ⟨m 120, rfl, by rw [k120]; decide, by rw [l120]; exact cp.2.1, ?_⟩
  rw [k120, cp.2.2.1]
  refine ⟨y, rfl, ky, ?_⟩
  exact ⟨⟨y, rfl, ky⟩, fe⟩
/-- all after the class's sifting -/
theorem makeX_e (hJ : JA x y b0 s0 np na nm nr ne g m h) (hm0 : 24 ≤ m 0) {p : Nat} (hpp : p < np) (lv : ¬ aI h 120 (m 120) p = 0) (md : aI h 200 (m 200) p = 0) {ro : Option Nat} (hro : frc (rOK h m (aI h 120 (m 120) p) (fI h 1408 y)) (aI h 149 (m 149)) nr = ro) {KP : List Nat → Nat → Prop} (hK : KEq h m y np na p ro KP) {dd : Nat} (dd3 : dd < 3) (dd0 : ro = none → dd = 0) (dd1 : ∀ r, ro = some r → aI h 152 (m 152) r = nI (dd + 1)) {N : Nat} (hN : (cdL h m na p np).length = N) (hG : GQ h g na N (cdM h m na p np)) {kp : Nat → Prop} (hkp : kp = fun j => KP (cdM h m na p np j) ((cdL h m na p np).getD j 0)) (t2 : ∀ j, j < N → aI h 103 (g 0 16) j = iF (kp j) (jnV dd) (-1)) (Q : Hp → Prop) (hQ : ∀ h2, JJ x y b0 s0 m h2 → Q h2) : gI h (some x) 11 1293 fun v8 => br ((v8 + nI (cN kp N)) ≤ 160) (l_X10_make_70 (some x) (some (g 1 p)) (nI (cN kp N)) 0 h (fun r h1 => w_X11_make (some y) (nI p) h1 (fun r2 h2 => r = r2 ∧ Q h2))) (oV h (some x) 11 <| w_X10_refuse (some x) (-7) h <| fun v18 h => w_X11_make (some y) (nI p) h (fun r2 h2 => v18 = r2 ∧ Q h2)) := by
  have hW := hJ.2.2.2.2.2.1
  have hbd := hJ.2.2.1.2
  have hC1 := hJ.2.2.1.1.1
  have hR := hJ.rj
  have hB := hJ.2.1
  unfold JS at hB
  have kx : kd h x = 11 := by simp only [hB]
  clear hB
  have hA := hJ.1
  unfold JM at hA
  have ky : kd h y = 12 := by simp only [hA]
  clear hA
  have k1p : kd h (g 1 p) = 6 := hJ.2.2.2.1.pl_kd p hpp
  have fx : fI h 1293 x = nI na := hJ.2.2.1.1.2.1
  have N128 : N ≤ 128 := by rw [← hN]; exact fL_le _ _
  have l24 : ∀ j, j < N → (cdM h m na p np j).length ≤ 24 := fun j hj => by
    have := gaL_len hW p ((cdL h m na p np).getD j 0) np
    show (gaL h m na p ((cdL h m na p np).getD j 0) np).length ≤ 24
    omega
  have cle := cN_le kp N
  have sm : nI na + nI (cN kp N) = nI (na + cN kp N) := nI_add _ _
  have e160 : (160 : Int32).toInt = 160 := by decide
  have le160 : nI (na + cN kp N) ≤ 160 ↔ na + cN kp N ≤ 160 := by
    rw [Int32.le_iff_toInt_le, nI_toInt (by omega), e160]
    omega
  -- the reference's half, from any heap that has its numbers
  have mk : ∀ R0 : Hp, RJ y np na nm nr ne m R0 → AR m R0 h → fI R0 1408 y = fI h 1408 y → ∀ Q2 : Int32 → Hp → Prop, (na + cN kp N ≤ 160 → ∀ h', eqS R0 h' → l_X11_make_124 (some y) (nI p) (onI ro) (nI (cN kp N)) 0 h' Q2) → (¬ na + cN kp N ≤ 160 → ∀ h', eqS R0 h' → Q2 (-7) (tI h' 161 (m 161) 7 (aI h' 161 (m 161) 7 + 1))) → w_X11_make (some y) (nI p) R0 Q2 := by
    intro R0 hR0 a0 e0 Q2 hY hN2
    have cL : cdL R0 m na p np = cdL h m na p np := cdL_c a0 na p np
    have cM : cdM R0 m na p np = cdM h m na p np := funext fun j => cdM_c a0 na p np j
    refine makeR_e hR0 (by omega) hpp (by rw [a0 120 rfl]; exact lv) (by rw [a0 200 rfl]; exact md) (ro := ro) (by rw [rOK_c a0, a0 120 rfl, a0 149 rfl, e0]; exact hro) (KEq_cc hK a0 e0) Q2 ?_ ?_
    · rw [cL, cM, hN, ← hkp]
      exact hY
    · rw [cL, cM, hN, ← hkp]
      exact hN2
  refine ⟨x, rfl, kx, ?_⟩
  rw [fx]
  show br (nI na + nI (cN kp N) ≤ 160) _ _
  rw [sm]
  by_cases room : na + cN kp N ≤ 160
  rotate_left
  · refine ⟨fun z => absurd (le160.mp z) room, fun _ => ⟨⟨x, rfl, kx⟩, ?_⟩⟩
    rw [(rf_l hJ).2.2.2.2.2.2]
    refine mk _ (hJ.rj1 6 _) (fun k q => by rw [aI_tI_n _ _ _ _ _ _ (fun w => by rw [w] at q; exact absurd q (by decide))]) rfl _ (fun z => absurd z room) (fun _ h' e' => ⟨rfl, ?_⟩)
    have ee := eqS_tIb e' 161 (m 161) 7 (aI h' 161 (m 161) 7 + 1)
    have j7 := hJ.ref 7 (by decide)
    have e161 : aI h' 161 = aI h 161 := by rw [e'.2.2.2.2.2.2.1 161 rfl, aI_tI_n _ _ _ _ _ _ (by decide)]
    rw [e161] at ee ⊢
    exact hQ _ (j7.same ee).jj
  refine ⟨fun _ => ?_, fun z => absurd (le160.mpr room) z⟩
  have hz0 : ∀ a, hn h ≤ a → kd h a = 0 := hJ.2.2.2.2.2.2.2.1
  have inv := cl_inv (g := g) fx (by rw [kx]; decide) hz0 (g 1 p) kp (fun j => nI (jvN (mgF h m (cdM h m na p np j)) (cdM h m na p np j).length (rkN (cdM h m na p np j).length dd))) (cdM h m na p np) N
  refine clLoop_e hJ.1 hJ.cb hG N128 l24 dd3 t2 hz0 fx room k1p _ _ ?_
  have clh := cl_hn (g := g) (x := x) (pl := g 1 p) (n0 := na) (kp := kp) (v := fun j => nI (jvN (mgF h m (cdM h m na p np j)) (cdM h m na p np j).length (rkN (cdM h m na p np j).length dd))) (M := cdM h m na p np) (h := h) N
  have hmq : ∀ k, ¬ k = 0 → (fun k => if k = 0 then p else m k) k = m k := fun k hk => if_neg hk
  have tie := vi_tie (x := x) (y := y) (g := g) (m := fun k => if k = 0 then p else m k) p kp (fun j => nI (jvN (mgF h m (cdM h m na p np j)) (cdM h m na p np j).length (rkN (cdM h m na p np j).length dd))) (cdM h m na p np) (fun j => (cdL h m na p np).getD j 0) na h N
  generalize hv : (fun j => nI (jvN (mgF h m (cdM h m na p np j)) (cdM h m na p np j).length (rkN (cdM h m na p np j).length dd))) = v at *
  generalize hclH : clH g x (g 1 p) kp v (cdM h m na p np) na h N = CH at *
  obtain ⟨i1, i2, i3⟩ := inv
  have a0 : AR m (sI CH 648 (g 1 p) 1) h := fun k q => (i1 (m k) (hJ.1.rk q)).2.2.2.2.1 k
  have e0 : fI (sI CH 648 (g 1 p) 1) 1408 y = fI h 1408 y := by
    rw [fI_sI_n _ _ _ _ _ (by decide)]
    exact (i1 y (by rw [ky]; decide)).2.2.1 1408 (by decide)
  have e10 : fI (sI CH 648 (g 1 p) 1) 1410 y = nI na := by
    rw [fI_sI_n _ _ _ _ _ (by decide), (i1 y (by rw [ky]; decide)).2.2.1 1410 (by decide)]
    exact hR.2.1.2.1
  refine mk _ (hR.of ((i1.mm clh).sI (by decide) _ _)) a0 e0 _ (fun _ h' e' => ?_) (fun z => absurd room z)
  have hno : ∀ i, i < na → ¬ aI h 132 (m 132) i = nI p := by
    intro i hi e
    have cl : (aI h 132 (m 132) i).toNatClampNeg = p := by rw [e, nI_clamp (by omega)]
    have := hW.w_amd i hi (by rw [cl]; exact lv)
    rw [cl] at this
    rcases this with w | w
    · rw [md] at w
      exact absurd w (by decide)
    · omega
  have hu : ¬ aI h 121 (m 121) p = nI p := by
    by_cases z : p = 0
    · rw [z, hW.w_u0]
      decide
    · obtain ⟨j, j1, j2, -⟩ := hW.w_und p (by omega) hpp
      rw [j2]
      intro w
      have := (nI_eq (by omega) (by omega)).mp w
      omega
  have hJ' : JA x y b0 s0 np na nm nr ne g (fun k => if k = 0 then p else m k) h := hJ.mz hmq (fun i hi l => by
    rcases hW.w_amd i hi l with w | w
    · exact Or.inl w
    · have := vp_lt2 (hW.w_at i hi)
      omega)
  have cL := cdL_mz hmq h
  have cM := cdM_mz hmq h
  have mg := mgF_mz hmq h
  have hkp2 : kp = fun j => KP (cdM h (fun k => if k = 0 then p else m k) na p np j) ((cdL h (fun k => if k = 0 then p else m k) na p np).getD j 0) := by
    rw [cL, cM]
    exact hkp
  refine loopR_e hJ' (m2 := m) hpp rfl lv hu hno (KEq_mz hmq hK) dd3 dd0 dd1 (N := N) (by rw [cL]; exact hN) (kp := kp) hkp2 room ?_ (v := v) ?_ ?_ ?_ ?_ (fun k hk => (hmq k hk).symm) _ _ (fun g2 R' hJR => ⟨rfl, hQ _ hJR.jj⟩)
  · intro j hj b hb
    rw [cM] at hb
    obtain ⟨b1, q2, b2, b3, b4⟩ := ga_at hb
    rcases hW.w_int b b1 with w | ⟨b', w1, w2, w3, w4⟩
    · exact w
    · rw [b4, nI_clamp (by omega), b3] at w4
      exact absurd w4 (hno b' w2)
  · rw [cM, mg]
    exact hv.symm
  · rw [cM, cL]
    exact (eqX_t (eqX_sIb tie 648 (g 1 p) 1)).tr e'.t
  · intro k q
    have k0 : ¬ k = 0 := fun w => by rw [w] at q; exact absurd q (by decide)
    show aI h' k (if k = 0 then p else m k) = aI h k (if k = 0 then p else m k)
    rw [if_neg k0, e'.2.2.2.2.2.2.1 k (by unfold isRq at q; unfold isSk; simp at q ⊢; omega)]
    exact a0 k q
  · rw [e'.2.2.2.2.2.1 1410 rfl]
    exact e10
theorem K_make (hJ : JA x y b0 s0 np na nm nr ne g m h) (hm0 : 24 ≤ m 0) (a : Int32) (Q : Hp → Prop) (hQ : ∀ h2, JJ x y b0 s0 m h2 → Q h2) : w_X10_make (some x) a h (fun r h1 => w_X11_make (some y) a h1 (fun r2 h2 => r = r2 ∧ Q h2)) := by
  have hA := hJ.1; unfold JM at hA; have hB := hJ.2.1; unfold JS at hB; have hC := hJ.2.2.1.1; have hR := hJ.rj; have hf := rf_l hJ; have hno := no_l hR; have hno1 := fun k v => no_l (hJ.rj1 k v); have hp := isPlace_e hR; have ha := isAsk_e hR; have hp1 := fun k v => isPlace_e (hJ.rj1 k v); have ha1 := fun k v => isAsk_e (hJ.rj1 k v)
  have hbd := hJ.2.2.1.2
  have hW := hJ.2.2.2.2.2.1
  by_cases c : vp_in a np
  rotate_left
  · unfold w_X10_make n_X10_make_0 n_X10_make_30 w_X11_make n_X11_make_0 n_X11_make_32
    simp only [gI_e, gR_e, pI_e, pZ_e, pR_e, ldI_e, ldZ_e, ldL_e, ldR_e, stI_e, stZ_e, stL_e, stR_e, alN_e, nwA_e, nwO_e, dvI_e, rmI_e, oV_e, oN_e, lt_e, rZ_e, br_T, br_F, fR_sI, aI_sI, aL_sI, aR_sI, kd_sI, ln_sI, hn_sI, hm_sI, fI_sI_n, fI_sR, aI_sR, aL_sR, aR_sR, kd_sR, ln_sR, hn_sR, hm_sR, fR_sR_n, fI_tI, fR_tI, aL_tI, aR_tI, kd_tI, ln_tI, hn_tI, hm_tI, aI_tI_n, fI_tL, fR_tL, aI_tL, aR_tL, kd_tL, ln_tL, hn_tL, hm_tL, aL_tL_n, fI_tR, fR_tR, aI_tR, aL_tR, kd_tR, ln_tR, hn_tR, hm_tR, aR_tR_n, hn_nw, hm_nw, rc400, rc403, rc404, rc405, rc407, rc409, rc420, rc440, bI_0, bI_1, bI_T, bI_F, iF_T, iF_F, br_not, le_nlt, not_true_eq_false, not_false_eq_true, and_self, and_true, true_and, and_false, false_and, or_true, true_or, or_false, false_or, ne_eq, reduceCtorEq, Nat.reduceLeDiff, Nat.reduceEqDiff, Nat.reduceLT, Nat.reduceAdd, Nat.reduceSub, Nat.reduceMul, Int32.reduceLT, Int32.reduceLE, Int32.reduceToNatClampNeg, Int32.reduceAdd, Int32.reduceSub, implies_true, forall_const, isIn_e, bit_e, lits, hA, hB, hC, hf, hno, hno1, hp, ha, hp1, ha1, placeAt_e hJ, askAt_e hJ, modelAt_e hJ, shelfAt_e hJ, isShelf_e, isGroup_e, isAsked_e, rZ_bI, dec_none, dec_s, dec_1, lt_e, c]
    exact hQ _ (hJ.ref 1 (by decide)).jj
  obtain ⟨p, hpp, rfl⟩ := vp_ex c
  have cp := cnF hpp (show np ≤ 24 by omega) (by decide)
  have qp := plF hJ hpp
  by_cases lv : aI h 120 (m 120) p = 0
  · unfold w_X10_make n_X10_make_0 n_X10_make_30 w_X11_make n_X11_make_0 n_X11_make_32
    simp only [gI_e, gR_e, pI_e, pZ_e, pR_e, ldI_e, ldZ_e, ldL_e, ldR_e, stI_e, stZ_e, stL_e, stR_e, alN_e, nwA_e, nwO_e, dvI_e, rmI_e, oV_e, oN_e, lt_e, rZ_e, br_T, br_F, fR_sI, aI_sI, aL_sI, aR_sI, kd_sI, ln_sI, hn_sI, hm_sI, fI_sI_n, fI_sR, aI_sR, aL_sR, aR_sR, kd_sR, ln_sR, hn_sR, hm_sR, fR_sR_n, fI_tI, fR_tI, aL_tI, aR_tI, kd_tI, ln_tI, hn_tI, hm_tI, aI_tI_n, fI_tL, fR_tL, aI_tL, aR_tL, kd_tL, ln_tL, hn_tL, hm_tL, aL_tL_n, fI_tR, fR_tR, aI_tR, aL_tR, kd_tR, ln_tR, hn_tR, hm_tR, aR_tR_n, hn_nw, hm_nw, rc400, rc403, rc404, rc405, rc407, rc409, rc420, rc440, bI_0, bI_1, bI_T, bI_F, iF_T, iF_F, br_not, le_nlt, not_true_eq_false, not_false_eq_true, and_self, and_true, true_and, and_false, false_and, or_true, true_or, or_false, false_or, ne_eq, reduceCtorEq, Nat.reduceLeDiff, Nat.reduceEqDiff, Nat.reduceLT, Nat.reduceAdd, Nat.reduceSub, Nat.reduceMul, Int32.reduceLT, Int32.reduceLE, Int32.reduceToNatClampNeg, Int32.reduceAdd, Int32.reduceSub, implies_true, forall_const, isIn_e, bit_e, lits, hA, hB, hC, hf, hno, hno1, hp, ha, hp1, ha1, placeAt_e hJ, askAt_e hJ, modelAt_e hJ, shelfAt_e hJ, isShelf_e, isGroup_e, isAsked_e, rZ_bI, dec_none, dec_s, dec_1, lt_e, c, cp, qp, lv]
    exact hQ _ (hJ.ref 6 (by decide)).jj
  rcases hW.w_mad p hpp with md | md
  rotate_left
  · unfold w_X10_make n_X10_make_0 n_X10_make_30 w_X11_make n_X11_make_0 n_X11_make_32
    simp (config := {decide := true}) only [gI_e, gR_e, pI_e, pZ_e, pR_e, ldI_e, ldZ_e, ldL_e, ldR_e, stI_e, stZ_e, stL_e, stR_e, alN_e, nwA_e, nwO_e, dvI_e, rmI_e, oV_e, oN_e, lt_e, rZ_e, br_T, br_F, fR_sI, aI_sI, aL_sI, aR_sI, kd_sI, ln_sI, hn_sI, hm_sI, fI_sI_n, fI_sR, aI_sR, aL_sR, aR_sR, kd_sR, ln_sR, hn_sR, hm_sR, fR_sR_n, fI_tI, fR_tI, aL_tI, aR_tI, kd_tI, ln_tI, hn_tI, hm_tI, aI_tI_n, fI_tL, fR_tL, aI_tL, aR_tL, kd_tL, ln_tL, hn_tL, hm_tL, aL_tL_n, fI_tR, fR_tR, aI_tR, aL_tR, kd_tR, ln_tR, hn_tR, hm_tR, aR_tR_n, hn_nw, hm_nw, rc400, rc403, rc404, rc405, rc407, rc409, rc420, rc440, bI_0, bI_1, bI_T, bI_F, iF_T, iF_F, br_not, le_nlt, not_true_eq_false, not_false_eq_true, and_self, and_true, true_and, and_false, false_and, or_true, true_or, or_false, false_or, ne_eq, reduceCtorEq, Nat.reduceLeDiff, Nat.reduceEqDiff, Nat.reduceLT, Nat.reduceAdd, Nat.reduceSub, Nat.reduceMul, Int32.reduceLT, Int32.reduceLE, Int32.reduceToNatClampNeg, Int32.reduceAdd, Int32.reduceSub, implies_true, forall_const, isIn_e, bit_e, lits, hA, hB, hC, hf, hno, hno1, hp, ha, hp1, ha1, placeAt_e hJ, askAt_e hJ, modelAt_e hJ, shelfAt_e hJ, isShelf_e, isGroup_e, isAsked_e, rZ_bI, dec_none, dec_s, dec_1, lt_e, c, cp, qp, lv, md]
    exact hQ _ (hJ.ref 6 (by decide)).jj
  have kx : kd h x = 11 := by simp only [hB]
  have k1p : kd h (g 1 p) = 6 := hJ.2.2.2.1.pl_kd p hpp
  have f641 : fI h 641 (g 1 p) = aI h 120 (m 120) p := hJ.2.2.2.2.1.d_lev p hpp
  have f648 : fI h 648 (g 1 p) = aI h 200 (m 200) p := hJ.2.2.2.2.1.d_mad p hpp
  unfold w_X10_make n_X10_make_0
  refine ⟨⟨x, rfl, kx⟩, ?_⟩
  rw [placeAt_e hJ]
  refine ⟨fun _ => ?_, fun z => absurd c z⟩
  rw [cp.2.2.1]
  refine ⟨fun z => (by cases z), fun _ => ?_⟩
  refine ⟨g 1 p, rfl, k1p, ?_⟩
  rw [f641]
  refine ⟨fun z => absurd z lv, fun _ => ?_⟩
  refine ⟨g 1 p, rfl, k1p, ?_⟩
  rw [f648]
  refine ⟨fun _ => ?_, fun z => absurd md z⟩
  refine ⟨⟨x, rfl, kx⟩, ?_⟩
  refine gather_e hJ hpp _ ?_
  intro h1 e1 g1
  have hJ1 := hJ.same e1
  have N128 : (cdL h m na p np).length ≤ 128 := fL_le _ _
  have cdf := fun (j : Nat) (hj : j < (cdL h m na p np).length) => cdM_f (u := p) hW hj
  have l24 : ∀ j, j < (cdL h m na p np).length → (cdM h m na p np j).length ≤ 24 := fun j hj => by
    have := gaL_len hW p ((cdL h m na p np).getD j 0) np
    show (gaL h m na p ((cdL h m na p np).getD j 0) np).length ≤ 24
    omega
  refine ⟨⟨x, rfl, by rw [e1.2.2.1]; exact kx⟩, ?_⟩
  refine sift_e hJ1 g1 N128 l24 (CC := fun j => (cdL h m na p np).getD j 0) (fun j hj => ⟨(cdf j hj).1, by rw [whN_same e1]; exact (cdf j hj).2.2.2⟩) hpp _ ?_
  intro h2 e2 t2
  have eS2 := eqX.s sf_sF sf_sK e2
  have hJ2 := hJ1.same eS2
  have e12 := e1.tr eS2
  have rlt : ∀ r, frc (rOK h1 m (aI h1 120 (m 120) p) (fI h1 1408 y)) (aI h1 149 (m 149)) nr = some r → r < nr := fun r e => frc_lt e
  have hK1 := KEq_i hJ1 (p := p) rlt
  have hro2 : frc (rOK h2 m (aI h2 120 (m 120) p) (fI h2 1408 y)) (aI h2 149 (m 149)) nr = frc (rOK h1 m (aI h1 120 (m 120) p) (fI h1 1408 y)) (aI h1 149 (m 149)) nr := by
    have E := eS2.2.2.2.2.2.2.1
    rw [rOK_c (h := h1) (h1 := h2) (fun k q => by rw [E k (by unfold isRq at q; unfold isSk; simp at q ⊢; omega)]), E 120 rfl, E 149 rfl, eS2.2.2.2.2.2.1 1408 rfl]
  have jd3 : ∀ ro : Option Nat, (∀ r, ro = some r → r < nr) → jdv h1 m ro < 3 ∧ (ro = none → jdv h1 m ro = 0) ∧ ∀ r, ro = some r → aI h1 152 (m 152) r = nI (jdv h1 m ro + 1) := by
    intro ro hr
    cases ro with
    | none => exact ⟨by show (0 : Nat) < 3; decide, fun _ => rfl, fun r e => (by cases e)⟩
    | some r =>
      have ok := hJ1.2.2.2.2.2.2.1.e_ru r (hr r rfl)
      unfold ruleOK at ok
      obtain ⟨-, -, -, -, -, -, d, hd, o7, -⟩ := ok
      have e : jdv h1 m (some r) = d := by
        show (aI h1 152 (m 152) r).toNatClampNeg - 1 = d
        rw [o7, nI_clamp (by omega), Nat.add_sub_cancel]
      rw [e]
      exact ⟨hd, fun z => (by cases z), fun r2 z => (by cases z; exact o7)⟩
  obtain ⟨dd3, dd0, dd1⟩ := jd3 _ rlt
  unfold jnC at t2
  generalize frc (rOK h1 m (aI h1 120 (m 120) p) (fI h1 1408 y)) (aI h1 149 (m 149)) nr = ro at *
  generalize hKP : KPr h1 m y np na p g ro = KP at *
  generalize jdv h1 m ro = dd at *
  have hK2 := KEq_same hK1 eS2
  have cL : cdL h2 m = cdL h m := cdL_same e12.b m
  have cM : cdM h2 m = cdM h m := cdM_same e12.b m
  have E2 := e12.2.2.2.2.2.2.1
  refine makeX_e hJ2 hm0 hpp (by rw [E2 120 rfl]; exact lv) (by rw [E2 200 rfl]; exact md) hro2 hK2 dd3 dd0 (fun r er => by rw [eS2.2.2.2.2.2.2.1 152 rfl]; exact dd1 r er) (N := (cdL h m na p np).length) (by rw [cL]) (by rw [cM]; exact g1.xx e2 rfl rfl) (kp := fun j => KP (cdM h m na p np j) ((cdL h m na p np).getD j 0)) (by rw [cL, cM]) t2 Q hQ
end KMAK
