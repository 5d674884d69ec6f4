theorem fL_pos {P : Nat → Prop} : ∀ n i, i < (fL P n).length → cN P ((fL P n).getD i 0) = i := by
  intro n
  induction n with
  | zero => intro i hi; exact absurd hi (Nat.not_lt_zero _)
  | succ n ih =>
    intro i hi
    by_cases c : P n
    · rw [fL_y c, List.length_append] at hi
      rw [fL_y c]
      by_cases w : i < (fL P n).length
      · rw [gD_l w]
        exact ih i w
      · have hi2 : i < (fL P n).length + 1 := hi
        obtain rfl : i = (fL P n).length := by omega
        rw [gD_r, fL_len]
    · rw [fL_n c] at hi ⊢
      exact ih i hi
section LOOR
variable {x y b0 s0 np na nm nr ne : Nat} {g : Nat → Nat → Nat} {m : Nat → Nat} {h h1 V R : Hp}
theorem KEo_d {P : Prop} {na1 p : Nat} {ro : Option Nat} {L : List Nat} {k : Nat} (hK : KEo h m y np na p ro L k P) (e : ∀ k, isRq k = true → 142 < k ∧ k ≠ 201 → aI h1 k (m k) = aI h k (m k)) (ev : vaF h1 m y np na1 L p k = vaF h m y np na L p k) : KEo h1 m y np na1 p ro L k P := by
  refine ⟨hK.1, fun r er => ?_⟩
  obtain ⟨r12, C, T, rk, rv⟩ := hK.2 r er
  refine ⟨r12, C, T, ?_, by rw [ev]; exact rv⟩
  unfold RKq tTT at rk ⊢
  rw [e 151 rfl (by decide), e 153 rfl (by decide), e 154 rfl (by decide), e 155 rfl (by decide), e 156 rfl (by decide), e 157 rfl (by decide), e 158 rfl (by decide)]
  exact rk
theorem jvN_c {L : List Nat} (e : ∀ i, i < L.length → aI h1 135 (m 135) (L.getD i 0) = aI h 135 (m 135) (L.getD i 0)) (r : Nat) : jvN (mgF h1 m L) L.length r = jvN (mgF h m L) L.length r := by
  unfold jvN
  congr 1
  funext v
  refine propext ⟨fun w => JV.cg (fun i hi => ?_) w, fun w => JV.cg (fun i hi => ?_) w⟩
  · show mcN h m (L.getD i 0) = mcN h1 m (L.getD i 0)
    unfold mcN
    rw [e i hi]
  · show mcN h1 m (L.getD i 0) = mcN h m (L.getD i 0)
    unfold mcN
    rw [e i hi]
theorem loopR_e (hJ : JA x y b0 s0 np na nm nr ne g m h) {p : Nat} (hpp : p < np) (hm0 : p = m 0) (hlv : ¬ aI h 120 (m 120) p = 0) (hu : ¬ aI h 121 (m 121) p = nI p) (hno : ∀ i, i < na → ¬ aI h 132 (m 132) i = nI p) {KP : List Nat → Nat → Prop} {ro : Option Nat} (hK : KEq h m y np na p ro KP) {dd : Nat} (hd : dd < 3) (d0 : ro = none → dd = 0) (d1 : ∀ r, ro = some r → aI h 152 (m 152) r = nI (dd + 1)) {N : Nat} (hN : (cdL h m na p np).length = N) {kp : Nat → Prop} (hkp : kp = fun j => KP (cdM h m na p np j) ((cdL h m na p np).getD j 0)) (room : na + cN kp N ≤ 160) (hinto : ∀ j, j < N → ∀ b, b ∈ cdM h m na p np j → aI h 139 (m 139) b = -1) {v : Nat → Int32} (hvv : v = fun j => nI (jvN (mgF h m (cdM h m na p np j)) (cdM h m na p np j).length (rkN (cdM h m na p np j).length dd))) {R0 : Hp} (e0 : eqT (sI (viH g x m y p kp v (cdM h m na p np) (fun j => (cdL h m na p np).getD j 0) na h N) 648 (g 1 p) 1) R0) (a0 : AR m R0 h) (c0 : fI R0 1410 y = nI na) {m2 : Nat → Nat} (hm2 : ∀ k, ¬ k = 0 → m2 k = m k) (w : Int32) (Q : Int32 → Hp → Prop) (hQ : ∀ g2 R', JA x y b0 s0 np (na + cN kp N) nm nr ne g2 m2 R' → Q w R') : l_X11_make_124 (some y) (nI p) (onI ro) w 0 R0 Q := by
  have hW := hJ.2.2.2.2.2.1
  have hbd := hJ.2.2.1.2
  have cdf := fun (j : Nat) (hj : j < N) => cdM_f (u := p) hW (show j < (cdL h m na p np).length by omega)
  have vi := vi_all hJ hpp hm0 hlv hu hno (N := N) (C := fun j => (cdL h m na p np).getD j 0) (M := cdM h m na p np) (kp := kp) (v := v) (fun j hj => (cdf j hj).1) (fun j hj => ⟨rfl, List.length_pos_iff.mp (cdf j hj).2.1⟩) (fun i j hi hj e => by
    have p1 := fL_pos (P := gnP h m na p np) 128 i (by rw [← hN] at hi; exact hi)
    have p2 := fL_pos (P := gnP h m na p np) 128 j (by rw [← hN] at hj; exact hj)
    have e' : (fL (gnP h m na p np) 128).getD i 0 = (fL (gnP h m na p np) 128).getD j 0 := e
    rw [e'] at p1
    exact p1.symm.trans p2) room (fun j hj => by
    obtain ⟨f1, f2, f3, f4⟩ := cdf j hj
    have le := jvN_le (B := 99) (mgF_le (na := na) hW.w_muc f3) (r := rkN (cdM h m na p np j).length dd) (by
      unfold rkN
      split
      · omega
      · split <;> omega)
    rw [hvv]
    show 0 ≤ (nI (jvN (mgF h m (cdM h m na p np j)) (cdM h m na p np j).length (rkN (cdM h m na p np j).length dd))).toInt ∧ (nI (jvN (mgF h m (cdM h m na p np j)) (cdM h m na p np j).length (rkN (cdM h m na p np j).length dd))).toInt ≤ 99
    rw [nI_toInt (by omega)]
    omega) hinto
  have hX : ∀ j, viH g x m y p kp v (cdM h m na p np) (fun j => (cdL h m na p np).getD j 0) na h (j + 1) = rfT m y p (kp j) (v j) (cdM h m na p np j) ((cdL h m na p np).getD j 0) (na + cN kp j) (clT g x (g 1 p) (kp j) (v j) (cdM h m na p np j) (na + cN kp j) (viH g x m y p kp v (cdM h m na p np) (fun j => (cdL h m na p np).getD j 0) na h j)) := fun _ => rfl
  have h0 : viH g x m y p kp v (cdM h m na p np) (fun j => (cdL h m na p np).getD j 0) na h 0 = h := rfl
  generalize viH g x m y p kp v (cdM h m na p np) (fun j => (cdL h m na p np).getD j 0) na h = VV at *
  have cNN : cN (gnP h m na p np) 128 = N := by
    rw [← hN, ← fL_len]
    rfl
  obtain ⟨gN, hJN, gaN, -⟩ := vi N (Nat.le_refl _)
  have hAN := hJN.1
  unfold JM at hAN
  have hCN := hJN.2.2.1.1
  have eg1 : gN 1 = g 1 := gaN 1 (by decide) (by decide)
  have kiN : ∀ R : Hp, eqT (sI (VV N) 648 (g 1 p) 1) R → JM y m R ∧ fI R 1408 y = fI h 1408 y ∧ fI R 1409 y = nI np ∧ fI R 1411 y = nI nm ∧ fI R 1412 y = nI nr ∧ fI R 1413 y = nI ne := by
    intro R e
    have f : ∀ f, vcF f = false → f ≠ 648 → fI R f = fI (VV N) f := fun f q1 q2 => by
      rw [e.2.2.2.2.2.1 f q1, fI_sI_n _ _ _ _ _ q2]
    have e3 : kd R = kd (VV N) := e.2.2.1
    have e4 : ln R = ln (VV N) := e.2.2.2.1
    have e5 : fR R = fR (VV N) := e.2.2.2.2.1
    have now : fI (VV N) 1408 y = fI h 1408 y := by
      obtain ⟨_, _, _, _, _, _, _, _, _, _, I7⟩ := vi N (Nat.le_refl _)
      exact I7
    refine ⟨?_, ?_, ?_, ?_, ?_, ?_⟩
    · unfold JM
      simp only [e3, e4, e5]
      exact hJN.1
    · rw [f 1408 rfl (by decide)]
      exact now
    · rw [f 1409 rfl (by decide)]
      exact hCN.2.2.2.2.2.1
    · rw [f 1411 rfl (by decide)]
      exact hCN.2.2.2.2.2.2.2.1
    · rw [f 1412 rfl (by decide)]
      exact hCN.2.2.2.2.2.2.2.2.1
    · rw [f 1413 rfl (by decide)]
      exact hCN.2.2.2.2.2.2.2.2.2.1
  unfold l_X11_make_124
  refine Lo.count 128 (fun k st R => eqT (sI (VV N) 648 (g 1 p) 1) R ∧ AR m R (VV (cN (gnP h m na p np) k)) ∧ fI R 1410 y = nI (na + cN kp (cN (gnP h m na p np) k)) ∧ st = nI k) ?_ 0 (Nat.zero_le _) _ _ ⟨e0, by rw [show cN (gnP h m na p np) 0 = 0 from rfl, h0]; exact a0, c0, rfl⟩
  rintro k st R hk ⟨eT, aR, cR, rfl⟩ K1 hK1
  obtain ⟨jm, n1408, n1409, n1411, n1412, n1413⟩ := kiN R eT
  have hjN : cN (gnP h m na p np) k ≤ N := by
    rw [← cNN]
    exact cN_to hk
  have viJ := vi _ hjN
  by_cases e : k < 128
  rotate_left
  · obtain rfl : k = 128 := by omega
    rw [cNN] at aR cR
    have hA := jm
    unfold JM at hA
    have cp := cnF hpp (show np ≤ 24 by omega) (by decide)
    have c24 := cnF (show p < 24 by omega) (Nat.le_refl 24) (by decide)
    unfold b_X11_make_124
    simp (config := {decide := true}) only [gI_e, gR_e, pI_e, pZ_e, pR_e, ldI_e, ldZ_e, ldL_e, ldR_e, stI_e, stZ_e, stL_e, stR_e, alN_e, nwA_e, nwO_e, dvI_e, rmI_e, oV_e, oN_e, lt_e, rZ_e, br_T, br_F, fR_sI, aI_sI, aL_sI, aR_sI, kd_sI, ln_sI, hn_sI, hm_sI, fI_sI_n, fI_sR, aI_sR, aL_sR, aR_sR, kd_sR, ln_sR, hn_sR, hm_sR, fR_sR_n, fI_tI, fR_tI, aL_tI, aR_tI, kd_tI, ln_tI, hn_tI, hm_tI, aI_tI_n, fI_tL, fR_tL, aI_tL, aR_tL, kd_tL, ln_tL, hn_tL, hm_tL, aL_tL_n, fI_tR, fR_tR, aI_tR, aL_tR, kd_tR, ln_tR, hn_tR, hm_tR, aR_tR_n, hn_nw, hm_nw, rc400, rc403, rc404, rc405, rc407, rc409, rc420, rc440, bI_0, bI_1, bI_T, bI_F, iF_T, iF_F, br_not, le_nlt, not_true_eq_false, not_false_eq_true, and_self, and_true, true_and, and_false, false_and, or_true, true_or, or_false, false_or, ne_eq, reduceCtorEq, Nat.reduceLeDiff, Nat.reduceEqDiff, Nat.reduceLT, Nat.reduceAdd, Nat.reduceSub, Nat.reduceMul, Int32.reduceLT, Int32.reduceLE, Int32.reduceToNatClampNeg, Int32.reduceAdd, Int32.reduceSub, implies_true, forall_const, isIn_e, bit_e, lits, hA, c24]
    refine hQ gN _ ?_
    have hW2 := JA.made hJN hpp hm0 (by
      obtain ⟨_, _, _, _, _, _, _, I4, _⟩ := viJ
      rw [cNN] at I4
      rw [I4 120 rfl (Or.inl (by decide))]
      exact hlv) hm2
    rw [eg1] at hW2
    refine JA.cc hW2 eT.1 eT.2.1 eT.2.2.1 eT.2.2.2.1 eT.2.2.2.2.1 ?_ ?_ ?_ ?_ eT.2.2.2.2.2.2.2.1 eT.2.2.2.2.2.2.2.2
    · intro f q1 q2
      refine eT.2.2.2.2.2.1 f ?_
      unfold vcF
      rw [q1]
      simp
      exact q2
    · show fI R 1410 y = fI (sI (VV N) 648 (g 1 p) 1) 1410 y
      rw [fI_sI_n _ _ _ _ _ (by decide), cR]
      exact hCN.2.2.2.2.2.2.1.symm
    · intro k2 q1 q2
      rw [aI_tI_n _ _ _ _ _ _ (by omega), aI_tI_n _ _ _ _ _ _ (by omega)]
      refine eT.2.2.2.2.2.2.1 k2 ?_
      unfold vcK
      rw [q2]
      simp
      omega
    · intro k2 q
      have q2 : ¬ k2 = 0 := fun z => by rw [z] at q; exact absurd q (by decide)
      rw [hm2 k2 q2]
      exact AR_tI (B := sI (VV N) 648 (g 1 p) 1) aR 200 p 1 k2 q
  obtain ⟨g1, hJ1, ga, gb, I1, I2, I3, I4, I5, I6, I7⟩ := id viJ
  have hW1 := hJ1.2.2.2.2.2.1
  have hbd1 := hJ1.2.2.1.2
  have hR : RJ y np (na + cN kp (cN (gnP h m na p np) k)) nm nr ne m R := ⟨jm, ⟨n1409, cR, n1411, n1412, n1413⟩, hbd1, hW1.cc aR (by rw [n1408, I7])⟩
  have gR : ∀ k', gaL R m (na + cN kp (cN (gnP h m na p np) k)) p k' np = gaL h m na p k' np := fun k' => by
    rw [gaL_c aR, I1]
  have e121 : aI R 121 (m 121) = aI h 121 (m 121) := by
    rw [aR 121 rfl]
    exact I4 121 rfl (Or.inl (by decide))
  have hL : ∀ i, i < (gaL h m na p k np).length → (gaL h m na p k np).getD i 0 < na := fun i hi => (ga_m hW e (gD_mem hi)).1
  -- a group that is there is the next one
  have nx : gnP h m na p np k → cN (gnP h m na p np) k < N ∧ (cdL h m na p np).getD (cN (gnP h m na p np) k) 0 = k := by
    intro z
    have f := fL_at (P := gnP h m na p np) z (127 - k)
    rw [show k + 1 + (127 - k) = 128 by omega] at f
    refine ⟨?_, f.1⟩
    have f2 := f.2
    rw [fL_len, cNN] at f2
    exact f2
  have t := turnR_e hR hpp (k := k) (ro := ro) (P := KP (gaL h m na p k np) k) (dd := dd) (Q := Q) (K := K1) (l3 := w) (Or.inl (by rw [e121, ← hm0]; exact hu)) e (fun z => by
    rw [gR]
    refine KEo_d (hK.o (gaL h m na p k np) k) (fun k2 q1 q2 => by rw [aR k2 q1]; exact I4 k2 q1 (Or.inr q2)) ?_
    rw [vaF_c aR (by rw [n1408, I7])]
    exact vaF_V hJ viJ hL k) hd d0 (fun r er => by
    rw [aR 152 rfl, I4 152 rfl (Or.inr (by decide))]
    exact d1 r er) (fun z q => by
    rw [gR] at z
    obtain ⟨x1, x2⟩ := nx z
    have kj : kp (cN (gnP h m na p np) k) := by
      rw [hkp]
      show KP (gaL h m na p ((cdL h m na p np).getD (cN (gnP h m na p np) k) 0) np) ((cdL h m na p np).getD (cN (gnP h m na p np) k) 0)
      rw [x2]
      exact q
    have c1 := cN_y kj
    have c2 := cN_to (P := kp) (show cN (gnP h m na p np) k + 1 ≤ N by omega)
    omega)
  rw [gR] at t
  have jvE : jvN (mgF R m (gaL h m na p k np)) (gaL h m na p k np).length (rkN (gaL h m na p k np).length dd) = jvN (mgF h m (gaL h m na p k np)) (gaL h m na p k np).length (rkN (gaL h m na p k np).length dd) := jvN_c (fun i hi => by rw [aR 135 rfl]; exact I5 _ (hL i hi)) _
  rw [jvE] at t
  refine t (fun z R2 eS => hK1 _ _ e ⟨eT.tr eS.t, ?_, ?_, rfl⟩) (fun z R2 eS => ?_)
  · rw [cN_n (P := gnP h m na p np) (fun q => q z)]
    intro k2 q
    rw [eS.2.2.2.2.2.2.1 k2 (by unfold isRq at q; unfold isSk; simp at q ⊢; omega)]
    exact aR k2 q
  · rw [cN_n (P := gnP h m na p np) (fun q => q z), eS.2.2.2.2.2.1 1410 rfl]
    exact cR
  · obtain ⟨x1, x2⟩ := nx z
    have hXj := hX (cN (gnP h m na p np) k)
    have kj : kp (cN (gnP h m na p np) k) = KP (gaL h m na p k np) k := by
      rw [hkp]
      show KP (gaL h m na p ((cdL h m na p np).getD (cN (gnP h m na p np) k) 0) np) ((cdL h m na p np).getD (cN (gnP h m na p np) k) 0) = _
      rw [x2]
    have Mj : cdM h m na p np (cN (gnP h m na p np) k) = gaL h m na p k np := by
      unfold cdM
      rw [x2]
    have vj : v (cN (gnP h m na p np) k) = nI (jvN (mgF h m (gaL h m na p k np)) (gaL h m na p k np).length (rkN (gaL h m na p k np).length dd)) := by
      rw [hvv]
      show nI (jvN (mgF h m (cdM h m na p np (cN (gnP h m na p np) k))) (cdM h m na p np (cN (gnP h m na p np) k)).length (rkN (cdM h m na p np (cN (gnP h m na p np) k)).length dd)) = _
      rw [Mj]
    rw [kj, Mj, vj, x2] at hXj
    refine hK1 _ _ e ⟨(eT.tr eS.t).tr (eqX_t rf_X), ?_, ?_, rfl⟩
    · rw [cN_y (P := gnP h m na p np) z, hXj]
      have z1 := hJ1.2.2.2.2.2.2.2.1
      have eU := eqU_cl (g := g) (x := x) (pl := g 1 p) z1 (KP (gaL h m na p k np) k) (nI (jvN (mgF h m (gaL h m na p k np)) (gaL h m na p k np).length (rkN (gaL h m na p k np).length dd))) (gaL h m na p k np) (na + cN kp (cN (gnP h m na p np) k))
      have hA1 := hJ1.1
      unfold JM at hA1
      refine AR_rf (fun k2 q => ?_) ?_ _ _ _ _ _ _
      · rw [eS.2.2.2.2.2.2.1 k2 (by unfold isRq at q; unfold isSk; simp at q ⊢; omega), aR k2 q]
        exact ((eU (m k2) (hJ1.1.rk q)).2.2.2.2.1 k2).symm
      · rw [eS.2.2.2.2.2.1 1408 rfl, n1408, ← I7]
        exact ((eU y (by simp only [hA1]; decide)).2.2.1 1408 (by decide)).symm
    · rw [cN_y (P := gnP h m na p np) z]
      unfold rfT
      by_cases c : KP (gaL h m na p k np) k
      · have c' : kp (cN (gnP h m na p np) k) := by rw [kj]; exact c
        rw [iF_y c, cN_y c', (lkR_o 139 (m 139) _ _ _ _).2.2.1]
        exact fI_s _ _ _ _
      · have c' : ¬ kp (cN (gnP h m na p np) k) := by rw [kj]; exact c
        rw [iF_n c, cN_n c', (lkR_o 140 (m 140) _ _ _ _).2.2.1, eS.2.2.2.2.2.1 1410 rfl]
        exact cR
end LOOR
