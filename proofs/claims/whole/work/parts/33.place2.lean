section PLAC
variable {x y b0 s0 np na nm nr ne : Nat} {g : Nat → Nat → Nat} {m : Nat → Nat} {h : Hp}
theorem grow_JA {E F : Hp} {N u l : Nat} {S : Nat → Prop} {b1 s1 : Nat} (d o v : Int32) (hJE : JA x y b1 s1 np na nm nr ne g m E) (hu : u < np) (hl : aI E 120 (m 120) u = nI (l + 1)) (l2 : l ≤ 2) (h24 : np < 24) (hd : 0 ≤ d.toInt ∧ d.toInt ≤ 99) (hv : 0 ≤ v.toInt ∧ v.toInt ≤ 999) (hv0 : l = 0 → 1 ≤ v.toInt) (hv1 : ¬ l = 0 → v = 0 ∧ o = -1)
    (k1 : kd E N = 6) (k2 : kd E (N + 1) = 104) (k3 : ln E (N + 1) = 16) (k4 : ∀ w, aI E 104 (N + 1) w = 0) (f0 : fI E 640 N = nI np) (f1 : fI E 641 N = nI l) (f2 : fR E 642 N = some (g 1 u)) (f3 : fI E 643 N = d) (f4 : fI E 644 N = o) (f5 : fR E 645 N = some (N + 1)) (f6 : fI E 646 N = v) (f7 : fI E 647 N = 0) (f8 : fI E 648 N = 0) (f9 : fI E 649 N = -1) (f10 : fR E 650 N = none)
    (oP : ∀ i, i < np → g 1 i ≠ N) (oY : ∀ i, i < np → g 7 i ≠ N + 1) (inS : ∀ i, i < np → (S (g 1 i) ↔ bel (aI E 121 (m 121)) 4 u i)) (nSN : ¬ S N)
    (q1 : fR F = fR E) (q2 : aL F = aL E) (q3 : kd F = kd E) (q4 : ln F = ln E) (q5 : hn F = hn E) (q6 : hm F = hm E) (q7 : ∀ f, f ≠ 1292 → f ≠ 647 → f ≠ 646 → f ≠ 1409 → fI F f = fI E f) (q8 : ∀ k, k ≠ 120 → k ≠ 121 → k ≠ 122 → k ≠ 123 → k ≠ 124 → k ≠ 125 → k ≠ 126 → aI F k = aI E k) (q9 : ∀ k, k ≠ 405 → aR F k = aR E k)
    (p1 : fI F 1292 x = nI (np + 1)) (p2 : fI F 1409 y = nI (np + 1)) (p3 : ∀ a, fI F 647 a = if a = g 1 u then fI E 647 (g 1 u) + 1 else fI E 647 a) (p4 : ∀ a, fI F 646 a = iF (S a) (fI E 646 a + v) (fI E 646 a)) (p5 : aR F 405 (g 0 0) = fun q => if q = np then some N else aR E 405 (g 0 0) q)
    (r0 : aI F 120 (m 120) = fun q => if q = np then nI l else aI E 120 (m 120) q) (r1 : aI F 121 (m 121) = fun q => if q = np then nI u else aI E 121 (m 121) q) (r2 : aI F 122 (m 122) = fun q => if q = np then d else aI E 122 (m 122) q) (r3 : aI F 123 (m 123) = fun q => if q = np then o else aI E 123 (m 123) q) (r4 : aI F 124 (m 124) = fun q => if q = np then v else aI E 124 (m 124) q) (r5 : aI F 125 (m 125) = fun q => if q = np then -1 else aI E 125 (m 125) q) (r6 : aI F 126 (m 126) = fun q => if q = np then -1 else aI E 126 (m 126) q)
    (kz : ∀ a, hn E ≤ a → kd E a = 0) (rr1 : hn E ≤ b0 + 4 * (np + 1 + na + nm + nr + ne)) (rr2 : hm E ≤ s0 + 400 * (np + 1 + na + nm + nr + ne)) : JA x y b0 s0 (np + 1) na nm nr ne (upG (upG g 1 np N) 7 np (N + 1)) m F := by
  have hGE := hJE.2.2.2.1
  have hDE := hJE.2.2.2.2.1
  have hWE := hJE.2.2.2.2.2.1
  have hEE := hJE.2.2.2.2.2.2.1
  have hbd := hJE.2.2.1.2
  have hc1 := und_c hWE (show np ≤ 24 by omega)
  have nPn : ∀ i, i < np → ¬ i = np := fun i hi => by omega
  have atP : ∀ i, i < na → ¬ (aI E 132 (m 132) i).toNatClampNeg = np := fun i hi => by have := vp_lt2 (hWE.w_at i hi); omega
  have n0p : ¬ 0 = np := by omega
  have m1n : ∀ k, k < 1000 → ¬ (-1 : Int32) = nI k := fun k hk z => nI_m1 (n := k) (by omega) z.symm
  refine ⟨?_, ?_, ?_, ?_, ?_, ?_, ?_, ?_⟩
  · unfold JM
    simp (config := {decide := true}) only [q1, q2, q3, q4, q5, q6, q7, q8, q9, p1, p2, p3, p4, p5, r0, r1, r2, r3, r4, r5, r6]
    exact hJE.1
  · unfold JS
    simp (config := {decide := true}) only [q1, q2, q3, q4, q5, q6, q7, q8, q9, p1, p2, p3, p4, p5, r0, r1, r2, r3, r4, r5, r6, upG_n]
    exact hJE.2.1
  · unfold JC
    simp (config := {decide := true}) only [q1, q2, q3, q4, q5, q6, q7, q8, q9, p1, p2, p3, p4, p5, r0, r1, r2, r3, r4, r5, r6, hJE.2.2.1.1, if_true, and_self, true_and]
    omega
  · unfold JG
    simp (config := {decide := true}) only [q1, q2, q3, q4, q5, q6, q7, q8, q9, p1, p2, p3, p4, p5, r0, r1, r2, r3, r4, r5, r6, upG_n, upG_e, true_and]
    refine ⟨all_s (fun i hi => ?_) ?_, all_s (fun i hi => ?_) ?_, all_s (fun i hi => ?_) ?_, all_s (fun i hi => ?_) ?_, all_s (fun i hi => ?_) ?_, all_s (fun i hi => ?_) ?_, ?_, JG.sh_at hGE, JG.sh_kd hGE, JG.se_at hGE, JG.se_kd hGE, JG.se_ln hGE, JG.sh_in hGE, JG.se_in hGE, JG.as_at hGE, JG.as_kd hGE, JG.as_no hGE, JG.mo_at hGE, JG.mo_kd hGE, JG.mo_no hGE, JG.mw_at hGE, JG.mw_kd hGE, JG.mw_ln hGE, JG.ru_at hGE, JG.ru_kd hGE, JG.ru_no hGE, JG.rl_at hGE, JG.rl_kd hGE, JG.pe_at hGE, JG.pe_kd hGE, JG.pe_no hGE⟩
    · rw [if_neg (nPn i hi), if_neg (nPn i hi)]; exact hGE.pl_at i hi
    · rw [if_pos rfl, if_pos rfl]
    · rw [if_neg (nPn i hi)]; exact hGE.pl_kd i hi
    · rw [if_pos rfl]; exact k1
    · rw [if_neg (nPn i hi)]; exact hGE.pl_no i hi
    · rw [if_pos rfl]; exact f0
    · rw [if_neg (nPn i hi), if_neg (nPn i hi)]; exact hGE.py_at i hi
    · rw [if_pos rfl, if_pos rfl]; exact f5
    · rw [if_neg (nPn i hi)]; exact hGE.py_kd i hi
    · rw [if_pos rfl]; exact k2
    · rw [if_neg (nPn i hi)]; exact hGE.py_ln i hi
    · rw [if_pos rfl]; exact k3
    · intro i j hi hj
      by_cases a : i = np
      · by_cases b : j = np
        · intro _; rw [a, b]
        · rw [if_pos a, if_neg b]
          intro e
          exact absurd e.symm (oY j (by omega))
      · by_cases b : j = np
        · rw [if_neg a, if_pos b]
          intro e
          exact absurd e (oY i (by omega))
        · rw [if_neg a, if_neg b]
          exact hGE.py_in i j (by omega) (by omega)
  · unfold JD
    simp (config := {decide := true}) only [q1, q2, q3, q4, q5, q6, q7, q8, q9, p1, p2, p3, p4, p5, r0, r1, r2, r3, r4, r5, r6, upG_n, true_and]
    refine ⟨all_s (fun i hi => ?_) ?_, all_s (fun i hi => ?_) ?_, all_s (fun i hi => ?_) ?_, all_s (fun i hi => ?_) ?_, all_s (fun i hi => ?_) ?_, all_s (fun i hi => ?_) ?_, all_s (fun i hi => ?_) ?_, ?_, JD.d_srt hDE, JD.d_siz hDE, JD.d_sha hDE, JD.d_cel hDE, ?_, JD.d_wha hDE, JD.d_who hDE, JD.d_muc hDE, JD.d_wri hDE, JD.d_kin hDE, JD.d_lat hDE, JD.d_gap hDE, JD.d_gon hDE, JD.d_yie hDE, JD.d_wor hDE, JD.d_mod hDE, JD.d_int hDE, ?_, ?_, ?_, JD.d_mwh hDE, JD.d_mda hDE, ?_, JD.d_mwd hDE, JD.d_rle hDE, JD.d_rda hDE, JD.d_rst hDE, ?_, JD.d_pbo hDE, JD.d_cla hDE, JD.d_ref hDE⟩
    · rw [upG_o _ _ _ _ _ hi, if_neg (nPn i hi)]; exact hDE.d_lev i hi
    · rw [upG_s, if_pos rfl]; exact f1
    · rw [upG_o _ _ _ _ _ hi, if_neg (nPn i hi), dec_up (n := np) ((hc1 i hi).imp id (fun ⟨j, j1, j2⟩ => by rw [j2]; exact vp_in_nI j1 (by omega)))]; exact hDE.d_und i hi
    · rw [upG_s, if_pos rfl, dec_s _ (nI_m1 (by omega)), nI_clamp (by omega), upG_o _ _ _ _ _ hu]; exact f2
    · rw [upG_o _ _ _ _ _ hi, if_neg (nPn i hi)]; exact hDE.d_way i hi
    · rw [upG_s, if_pos rfl]; exact f3
    · rw [upG_o _ _ _ _ _ hi, if_neg (nPn i hi), if_neg (nPn i hi)]; exact hDE.d_ord i hi
    · rw [upG_s, if_pos rfl, if_pos rfl, f4]
      by_cases z : l = 0
      · rw [if_pos (by rw [z]; rfl)]
      · rw [if_neg (by rw [← nI_0, nI_eq (by omega) (by omega)]; exact z), (hv1 z).2]
    · rw [upG_o _ _ _ _ _ hi]; exact hDE.d_mad i hi
    · rw [upG_s, f8]; exact (hWE.w_zma np (Nat.le_refl _) (by omega)).symm
    · rw [upG_o _ _ _ _ _ hi, if_neg (nPn i hi)]; exact hDE.d_tor i hi
    · rw [upG_s, if_pos rfl]; exact f9
    · rw [upG_o _ _ _ _ _ hi, if_neg (nPn i hi)]; exact hDE.d_cho i hi
    · rw [upG_s, if_pos rfl, dec_1]; exact f10
    · intro i w hi hw
      by_cases a : i = np
      · rw [a, upG_s, k4, hWE.w_zys (16 * np + w) (by omega) (by omega)]
      · rw [upG_o _ _ _ _ _ (by omega)]; exact hDE.d_yes i w (by omega) hw
    · intro i hi
      rw [upG_o _ _ _ _ _ (vp_lt2 (hWE.w_at i hi))]; exact hDE.d_at i hi
    · intro i hi
      rw [dec_up (hWE.w_dro i hi)]; exact hDE.d_dro i hi
    · intro i hi
      rw [if_neg (atP i hi)]; exact hDE.d_wds i hi
    · intro i hi
      rw [if_neg (atP i hi)]; exact hDE.d_wdn i hi
    · intro i hi
      rw [upG_o _ _ _ _ _ (vp_lt2 (hWE.w_mpl i hi))]; exact hDE.d_mpl i hi
    · intro i hi
      rw [upG_o _ _ _ _ _ (vp_lt2 (hWE.w_ppl i hi))]; exact hDE.d_ppl i hi
  · unfold JW
    simp (config := {decide := true}) only [q1, q2, q3, q4, q5, q6, q7, q8, q9, p1, p2, p3, p4, p5, r0, r1, r2, r3, r4, r5, r6, true_and]
    refine ⟨?_, ?_, ?_, all_s (fun i hi => ?_) ?_, ?_, all_s (fun i hi => ?_) ?_, all_s (fun i hi => ?_) ?_, all_s (fun i hi => ?_) ?_, all_s (fun i hi => ?_) ?_, all_s (fun i hi => ?_) ?_, ?_, all_s (fun i hi => ?_) ?_, all_s (fun i hi => ?_) ?_, JW.w_yes hWE, JW.w_hel hWE, JW.w_srt hWE, JW.w_siz hWE, JW.w_sho hWE, ?_, JW.w_wha hWE, JW.w_who hWE, JW.w_muc hWE, JW.w_wri hWE, JW.w_kin hWE, ?_, JW.w_mod hWE, JW.w_kmo hWE, ?_, ?_, JW.w_gon hWE, JW.w_lat hWE, JW.w_gap hWE, JW.w_yie hWE, JW.w_wor hWE, JW.w_wdn hWE, ?_, ?_, JW.w_one hWE, JW.w_mwh hWE, ?_, JW.w_mda hWE, JW.w_mn hWE, JW.w_rle hWE, JW.w_rda hWE, JW.w_rst hWE, ?_, JW.w_pbo hWE, JW.w_cla hWE, JW.w_csy hWE, JW.w_now hWE, ?_, all_s (fun i hi => ?_) ?_, ?_, JW.w_zgp hWE, JW.w_zyi hWE, JW.w_zwn hWE, ?_, ?_⟩
    · rw [if_neg n0p]; exact hWE.w_l0
    · rw [if_neg n0p]; exact hWE.w_u0
    · intro i hi0 hi
      by_cases a : i = np
      · refine ⟨u, by omega, by rw [if_pos a], ?_⟩
        rw [if_neg (nPn u hu), if_pos a, hl, n1]
      · obtain ⟨j, j1, j2, j3⟩ := hWE.w_und i hi0 (by omega)
        refine ⟨j, j1, by rw [if_neg a]; exact j2, ?_⟩
        rw [if_neg (by omega), if_neg a]
        exact j3
    · rw [if_neg (nPn i hi)]; exact hWE.w_lev i hi
    · rw [if_pos rfl, nI_toInt (by omega)]; omega
    · intro i h0 hi
      by_cases a : i = np
      · rw [if_pos a, nI_toInt (by omega)]; omega
      · rw [if_neg a]; exact hWE.w_lv3 i h0 (by omega)
    · rw [if_neg (nPn i hi)]; exact hWE.w_way i hi
    · rw [if_pos rfl]; exact hd
    · rw [if_neg (nPn i hi)]; exact hWE.w_hea i hi
    · rw [if_pos rfl]; exact hv
    · rw [if_neg (nPn i hi)]; exact hWE.w_tor i hi
    · rw [if_pos rfl]; decide
    · rw [if_neg (nPn i hi), if_neg (nPn i hi)]; exact hWE.w_tlv i hi
    · rw [if_pos rfl, if_pos rfl]; exact fun _ => rfl
    · rw [if_neg (nPn i hi)]; exact hWE.w_cho i hi
    · rw [if_pos rfl]; exact Or.inl rfl
    · rw [if_neg n0p]; exact hWE.w_c0
    · exact hWE.w_mad i hi
    · exact Or.inl (hWE.w_zma np (Nat.le_refl _) (by omega))
    · rw [if_neg (nPn i hi)]; exact hWE.w_mlv i hi
    · intro _; exact hWE.w_zma np (Nat.le_refl _) (by omega)
    · intro i hi; exact vp_le (hWE.w_at i hi) (by omega)
    · intro i hi
      rw [if_neg (atP i hi)]; exact hWE.w_klv i hi
    · intro i hi
      rw [if_neg (atP i hi)]; exact hWE.w_int i hi
    · intro i hi; exact (hWE.w_dro i hi).imp id (fun z => vp_le z (by omega))
    · intro i hi
      rw [if_neg (atP i hi)]; exact hWE.w_nsg i hi
    · intro i hi
      rw [if_neg (atP i hi)]; exact hWE.w_gto i hi
    · intro i hi; exact vp_le (hWE.w_mpl i hi) (by omega)
    · intro i hi; exact vp_le (hWE.w_ppl i hi) (by omega)
    · intro i hi
      rw [if_neg (atP i hi)]; exact hWE.w_amd i hi
    · rw [if_neg (nPn i hi), if_neg (nPn i hi)]; exact hWE.w_hl0 i hi
    · rw [if_pos rfl, if_pos rfl]
      intro z
      exact hv0 ((nI_eq (b := 0) (by omega) (by omega)).mp z)
    · intro i hi
      obtain ⟨b, b1, b2, b3⟩ := hWE.w_src i hi
      exact ⟨b, b1, by rw [if_neg (atP b b1)]; exact b2, b3⟩
    · intro i h1 h2; exact hWE.w_zma i (by omega) h2
    · intro i h1 h2; exact hWE.w_zys i (by omega) h2
  · unfold JE
    simp (config := {decide := true}) only [q1, q2, q3, q4, q5, q6, q7, q8, q9, p1, p2, p3, p4, p5, r0, r1, r2, r3, r4, r5, r6, upG_n, true_and]
    have belO : ∀ q p, q < np → (bel (fun q => if q = np then nI u else aI E 121 (m 121) q) 4 q p ↔ bel (aI E 121 (m 121)) 4 q p) := fun q p hq => bel_cg hc1 (by omega) (fun i hi => if_neg (nPn i hi)) 4 q p hq
    have hch := chn_und hWE (show np ≤ 24 by omega)
    have belN : ∀ p, (bel (fun q => if q = np then nI u else aI E 121 (m 121) q) 4 np p ↔ np = p ∨ bel (aI E 121 (m 121)) 4 u p) := by
      intro p
      have lu : 3 - lvN E m u ≤ 3 := by omega
      show (np = p ∨ (¬ (if np = np then nI u else aI E 121 (m 121) np) = -1 ∧ bel _ 3 (if np = np then nI u else aI E 121 (m 121) np).toNatClampNeg p)) ↔ _
      rw [if_pos rfl, nI_clamp (by omega), bel_cg hc1 (by omega) (fun i hi => if_neg (nPn i hi)) 3 u p hu, bel_fu hch 3 u p 3 4 hu lu lu (by omega)]
      exact ⟨fun w => w.imp id (fun z => z.2), fun w => w.imp id (fun z => ⟨nI_m1 (by omega), z⟩)⟩
    have lz : (nI l = 0) = (l = 0) := propext (nI_eq (b := 0) (by omega) (by omega))
    have prt : ∀ a, partsL (aI E 132 (m 132)) (aI E 139 (m 139)) (np + 1) na a = partsL (aI E 132 (m 132)) (aI E 139 (m 139)) np na a := fun a => partsL_s (by omega) (fun b hb => ⟨atN E m b, (at_e hWE hb).1, (at_e hWE hb).2⟩)
    have inj := hGE.pl_in (show np ≤ 24 by omega)
    refine ⟨all_s (fun i hi => ?_) ?_, all_s (fun i hi => ?_) ?_, ?_, ?_, ?_, JE.e_lk hEE, JE.e_ru hEE, JE.e_bs hEE, JE.e_bb hEE⟩
    · rw [upG_o _ _ _ _ _ hi]
      have old := hEE.e_hs i hi
      unfold hsP at old ⊢
      rw [acI, acI_congr (f2 := fun q => iF (aI E 120 (m 120) q = 0 ∧ bel (aI E 121 (m 121)) 4 q i) (aI E 124 (m 124) q) 0) (fun q hq => by
        simp only [if_neg (nPn q hq)]
        rw [propext (belO q i hq)]), ← old]
      simp only [if_true, lz, propext (belN i)]
      by_cases t : bel (aI E 121 (m 121)) 4 u i
      · rw [iF_y ((inS i hi).mpr t)]
        by_cases z : l = 0
        · rw [iF_y ⟨z, Or.inr t⟩]
        · rw [iF_n (fun w => z w.1), (hv1 z).1]
      · rw [iF_n (fun w => t ((inS i hi).mp w)), iF_n (fun w => w.2.elim (fun e => nPn i hi e.symm) t), Int32.add_zero]
    · rw [upG_s, iF_n nSN, f6]
      unfold hsP
      rw [acI, acI_0 (fun q hq => iF_n (fun w => by
        have := bel_in hc1 (by omega) 4 q np hq ((belO q np hq).mp w.2)
        omega) _ _)]
      simp only [if_true, lz, propext (belN np), Int32.zero_add]
      by_cases z : l = 0
      · rw [iF_y ⟨z, Or.inl trivial⟩]
      · rw [iF_n (fun w => z w.1), (hv1 z).1]
    · rw [upG_o _ _ _ _ _ hi]
      have old := hEE.e_be i hi
      rw [acI, acI_congr (f2 := fun q => iF (aI E 121 (m 121) q = nI i) 1 0) (fun q hq => by simp only [if_neg (nPn q hq)]), ← old, if_pos rfl]
      by_cases e : i = u
      · rw [if_pos (by rw [e]), iF_y (by rw [e]), e]
      · rw [if_neg (fun w => e (inj i u hi hu w)), iF_n (fun w => e ((nI_eq (by omega) (by omega)).mp w).symm), Int32.add_zero]
    · rw [upG_s, if_neg (fun w => oP u hu w.symm), f7, acI, acI_0 (fun q hq => by
        simp only [if_neg (nPn q hq)]
        refine iF_n (fun w => ?_) _ _
        rcases hc1 q hq with e | ⟨j, j1, j2⟩
        · rw [e] at w; exact m1n np (by omega) w
        · rw [j2] at w
          have := (nI_eq (by omega) (by omega)).mp w
          omega), if_pos rfl, iF_n (fun w => by
          have := (nI_eq (by omega) (by omega)).mp w
          omega), Int32.add_zero]
    · intro a ha
      have old := hEE.e_hb a ha
      unfold hbA at old ⊢
      rw [old]
      apply acI_congr
      intro b hb
      simp only [if_neg (atP b hb)]
    · intro a ha
      rw [if_neg (atP a ha), prt a]
      exact hEE.e_pa a ha
    · intro a ha
      rw [if_neg (atP a ha)]
      exact hEE.e_pn a ha
  · refine ⟨?_, ?_, ?_⟩
    · rw [q3, q5]; exact kz
    · rw [q5]; exact rr1
    · rw [q6]; exact rr2
end PLAC
