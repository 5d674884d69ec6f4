section WRI2
variable {x y b0 s0 np na nm nr ne : Nat} {g : Nat → Nat → Nat} {m : Nat → Nat} {h : Hp}
/-- both halves with one more ask of a parish -/
theorem growW_JA {E F : Hp} {N A p z b1 s1 : Nat} {c d v K M T : Int32} {W : Nat → Int64} (hJE : JA x y b1 s1 np na nm nr ne g m E) (hna : na < 160) (hpp : p < np) (hlv : aI E 120 (m 120) p = 0) (hc : vp_in c 16) (hd : vp_in d 8) (hv : 0 ≤ v.toInt ∧ v.toInt ≤ 99) (hz : z ≤ 20) (hK : K = 0 ∧ M = -1 ∨ K = 1 ∧ vp_in M nm) (hT : T = 0 ∨ T = 1) (hone : ∀ i, i < na → aI E 132 (m 132) i = nI p → aI E 133 (m 133) i = c → aI E 134 (m 134) i = d → ¬ aI E 141 (m 141) i = -1)
    (k1 : kd E N = 1) (k2 : kd E A = 399) (k3 : ln E A = z) (k4 : ∀ j, j < z → aL E 399 A j = W j) (f0 : fI E 0 N = nI na) (f1 : fR E 1 N = some (g 1 p)) (f2 : fI E 2 N = c) (f3 : fI E 3 N = d) (f4 : fI E 4 N = v) (f5 : fI E 5 N = fI E 1408 y) (f6 : fI E 6 N = K) (f7 : fI E 7 N = aI E 124 (m 124) p) (f8 : fR E 8 N = some A) (f9 : fR E 9 N = none) (f10 : fR E 10 N = dec (g 4) M) (f11 : fI E 11 N = iF (M = -1) 0 (nI (cD W (fun j => aL E 313 (m 313) (60 * M.toNatClampNeg + j)) z (aI E 147 (m 147) M.toNatClampNeg).toNatClampNeg))) (f12 : fI E 12 N = T) (f13 : fI E 13 N = 0) (f14 : fI E 14 N = -1) (f15 : fR E 15 N = none) (f16 : fR E 16 N = none) (f17 : fI E 17 N = 0) (f18 : fI E 18 N = -1)
    (q1 : fR F = fR E) (q2 : ∀ k, k ≠ 312 → aL F k = aL E k) (q3 : kd F = kd E) (q4 : ln F = ln E) (q5 : hn F = hn E) (q6 : hm F = hm E) (q7 : ∀ f, f ≠ 1293 → f ≠ 1410 → fI F f = fI E f) (q8 : ∀ k, k < 132 → aI F k = aI E k) (q9 : ∀ k, 143 < k → k ≠ 201 → aI F k = aI E k) (qa : ∀ k, k ≠ 440 → aR F k = aR E k)
    (p1 : fI F 1293 x = nI (na + 1)) (p2 : fI F 1410 y = nI (na + 1)) (p3 : aL F 312 (m 312) = fun q => if 20 * na ≤ q ∧ q < 20 * na + z then W (q - 20 * na) else aL E 312 (m 312) q) (p5 : aR F 440 (g 0 2) = fun q => if q = na then some N else aR E 440 (g 0 2) q)
    (r0 : aI F 132 (m 132) = fun q => if q = na then nI p else aI E 132 (m 132) q) (r1 : aI F 133 (m 133) = fun q => if q = na then c else aI E 133 (m 133) q) (r2 : aI F 134 (m 134) = fun q => if q = na then d else aI E 134 (m 134) q) (r3 : aI F 135 (m 135) = fun q => if q = na then v else aI E 135 (m 135) q) (r4 : aI F 136 (m 136) = fun q => if q = na then fI E 1408 y else aI E 136 (m 136) q) (r5 : aI F 137 (m 137) = fun q => if q = na then K else aI E 137 (m 137) q) (r6 : aI F 138 (m 138) = fun q => if q = na then M else aI E 138 (m 138) q) (r7 : aI F 139 (m 139) = fun q => if q = na then -1 else aI E 139 (m 139) q) (r8 : aI F 140 (m 140) = fun q => if q = na then -1 else aI E 140 (m 140) q) (r9 : aI F 141 (m 141) = fun q => if q = na then -1 else aI E 141 (m 141) q) (r10 : aI F 142 (m 142) = fun q => if q = na then -1 else aI E 142 (m 142) q) (r11 : aI F 143 (m 143) = fun q => if q = na then nI z else aI E 143 (m 143) q) (r12 : aI F 201 (m 201) = fun q => if q = na then T else aI E 201 (m 201) q)
    (kz : ∀ a, hn E ≤ a → kd E a = 0) (rr1 : hn E ≤ b0 + 4 * (np + (na + 1) + nm + nr + ne)) (rr2 : hm E ≤ s0 + 400 * (np + (na + 1) + nm + nr + ne)) : JA x y b0 s0 np (na + 1) nm nr ne (upG (upG g 3 na N) 9 na A) m F := by
  have hGE := hJE.2.2.2.1
  have hDE := hJE.2.2.2.2.1
  have hWE := hJE.2.2.2.2.2.1
  have hEE := hJE.2.2.2.2.2.2.1
  have hbd := hJE.2.2.1.2
  have hcI := int_c hWE
  have nA : ∀ i, i < na → ¬ i = na := fun i hi => by omega
  have ep : (nI p).toNatClampNeg = p := nI_clamp (by omega)
  have hM : M = -1 ∨ vp_in M nm := hK.imp (fun e => e.2) (fun e => e.2)
  refine ⟨?_, ?_, ?_, ?_, ?_, ?_, ?_, ?_⟩
  · unfold JM
    simp (config := {decide := true}) only [q1, q2, q3, q4, q5, q6, q7, q8, q9, qa, p1, p2, p3, p5, r0, r1, r2, r3, r4, r5, r6, r7, r8, r9, r10, r11, r12]
    exact hJE.1
  · unfold JS
    simp (config := {decide := true}) only [q1, q2, q3, q4, q5, q6, q7, q8, q9, qa, p1, p2, p3, p5, r0, r1, r2, r3, r4, r5, r6, r7, r8, r9, r10, r11, r12, upG_n]
    exact hJE.2.1
  · unfold JC
    simp (config := {decide := true}) only [q1, q2, q3, q4, q5, q6, q7, q8, q9, qa, p1, p2, p3, p5, r0, r1, r2, r3, r4, r5, r6, r7, r8, r9, r10, r11, r12, hJE.2.2.1.1, if_true, and_self, true_and]
    omega
  · unfold JG
    simp (config := {decide := true}) only [q1, q2, q3, q4, q5, q6, q7, q8, q9, qa, p1, p2, p3, p5, r0, r1, r2, r3, r4, r5, r6, r7, r8, r9, r10, r11, r12, upG_n, upG_e, true_and]
    refine ⟨JG.pl_at hGE, JG.pl_kd hGE, JG.pl_no hGE, JG.py_at hGE, JG.py_kd hGE, JG.py_ln hGE, JG.py_in hGE, JG.sh_at hGE, JG.sh_kd hGE, JG.se_at hGE, JG.se_kd hGE, JG.se_ln hGE, JG.sh_in hGE, JG.se_in hGE, all_s (fun i hi => ?_) ?_, all_s (fun i hi => ?_) ?_, all_s (fun i hi => ?_) ?_, JG.mo_at hGE, JG.mo_kd hGE, JG.mo_no hGE, JG.mw_at hGE, JG.mw_kd hGE, JG.mw_ln hGE, JG.ru_at hGE, JG.ru_kd hGE, JG.ru_no hGE, JG.rl_at hGE, JG.rl_kd hGE, JG.pe_at hGE, JG.pe_kd hGE, JG.pe_no hGE⟩
    · rw [if_neg (nA i hi), if_neg (nA i hi)]; exact hGE.as_at i hi
    · rw [if_pos rfl, if_pos rfl]
    · rw [if_neg (nA i hi)]; exact hGE.as_kd i hi
    · rw [if_pos rfl]; exact k1
    · rw [if_neg (nA i hi)]; exact hGE.as_no i hi
    · rw [if_pos rfl]; exact f0
  · unfold JD
    simp (config := {decide := true}) only [q1, q2, q3, q4, q5, q6, q7, q8, q9, qa, p1, p2, p3, p5, r0, r1, r2, r3, r4, r5, r6, r7, r8, r9, r10, r11, r12, upG_n, true_and]
    refine ⟨JD.d_lev hDE, JD.d_und hDE, JD.d_way hDE, JD.d_ord hDE, JD.d_mad hDE, JD.d_tor hDE, JD.d_cho hDE, JD.d_yes hDE, JD.d_srt hDE, JD.d_siz hDE, ?_, JD.d_cel hDE, all_s (fun i hi => ?_) ?_, all_s (fun i hi => ?_) ?_, all_s (fun i hi => ?_) ?_, all_s (fun i hi => ?_) ?_, all_s (fun i hi => ?_) ?_, all_s (fun i hi => ?_) ?_, all_s (fun i hi => ?_) ?_, all_s (fun i hi => ?_) ?_, all_s (fun i hi => ?_) ?_, all_s (fun i hi => ?_) ?_, all_s (fun i hi => ?_) ?_, all_s (fun i hi => ?_) ?_, all_s (fun i hi => ?_) ?_, all_s (fun i hi => ?_) ?_, all_s (fun i hi => ?_) ?_, all_s (fun i hi => ?_) ?_, JD.d_mwh hDE, JD.d_mda hDE, JD.d_mpl hDE, JD.d_mwd hDE, JD.d_rle hDE, JD.d_rda hDE, JD.d_rst hDE, JD.d_ppl hDE, JD.d_pbo hDE, JD.d_cla hDE, JD.d_ref hDE⟩
    · intro i hi
      rw [hDE.d_sha i hi]
      by_cases e : aI E 128 (m 128) i = 2
      · rw [if_pos e, if_pos e, upG_o _ _ _ _ _ (vp_lt2 (hWE.w_sho i hi e))]
      · rw [if_neg e, if_neg e]
    · rw [upG_o _ _ _ _ _ hi, if_neg (nA i hi)]; exact hDE.d_at i hi
    · rw [upG_s, if_pos rfl, ep]; exact f1
    · rw [upG_o _ _ _ _ _ hi, if_neg (nA i hi)]; exact hDE.d_wha i hi
    · rw [upG_s, if_pos rfl]; exact f2
    · rw [upG_o _ _ _ _ _ hi, if_neg (nA i hi)]; exact hDE.d_who i hi
    · rw [upG_s, if_pos rfl]; exact f3
    · rw [upG_o _ _ _ _ _ hi, if_neg (nA i hi)]; exact hDE.d_muc i hi
    · rw [upG_s, if_pos rfl]; exact f4
    · rw [upG_o _ _ _ _ _ hi, if_neg (nA i hi)]; exact hDE.d_wri i hi
    · rw [upG_s, if_pos rfl]; exact f5
    · rw [upG_o _ _ _ _ _ hi, if_neg (nA i hi)]; exact hDE.d_kin i hi
    · rw [upG_s, if_pos rfl]; exact f6
    · rw [upG_o _ _ _ _ _ hi, if_neg (nA i hi)]; exact hDE.d_lat i hi
    · rw [upG_s, if_pos rfl]; exact f12
    · rw [upG_o _ _ _ _ _ hi]; exact hDE.d_gap i hi
    · rw [upG_s, f13]; exact (hWE.w_zgp na (Nat.le_refl _) (by omega)).symm
    · rw [upG_o _ _ _ _ _ hi, if_neg (nA i hi)]; exact hDE.d_gon i hi
    · rw [upG_s, if_pos rfl]; exact f14
    · rw [upG_o _ _ _ _ _ hi]; exact hDE.d_yie i hi
    · rw [upG_s, f17]; exact (hWE.w_zyi na (Nat.le_refl _) (by omega)).symm
    · rw [upG_o _ _ _ _ _ hi, if_neg (nA i hi)]; exact hDE.d_wor i hi
    · rw [upG_s, if_pos rfl]; exact f18
    · rw [upG_o _ _ _ _ _ hi, if_neg (nA i hi)]; exact hDE.d_mod i hi
    · rw [upG_s, if_pos rfl]; exact f10
    · rw [upG_o _ _ _ _ _ hi, if_neg (nA i hi), dec_up (n := na) ((hcI i hi).imp id (fun ⟨j, j1, j2⟩ => by rw [j2]; exact vp_in_nI j1 (by omega)))]; exact hDE.d_int i hi
    · rw [upG_s, if_pos rfl, dec_1]; exact f15
    · rw [upG_o _ _ _ _ _ hi, if_neg (nA i hi)]; exact hDE.d_dro i hi
    · rw [upG_s, if_pos rfl, dec_1]; exact f16
    · rw [if_neg (nA i hi), if_neg (nA i hi), upG_o _ _ _ _ _ hi, upG_o _ _ _ _ _ hi]
      intro l0
      obtain ⟨w1, w2, w3, w4⟩ := hDE.d_wds i hi l0
      refine ⟨w1, w2, w3, fun j hj => ?_⟩
      obtain ⟨n, hn, en⟩ := rngN (N := 20) (hWE.w_wdn i hi)
      have hj2 := hj
      rw [en, nI_clamp (by omega)] at hj2
      rw [if_neg (by omega)]
      exact w4 j hj
    · rw [if_pos rfl, if_pos rfl, upG_s, upG_s, ep, nI_clamp (by omega)]
      intro _
      refine ⟨f8, k2, k3, fun j hj => ?_⟩
      rw [if_pos (by omega), show 20 * na + j - 20 * na = j by omega]
      exact k4 j hj
    · rw [upG_o _ _ _ _ _ hi, if_neg (nA i hi)]; exact hDE.d_wdn i hi
    · rw [if_pos rfl, ep]
      exact fun w => absurd hlv w
  · exact growW_JW (W := W) hWE hbd.2.1 hna hpp hlv hc hd hv hz hK hT hone q2 (q7 1408 (by decide) (by decide)) q8 q9 r0 r1 r2 r3 r4 r5 r6 r7 r8 r9 r10 r11 r12
  · unfold JE
    simp (config := {decide := true}) only [q1, q2, q3, q4, q5, q6, q7, q8, q9, qa, p1, p2, p3, p5, r0, r1, r2, r3, r4, r5, r6, r7, r8, r9, r10, r11, r12, upG_n, true_and]
    have belO : ∀ b a, b < na → (bel (fun q => if q = na then -1 else aI E 139 (m 139) q) 4 b a ↔ bel (aI E 139 (m 139)) 4 b a) := fun b a hb => bel_cg hcI (by omega) (fun i hi => if_neg (nA i hi)) 4 b a hb
    have belN : ∀ a, (bel (fun q => if q = na then -1 else aI E 139 (m 139) q) 4 na a ↔ na = a) := fun a => bel_u (if_pos rfl) 4
    have prt : ∀ a, a < na → partsL (fun q => if q = na then nI p else aI E 132 (m 132) q) (fun q => if q = na then -1 else aI E 139 (m 139) q) np (na + 1) a = partsL (aI E 132 (m 132)) (aI E 139 (m 139)) np na a := fun a ha => partsL_a (fun b hb => if_neg (nA b hb)) (fun b hb => if_neg (nA b hb)) (if_pos rfl) (by omega)
    refine ⟨JE.e_hs hEE, JE.e_be hEE, all_s (fun a ha => ?_) ?_, all_s (fun a ha => ?_) ?_, all_s (fun a ha => ?_) ?_, all_s (fun a ha => ?_) ?_, JE.e_ru hEE, JE.e_bs hEE, JE.e_bb hEE⟩
    · rw [upG_o _ _ _ _ _ ha]
      have old := hEE.e_hb a ha
      unfold hbA at old ⊢
      rw [acI, acI_congr (f2 := fun b => iF (aI E 120 (m 120) (aI E 132 (m 132) b).toNatClampNeg = 0 ∧ bel (aI E 139 (m 139)) 4 b a) (aI E 124 (m 124) (aI E 132 (m 132) b).toNatClampNeg) 0) (fun b hb => by
        simp only [if_neg (nA b hb)]
        rw [propext (belO b a hb)]), ← old, iF_n (fun w => nA a ha ((belN a).mp w.2).symm), Int32.add_zero]
    · rw [upG_s, f7]
      unfold hbA
      rw [acI, acI_0 (fun b hb => iF_n (fun w => by
        have := bel_in hcI (by omega) 4 b na hb ((belO b na hb).mp w.2)
        omega) _ _)]
      simp only [if_true, ep, Int32.zero_add]
      rw [iF_y ⟨hlv, (belN na).mpr rfl⟩]
    · rw [if_neg (nA a ha), upG_o _ _ _ _ _ ha, prt a ha]
      intro l0
      obtain ⟨w1, w2, w3, w4⟩ := hEE.e_pa a ha l0
      refine ⟨w1, w2, w3, fun i hi => ?_⟩
      rw [w4 i hi, upG_o _ _ _ _ _ ?_]
      have e : (partsL (aI E 132 (m 132)) (aI E 139 (m 139)) np na a).getD i 0 = (partsL (aI E 132 (m 132)) (aI E 139 (m 139)) np na a)[i] := by
        rw [List.getD_eq_getElem?_getD, List.getElem?_eq_getElem hi]
        rfl
      rw [e]
      have hm := List.getElem_mem hi
      unfold partsL at hm
      rw [List.mem_flatMap] at hm
      obtain ⟨_, _, h2⟩ := hm
      rw [List.mem_filter] at h2
      exact List.mem_range.mp h2.1
    · rw [if_pos rfl, ep]
      exact fun w => absurd hlv w
    · rw [if_neg (nA a ha), upG_o _ _ _ _ _ ha]
      exact hEE.e_pn a ha
    · rw [upG_s]
      exact fun _ => f9
    · rw [upG_o _ _ _ _ _ ha, if_neg (nA a ha), if_neg (nA a ha)]
      rw [hEE.e_lk a ha]
      obtain ⟨n, hn, en⟩ := rngN (N := 20) (hWE.w_wdn a ha)
      unfold lcK
      rw [← cD_lcS, ← cD_lcS]
      congr 2
      refine cD_congr (fun i hi => ?_) (fun j _ => rfl)
      rw [en, nI_clamp (by omega)] at hi
      show _ = (if 20 * na ≤ 20 * a + i ∧ 20 * a + i < 20 * na + z then W (20 * a + i - 20 * na) else aL E 312 (m 312) (20 * a + i))
      rw [if_neg (by omega)]
    · rw [upG_s, f11, if_pos rfl, if_pos rfl, nI_clamp (by omega)]
      unfold lcK
      rw [← cD_lcS]
      congr 2
      refine cD_congr (fun i hi => ?_) (fun j _ => rfl)
      show _ = (if 20 * na ≤ 20 * na + i ∧ 20 * na + i < 20 * na + z then W (20 * na + i - 20 * na) else aL E 312 (m 312) (20 * na + i))
      rw [if_pos (by omega), show 20 * na + i - 20 * na = i by omega]
  · refine ⟨?_, ?_, ?_⟩
    · rw [q3, q5]; exact kz
    · rw [q5]; exact rr1
    · rw [q6]; exact rr2
end WRI2
