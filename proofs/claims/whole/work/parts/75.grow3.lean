section GRM3
variable {x y b0 s0 np na nm nr ne : Nat} {g : Nat → Nat → Nat} {m : Nat → Nat} {h : Hp}
theorem gaL_nd (hW : JW y np na nm nr ne m h) (u k : Nat) : ∀ q, q ≤ 1000 → ∀ i j, i < (gaL h m na u k q).length → j < (gaL h m na u k q).length → (gaL h m na u k q).getD i 0 = (gaL h m na u k q).getD j 0 → i = j := by
  intro q
  induction q with
  | zero => intro _ i j hi; exact absurd hi (Nat.not_lt_zero _)
  | succ q ih =>
    intro hq i j
    have e : gaL h m na u k (q + 1) = gaL h m na u k q ++ (iF (aI h 121 (m 121) q = nI u) (fL (gaP h m k q) na) []) := rfl
    rw [e]
    by_cases c : aI h 121 (m 121) q = nI u
    rotate_left
    · rw [iF_n c, List.append_nil]
      exact ih (by omega) i j
    rw [iF_y c, List.length_append, gD_ap, gD_ap]
    have f1 := fL_1 (gaP_one hW k q)
    intro hi hj
    -- those of the places below are others
    have ne2 : ∀ i, i < (gaL h m na u k q).length → ∀ j, j < (fL (gaP h m k q) na).length → ¬ (gaL h m na u k q).getD i 0 = (fL (gaP h m k q) na).getD j 0 := by
      intro i hi j hj w
      obtain ⟨q', w1, w2, w3, w4⟩ := gaL_m.mp (gD_mem hi)
      have w5 := (fL_lt hj).2
      rw [← w] at w5
      have := (nI_eq (by omega) (by omega)).mp (w4.1.symm.trans w5.1)
      omega
    by_cases a : i < (gaL h m na u k q).length
    · rw [if_pos a]
      by_cases b : j < (gaL h m na u k q).length
      · rw [if_pos b]
        exact ih (by omega) i j a b
      · rw [if_neg b]
        intro w
        exact absurd w (ne2 i a _ (by omega))
    · rw [if_neg a]
      by_cases b : j < (gaL h m na u k q).length
      · rw [if_pos b]
        intro w
        exact absurd w.symm (ne2 j b _ (by omega))
      · intro _
        omega
/-- both halves with one more merged book -/
theorem growM_JA {E F : Hp} {N A p k b1 s1 : Nat} {c d v : Int32} (hJE : JA x y b1 s1 np na nm nr ne g m E) (hna : na < 160) (hpp : p < np) (hlv : ¬ aI E 120 (m 120) p = 0) (hmd : aI E 200 (m 200) p = 1 ∨ p = m 0) (hc : vp_in c 16) (hd : vp_in d 8) (hv : 0 ≤ v.toInt ∧ v.toInt ≤ 99) (hone : ∀ i, i < na → aI E 132 (m 132) i = nI p → aI E 133 (m 133) i = c → aI E 134 (m 134) i = d → ¬ aI E 141 (m 141) i = -1) (hL0 : ¬ gaL E m na p k np = []) (hL1 : ∀ b, b ∈ gaL E m na p k np → aI E 139 (m 139) b = -1)
    (k1 : kd E N = 1) (k2 : kd E A = 420) (k3 : ln E A = (gaL E m na p k np).length) (k4 : ∀ i, i < (gaL E m na p k np).length → aR F 420 A i = some (g 3 ((gaL E m na p k np).getD i 0))) (f0 : fI E 0 N = nI na) (f1 : fR E 1 N = some (g 1 p)) (f2 : fI E 2 N = c) (f3 : fI E 3 N = d) (f4 : fI E 4 N = v) (f5 : fI E 5 N = fI E 1408 y) (f6 : fI E 6 N = 2) (f7 : fI E 7 N = acI (fun i => fI E 7 (g 3 ((gaL E m na p k np).getD i 0))) (gaL E m na p k np).length) (f8 : fR E 8 N = none) (f9 : fR E 9 N = some A) (f10 : fR E 10 N = none) (f11 : fI E 11 N = 0) (f12 : fI E 12 N = 0) (f13 : fI E 13 N = 0) (f14 : fI E 14 N = -1) (f15 : fR F 15 N = none) (f16 : fR E 16 N = none) (f17 : fI E 17 N = 0) (f18 : fI E 18 N = -1)
    (q1 : ∀ f, f ≠ 15 → fR F f = fR E f) (qi : ∀ b, b < na → fR F 15 (g 3 b) = iF (b ∈ gaL E m na p k np) (some N) (fR E 15 (g 3 b))) (q2 : aL F = aL E) (q3 : kd F = kd E) (q4 : ln F = ln E) (q5 : hn F = hn E) (q6 : hm F = hm E) (q7 : ∀ f, f ≠ 1293 → f ≠ 1410 → fI F f = fI E f) (q8 : ∀ k, k < 132 → aI F k = aI E k) (q9 : ∀ k, 142 < k → k ≠ 201 → aI F k = aI E k) (qa : ∀ k, k ≠ 440 → k ≠ 420 → aR F k = aR E k) (qb : ∀ a, ¬ a = A → aR F 420 a = aR E 420 a) (hA : ∀ a, a < na → ¬ aI E 120 (m 120) (aI E 132 (m 132) a).toNatClampNeg = 0 → ¬ g 10 a = A)
    (p1 : fI F 1293 x = nI (na + 1)) (p2 : fI F 1410 y = nI (na + 1)) (p5 : aR F 440 (g 0 2) = fun q => if q = na then some N else aR E 440 (g 0 2) q)
    (r0 : aI F 132 (m 132) = fun q => if q = na then nI p else aI E 132 (m 132) q) (r1 : aI F 133 (m 133) = fun q => if q = na then c else aI E 133 (m 133) q) (r2 : aI F 134 (m 134) = fun q => if q = na then d else aI E 134 (m 134) q) (r3 : aI F 135 (m 135) = fun q => if q = na then v else aI E 135 (m 135) q) (r4 : aI F 136 (m 136) = fun q => if q = na then fI E 1408 y else aI E 136 (m 136) q) (r5 : aI F 137 (m 137) = fun q => if q = na then 2 else aI E 137 (m 137) q) (r6 : aI F 138 (m 138) = fun q => if q = na then -1 else aI E 138 (m 138) q) (r7 : aI F 139 (m 139) = fun q => if q = na then -1 else iF (q ∈ gaL E m na p k np) (nI na) (aI E 139 (m 139) q)) (r8 : aI F 140 (m 140) = fun q => if q = na then -1 else aI E 140 (m 140) q) (r9 : aI F 141 (m 141) = fun q => if q = na then -1 else aI E 141 (m 141) q) (r10 : aI F 142 (m 142) = fun q => if q = na then -1 else aI E 142 (m 142) q) (r12 : aI F 201 (m 201) = fun q => if q = na then 0 else aI E 201 (m 201) q)
    (kz : ∀ a, hn E ≤ a → kd E a = 0) (rr1 : hn E ≤ b0 + 4 * (np + (na + 1) + nm + nr + ne)) (rr2 : hm E ≤ s0 + 400 * (np + (na + 1) + nm + nr + ne)) : JA x y b0 s0 np (na + 1) nm nr ne (upG (upG g 3 na N) 10 na A) m F := by
  have hGE := hJE.2.2.2.1
  have hDE := hJE.2.2.2.2.1
  have hWE := hJE.2.2.2.2.2.1
  have hEE := hJE.2.2.2.2.2.2.1
  have hbd := hJE.2.2.1.2
  have hcI := int_c hWE
  have nA : ∀ i, i < na → ¬ i = na := fun i hi => by omega
  have ep : (nI p).toNatClampNeg = p := nI_clamp (by omega)
  have hch := chn_int hWE hbd.2.1 hbd.2.2.1
  have hnd := gaL_nd hWE p k np (by omega)
  have hLm : ∀ b, b ∈ gaL E m na p k np → b < na ∧ aI E 139 (m 139) b = -1 ∧ aI E 121 (m 121) (aI E 132 (m 132) b).toNatClampNeg = nI p := by
    intro b hb
    obtain ⟨q', w1, w2, w3, w4⟩ := gaL_m.mp hb
    exact ⟨w3, hL1 b hb, by rw [w4.1, nI_clamp (by omega)]; exact w2⟩
  have ex : ∃ b, b ∈ gaL E m na p k np := by
    cases hq : gaL E m na p k np with
    | nil => exact absurd hq hL0
    | cons b l => exact ⟨b, List.mem_cons_self⟩
  have hJW := growM_JW (F := F) (L := gaL E m na p k np) hWE hbd.2.1 hna hpp hlv hmd hc hd hv hone ex hLm (q7 1408 (by decide) (by decide)) q8 q9 r0 r1 r2 r3 r4 r5 r6 r7 r8 r9 r10 r12
  have hu : ∀ x, x < na → (fun q => if q = na then -1 else iF (q ∈ gaL E m na p k np) (nI na) (aI E 139 (m 139) q)) x = iF (x ∈ gaL E m na p k np) (nI na) (aI E 139 (m 139) x) := fun x hx => if_neg (nA x hx)
  have hP1 := partsL_n (at2 := fun q => if q = na then nI p else aI E 132 (m 132) q) (into2 := fun q => if q = na then -1 else iF (q ∈ gaL E m na p k np) (nI na) (aI E 139 (m 139) q)) (k := k) (by omega) hbd.2.1 hWE (if_pos rfl) (if_pos rfl) (fun x hx => if_neg (nA x hx)) hL1 hu
  have hP2 : ∀ a, a < na → partsL (fun q => if q = na then nI p else aI E 132 (m 132) q) (fun q => if q = na then -1 else iF (q ∈ gaL E m na p k np) (nI na) (aI E 139 (m 139) q)) np (na + 1) a = partsL (aI E 132 (m 132)) (aI E 139 (m 139)) np na a := fun a ha => partsL_o (fun b hb => if_neg (nA b hb)) (if_pos rfl) hL1 hu ha (by omega)
  have hH1 := hbA_new (lev := aI E 120 (m 120)) (hea := aI E 124 (m 124)) (at_ := aI E 132 (m 132)) (at2 := fun q => if q = na then nI p else aI E 132 (m 132) q) (into2 := fun q => if q = na then -1 else iF (q ∈ gaL E m na p k np) (nI na) (aI E 139 (m 139) q)) hch (by omega) (fun x hx => if_neg (nA x hx)) (by simp only [if_true]; rw [ep]; exact hlv) (fun b hb => ⟨(hLm b hb).1, (hLm b hb).2.1⟩) hnd hu
  have hH2 : ∀ a, a < na → hbA (aI E 120 (m 120)) (aI E 124 (m 124)) (fun q => if q = na then nI p else aI E 132 (m 132) q) (fun q => if q = na then -1 else iF (q ∈ gaL E m na p k np) (nI na) (aI E 139 (m 139) q)) (na + 1) a = hbA (aI E 120 (m 120)) (aI E 124 (m 124)) (aI E 132 (m 132)) (aI E 139 (m 139)) na a := by
    intro a ha
    unfold hbA
    rw [acI, iF_n (fun w => by
      have := w.1
      simp only [if_true] at this
      rw [ep] at this
      exact hlv this), Int32.add_zero]
    apply acI_congr
    intro b hb
    have st : ∀ f q, q < na → (bel (fun q => if q = na then -1 else iF (q ∈ gaL E m na p k np) (nI na) (aI E 139 (m 139) q)) f q a ↔ bel (aI E 139 (m 139)) f q a) := by
      intro f
      induction f with
      | zero => intro q _; exact Iff.rfl
      | succ f ih =>
        intro q hq
        have e := hu q hq
        by_cases w : q ∈ gaL E m na p k np
        · rw [iF_y w] at e
          have o := hL1 q w
          rw [bel_u o]
          constructor
          · rintro (h | ⟨h1, h2⟩)
            · exact h
            · rw [e, nI_clamp (by omega)] at h2
              have := (bel_u (u := fun q => if q = na then -1 else iF (q ∈ gaL E m na p k np) (nI na) (aI E 139 (m 139) q)) (if_pos rfl) f).mp h2
              omega
          · exact Or.inl
        · rw [iF_n w] at e
          rcases hcI q hq with o | ⟨j, j1, j2⟩
          · rw [bel_u o, bel_u (e.trans o)]
          · show (_ ∨ _) ↔ (_ ∨ _)
            rw [e, j2, nI_clamp (by omega)]
            exact or_congr Iff.rfl (and_congr Iff.rfl (ih j j1))
    simp only [if_neg (nA b hb)]
    rw [propext (st 4 b hb)]
  refine ⟨?_, ?_, ?_, ?_, ?_, hJW, ?_, ?_⟩
  · unfold JM
    simp (config := {decide := true}) only [q1, q3, q4]
    exact hJE.1
  · unfold JS
    simp (config := {decide := true}) only [q1, q3, q4, upG_n]
    exact hJE.2.1
  · unfold JC
    simp (config := {decide := true}) only [q2, q3, q4, q5, q6, q7, q8, q9, qa, p1, p2, p5, r0, r1, r2, r3, r4, r5, r6, r7, r8, r9, r10, r12, hJE.2.2.1.1, if_true, and_self, true_and]
    omega
  · unfold JG
    simp (config := {decide := true}) only [q1, q2, q3, q4, q5, q6, q7, q8, q9, qa, p1, p2, p5, r0, r1, r2, r3, r4, r5, r6, r7, r8, r9, r10, r12, upG_n, upG_e, true_and]
    refine ⟨JG.pl_at hGE, JG.pl_kd hGE, JG.pl_no hGE, JG.py_at hGE, JG.py_kd hGE, JG.py_ln hGE, JG.py_in hGE, JG.sh_at hGE, JG.sh_kd hGE, JG.se_at hGE, JG.se_kd hGE, JG.se_ln hGE, JG.sh_in hGE, JG.se_in hGE, all_s (fun i hi => ?_) ?_, all_s (fun i hi => ?_) ?_, all_s (fun i hi => ?_) ?_, JG.mo_at hGE, JG.mo_kd hGE, JG.mo_no hGE, JG.mw_at hGE, JG.mw_kd hGE, JG.mw_ln hGE, JG.ru_at hGE, JG.ru_kd hGE, JG.ru_no hGE, JG.rl_at hGE, JG.rl_kd hGE, JG.pe_at hGE, JG.pe_kd hGE, JG.pe_no hGE⟩
    · rw [if_neg (nA i hi), if_neg (nA i hi)]; exact hGE.as_at i hi
    · rw [if_pos rfl, if_pos rfl]
    · rw [if_neg (nA i hi)]; exact hGE.as_kd i hi
    · rw [if_pos rfl]; exact k1
    · rw [if_neg (nA i hi)]; exact hGE.as_no i hi
    · rw [if_pos rfl]; exact f0
  · unfold JD
    simp (config := {decide := true}) only [q1, q2, q3, q4, q5, q6, q7, q8, q9, qa, p1, p2, p5, r0, r1, r2, r3, r4, r5, r6, r7, r8, r9, r10, r12, upG_n, true_and]
    refine ⟨JD.d_lev hDE, JD.d_und hDE, JD.d_way hDE, JD.d_ord hDE, JD.d_mad hDE, JD.d_tor hDE, JD.d_cho hDE, JD.d_yes hDE, JD.d_srt hDE, JD.d_siz hDE, ?_, JD.d_cel hDE, all_s (fun i hi => ?_) ?_, all_s (fun i hi => ?_) ?_, all_s (fun i hi => ?_) ?_, all_s (fun i hi => ?_) ?_, all_s (fun i hi => ?_) ?_, all_s (fun i hi => ?_) ?_, all_s (fun i hi => ?_) ?_, all_s (fun i hi => ?_) ?_, all_s (fun i hi => ?_) ?_, all_s (fun i hi => ?_) ?_, all_s (fun i hi => ?_) ?_, all_s (fun i hi => ?_) ?_, all_s (fun i hi => ?_) ?_, all_s (fun i hi => ?_) ?_, all_s (fun i hi => ?_) ?_, all_s (fun i hi => ?_) ?_, JD.d_mwh hDE, JD.d_mda hDE, JD.d_mpl hDE, JD.d_mwd hDE, JD.d_rle hDE, JD.d_rda hDE, JD.d_rst hDE, JD.d_ppl hDE, JD.d_pbo hDE, JD.d_cla hDE, JD.d_ref hDE⟩
    · intro i hi
      rw [hDE.d_sha i hi]
      by_cases e : aI E 128 (m 128) i = 2
      · rw [if_pos e, if_pos e, upG_o _ _ _ _ _ (vp_lt2 (hWE.w_sho i hi e))]
      · rw [if_neg e, if_neg e]
    · rw [upG_o _ _ _ _ _ hi, if_neg (nA i hi)]; exact hDE.d_at i hi
    · rw [upG_s, if_pos rfl, ep]; exact f1
    · rw [upG_o _ _ _ _ _ hi, if_neg (nA i hi)]; exact hDE.d_wha i hi
    · rw [upG_s, if_pos rfl]; exact f2
    · rw [upG_o _ _ _ _ _ hi, if_neg (nA i hi)]; exact hDE.d_who i hi
    · rw [upG_s, if_pos rfl]; exact f3
    · rw [upG_o _ _ _ _ _ hi, if_neg (nA i hi)]; exact hDE.d_muc i hi
    · rw [upG_s, if_pos rfl]; exact f4
    · rw [upG_o _ _ _ _ _ hi, if_neg (nA i hi)]; exact hDE.d_wri i hi
    · rw [upG_s, if_pos rfl]; exact f5
    · rw [upG_o _ _ _ _ _ hi, if_neg (nA i hi)]; exact hDE.d_kin i hi
    · rw [upG_s, if_pos rfl]; exact f6
    · rw [upG_o _ _ _ _ _ hi, if_neg (nA i hi)]; exact hDE.d_lat i hi
    · rw [upG_s, if_pos rfl]; exact f12
    · rw [upG_o _ _ _ _ _ hi]; exact hDE.d_gap i hi
    · rw [upG_s, f13]; exact (hWE.w_zgp na (Nat.le_refl _) (by omega)).symm
    · rw [upG_o _ _ _ _ _ hi, if_neg (nA i hi)]; exact hDE.d_gon i hi
    · rw [upG_s, if_pos rfl]; exact f14
    · rw [upG_o _ _ _ _ _ hi]; exact hDE.d_yie i hi
    · rw [upG_s, f17]; exact (hWE.w_zyi na (Nat.le_refl _) (by omega)).symm
    · rw [upG_o _ _ _ _ _ hi, if_neg (nA i hi)]; exact hDE.d_wor i hi
    · rw [upG_s, if_pos rfl]; exact f18
    · rw [upG_o _ _ _ _ _ hi, if_neg (nA i hi)]; exact hDE.d_mod i hi
    · rw [upG_s, if_pos rfl, dec_1]; exact f10
    · rw [upG_o _ _ _ _ _ hi, if_neg (nA i hi), qi i hi]
      by_cases w : i ∈ gaL E m na p k np
      · rw [iF_y w, iF_y w, dec_s _ (nI_m1 (by omega)), nI_clamp (by omega), upG_s]
      · rw [iF_n w, iF_n w, dec_up (n := na) ((hcI i hi).imp id (fun ⟨j, j1, j2⟩ => by rw [j2]; exact vp_in_nI j1 (by omega)))]
        exact hDE.d_int i hi
    · rw [upG_s, if_pos rfl, dec_1]; exact f15
    · rw [upG_o _ _ _ _ _ hi, if_neg (nA i hi)]; exact hDE.d_dro i hi
    · rw [upG_s, if_pos rfl, dec_1]; exact f16
    · rw [if_neg (nA i hi), upG_o _ _ _ _ _ hi]
      exact hDE.d_wds i hi
    · rw [if_pos rfl, ep]
      exact fun w => absurd w hlv
    · rw [upG_o _ _ _ _ _ hi, if_neg (nA i hi)]; exact hDE.d_wdn i hi
    · rw [upG_s]
      exact fun _ => f8
  · unfold JE
    simp (config := {decide := true}) only [q1, q2, q3, q4, q5, q6, q7, q8, q9, qa, p1, p2, p5, r0, r1, r2, r3, r4, r5, r6, r7, r8, r9, r10, r12, upG_n, true_and]
    refine ⟨JE.e_hs hEE, JE.e_be hEE, all_s (fun a ha => ?_) ?_, all_s (fun a ha => ?_) ?_, all_s (fun a ha => ?_) ?_, all_s (fun a ha => ?_) ?_, JE.e_ru hEE, JE.e_bs hEE, JE.e_bb hEE⟩
    · rw [upG_o _ _ _ _ _ ha, hH2 a ha]
      exact hEE.e_hb a ha
    · rw [upG_s, f7, hH1]
      exact acI_congr (fun i hi => hEE.e_hb _ (hLm _ (gD_mem hi)).1)
    · rw [if_neg (nA a ha), upG_o _ _ _ _ _ ha, upG_o _ _ _ _ _ ha, upG_n g 3 na N 10 (by decide), hP2 a ha]
      intro l0
      rw [qb _ (hA a ha l0)]
      obtain ⟨w1, w2, w3, w4⟩ := hEE.e_pa a ha l0
      refine ⟨w1, w2, w3, fun i hi => ?_⟩
      rw [w4 i hi, upG_o _ _ _ _ _ ?_]
      have hm := gD_mem hi
      unfold partsL at hm
      rw [List.mem_flatMap] at hm
      obtain ⟨_, _, h2⟩ := hm
      rw [List.mem_filter] at h2
      exact List.mem_range.mp h2.1
    · rw [if_pos rfl, upG_s, upG_s, hP1]
      intro _
      refine ⟨f9, k2, k3, fun i hi => ?_⟩
      rw [k4 i hi, upG_o _ _ _ _ _ (hLm _ (gD_mem hi)).1]
    · rw [if_neg (nA a ha), upG_o _ _ _ _ _ ha]
      exact hEE.e_pn a ha
    · rw [if_pos rfl, ep]
      exact fun w => absurd w hlv
    · rw [upG_o _ _ _ _ _ ha, if_neg (nA a ha)]
      exact hEE.e_lk a ha
    · rw [upG_s, f11, if_pos rfl, iF_y rfl]
  · refine ⟨?_, ?_, ?_⟩
    · rw [q3, q5]; exact kz
    · rw [q5]; exact rr1
    · rw [q6]; exact rr2
end GRM3
