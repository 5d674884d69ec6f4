section DROP
variable {x y b0 s0 np na nm nr ne : Nat} {g : Nat → Nat → Nat} {m : Nat → Nat} {h F : Hp}
/-- both halves with a group dropped at a place -/
theorem dropM_JA (hJ : JA x y b0 s0 np na nm nr ne g m h) {p : Nat} (hpp : p < np) {L : List Nat} (q1 : ∀ f, f ≠ 16 → fR F f = fR h f) (qi : ∀ b, b < na → fR F 16 (g 3 b) = iF (b ∈ L) (some (g 1 p)) (fR h 16 (g 3 b))) (q2 : aL F = aL h) (q3 : kd F = kd h) (q4 : ln F = ln h) (q5 : hn F = hn h) (q6 : hm F = hm h) (q7 : fI F = fI h) (q8 : ∀ k, k ≠ 140 → aI F k = aI h k) (q9 : aR F = aR h) (r8 : aI F 140 (m 140) = fun q => iF (q ∈ L) (nI p) (aI h 140 (m 140) q)) : JA x y b0 s0 np na nm nr ne g m F := by
  have hD := hJ.2.2.2.2.1
  have hW := hJ.2.2.2.2.2.1
  have hbd := hJ.2.2.1.2
  refine ⟨?_, ?_, ?_, ?_, ?_, ?_, ?_, ?_⟩
  · unfold JM
    simp (config := {decide := true}) only [q1, q3, q4]
    exact hJ.1
  · unfold JS
    simp (config := {decide := true}) only [q1, q3, q4]
    exact hJ.2.1
  · unfold JC
    simp (config := {decide := true}) only [q7]
    exact hJ.2.2.1
  · unfold JG
    simp (config := {decide := true}) only [q1, q3, q4, q7, q8, q9]
    exact hJ.2.2.2.1
  · unfold JD
    simp (config := {decide := true}) only [q1, q2, q3, q4, q7, q8, q9]
    refine ⟨JD.d_lev hD, JD.d_und hD, JD.d_way hD, JD.d_ord hD, JD.d_mad hD, JD.d_tor hD, JD.d_cho hD, JD.d_yes hD, JD.d_srt hD, JD.d_siz hD, JD.d_sha hD, JD.d_cel hD, JD.d_at hD, JD.d_wha hD, JD.d_who hD, JD.d_muc hD, JD.d_wri hD, JD.d_kin hD, JD.d_lat hD, JD.d_gap hD, JD.d_gon hD, JD.d_yie hD, JD.d_wor hD, JD.d_mod hD, JD.d_int hD, ?_, JD.d_wds hD, JD.d_wdn hD, JD.d_mwh hD, JD.d_mda hD, JD.d_mpl hD, JD.d_mwd hD, JD.d_rle hD, JD.d_rda hD, JD.d_rst hD, JD.d_ppl hD, JD.d_pbo hD, JD.d_cla hD, JD.d_ref hD⟩
    intro i hi
    rw [qi i hi, r8]
    by_cases w : i ∈ L
    · rw [iF_y w]
      show _ = dec (g 1) (iF (i ∈ L) (nI p) _)
      rw [iF_y w, dec_s _ (nI_m1 (by omega)), nI_clamp (by omega)]
    · rw [iF_n w]
      show _ = dec (g 1) (iF (i ∈ L) (nI p) _)
      rw [iF_n w]
      exact hD.d_dro i hi
  · unfold JW
    simp (config := {decide := true}) only [q7, q8]
    refine ⟨JW.w_l0 hW, JW.w_u0 hW, JW.w_und hW, JW.w_lev hW, JW.w_lv3 hW, JW.w_way hW, JW.w_hea hW, JW.w_tor hW, JW.w_tlv hW, JW.w_cho hW, JW.w_c0 hW, JW.w_mad hW, JW.w_mlv hW, JW.w_yes hW, JW.w_hel hW, JW.w_srt hW, JW.w_siz hW, JW.w_sho hW, JW.w_at hW, JW.w_wha hW, JW.w_who hW, JW.w_muc hW, JW.w_wri hW, JW.w_kin hW, JW.w_klv hW, JW.w_mod hW, JW.w_kmo hW, JW.w_int hW, ?_, JW.w_gon hW, JW.w_lat hW, JW.w_gap hW, JW.w_yie hW, JW.w_wor hW, JW.w_wdn hW, JW.w_nsg hW, JW.w_gto hW, JW.w_one hW, JW.w_mwh hW, JW.w_mpl hW, JW.w_mda hW, JW.w_mn hW, JW.w_rle hW, JW.w_rda hW, JW.w_rst hW, JW.w_ppl hW, JW.w_pbo hW, JW.w_cla hW, JW.w_csy hW, JW.w_now hW, JW.w_amd hW, JW.w_hl0 hW, JW.w_src hW, JW.w_zgp hW, JW.w_zyi hW, JW.w_zwn hW, JW.w_zma hW, JW.w_zys hW⟩
    intro i hi
    rw [r8]
    show iF (i ∈ L) (nI p) _ = -1 ∨ vp_in (iF (i ∈ L) (nI p) _) np
    by_cases w : i ∈ L
    · rw [iF_y w]
      exact Or.inr (vp_in_nI hpp (by omega))
    · rw [iF_n w]
      exact hW.w_dro i hi
  · unfold JE
    simp (config := {decide := true}) only [q1, q2, q3, q4, q7, q8, q9]
    exact hJ.2.2.2.2.2.2.1
  · unfold JR
    rw [q3, q5, q6]
    exact hJ.2.2.2.2.2.2.2
/-- another place may be without the mark of being made -/
theorem JW.mz (hW : JW y np na nm nr ne m h) {m2 : Nat → Nat} (hm : ∀ k, ¬ k = 0 → m2 k = m k) (ha : ∀ i, i < na → ¬ aI h 120 (m 120) (aI h 132 (m 132) i).toNatClampNeg = 0 → aI h 200 (m 200) (aI h 132 (m 132) i).toNatClampNeg = 1 ∨ (aI h 132 (m 132) i).toNatClampNeg = m2 0) : JW y np na nm nr ne m2 h := by
  unfold JW
  simp (config := {decide := true}) only [hm]
  refine ⟨JW.w_l0 hW, JW.w_u0 hW, JW.w_und hW, JW.w_lev hW, JW.w_lv3 hW, JW.w_way hW, JW.w_hea hW, JW.w_tor hW, JW.w_tlv hW, JW.w_cho hW, JW.w_c0 hW, JW.w_mad hW, JW.w_mlv hW, JW.w_yes hW, JW.w_hel hW, JW.w_srt hW, JW.w_siz hW, JW.w_sho hW, JW.w_at hW, JW.w_wha hW, JW.w_who hW, JW.w_muc hW, JW.w_wri hW, JW.w_kin hW, JW.w_klv hW, JW.w_mod hW, JW.w_kmo hW, JW.w_int hW, JW.w_dro hW, JW.w_gon hW, JW.w_lat hW, JW.w_gap hW, JW.w_yie hW, JW.w_wor hW, JW.w_wdn hW, JW.w_nsg hW, JW.w_gto hW, JW.w_one hW, JW.w_mwh hW, JW.w_mpl hW, JW.w_mda hW, JW.w_mn hW, JW.w_rle hW, JW.w_rda hW, JW.w_rst hW, JW.w_ppl hW, JW.w_pbo hW, JW.w_cla hW, JW.w_csy hW, JW.w_now hW, ha, JW.w_hl0 hW, JW.w_src hW, JW.w_zgp hW, JW.w_zyi hW, JW.w_zwn hW, JW.w_zma hW, JW.w_zys hW⟩
theorem JA.mz (hJ : JA x y b0 s0 np na nm nr ne g m h) {m2 : Nat → Nat} (hm : ∀ k, ¬ k = 0 → m2 k = m k) (ha : ∀ i, i < na → ¬ aI h 120 (m 120) (aI h 132 (m 132) i).toNatClampNeg = 0 → aI h 200 (m 200) (aI h 132 (m 132) i).toNatClampNeg = 1 ∨ (aI h 132 (m 132) i).toNatClampNeg = m2 0) : JA x y b0 s0 np na nm nr ne g m2 h := by
  obtain ⟨hM, hS, hC, hG, hD, hW, hE, hR⟩ := hJ
  refine ⟨?_, hS, hC, ?_, ?_, hW.mz hm ha, ?_, hR⟩
  · unfold JM
    simp (config := {decide := true}) only [hm]
    exact hM
  · unfold JG
    simp (config := {decide := true}) only [hm]
    exact hG
  · unfold JD
    simp (config := {decide := true}) only [hm]
    exact hD
  · unfold JE
    simp (config := {decide := true}) only [hm]
    exact hE
end DROP
