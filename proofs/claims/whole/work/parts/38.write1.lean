section WRI1
variable {x y b0 s0 np na nm nr ne : Nat} {g : Nat → Nat → Nat} {m : Nat → Nat} {h : Hp}
theorem int_c (hW : JW y np na nm nr ne m h) : ∀ a, a < na → aI h 139 (m 139) a = -1 ∨ ∃ j, j < na ∧ aI h 139 (m 139) a = nI j := by
  intro a ha
  rcases hW.w_int a ha with e | ⟨b, b1, b2, b3, -⟩
  · exact Or.inl e
  · exact Or.inr ⟨b, b2, b3⟩
theorem partsL_a {at_ at2 into into2 : Nat → Int32} {np na a : Nat} (h1 : ∀ b, b < na → at2 b = at_ b) (h2 : ∀ b, b < na → into2 b = into b) (h3 : into2 na = -1) (ha : a < 1000) : partsL at2 into2 np (na + 1) a = partsL at_ into np na a := by
  unfold partsL
  congr 1
  funext p
  rw [List.range_succ, List.filter_append]
  have e : [na].filter (fun b => decide (at2 b = nI p ∧ into2 b = nI a)) = [] := by
    rw [List.filter_eq_nil_iff]
    intro b hb
    rw [decide_eq_true_iff]
    rintro ⟨-, z⟩
    rw [List.mem_singleton.mp hb, h3] at z
    exact nI_m1 (n := a) (by omega) z.symm
  rw [e, List.append_nil]
  apply List.filter_congr
  intro b hb
  have := List.mem_range.mp hb
  rw [h1 b this, h2 b this]
/-- the reference's numbers with one more ask of a parish -/
theorem growW_JW {E F : Hp} {p z : Nat} {c d v K M T : Int32} {W : Nat → Int64} (hWE : JW y np na nm nr ne m E) (hb : np ≤ 24) (hna : na < 160) (hpp : p < np) (hlv : aI E 120 (m 120) p = 0) (hc : vp_in c 16) (hd : vp_in d 8) (hv : 0 ≤ v.toInt ∧ v.toInt ≤ 99) (hz : z ≤ 20) (hK : K = 0 ∧ M = -1 ∨ K = 1 ∧ vp_in M nm) (hT : T = 0 ∨ T = 1) (hone : ∀ i, i < na → aI E 132 (m 132) i = nI p → aI E 133 (m 133) i = c → aI E 134 (m 134) i = d → ¬ aI E 141 (m 141) i = -1)
    (q2 : ∀ k, k ≠ 312 → aL F k = aL E k) (q7 : fI F 1408 = fI E 1408) (q8 : ∀ k, k < 132 → aI F k = aI E k) (q9 : ∀ k, 143 < k → k ≠ 201 → aI F k = aI E k)
    (r0 : aI F 132 (m 132) = fun q => if q = na then nI p else aI E 132 (m 132) q) (r1 : aI F 133 (m 133) = fun q => if q = na then c else aI E 133 (m 133) q) (r2 : aI F 134 (m 134) = fun q => if q = na then d else aI E 134 (m 134) q) (r3 : aI F 135 (m 135) = fun q => if q = na then v else aI E 135 (m 135) q) (r4 : aI F 136 (m 136) = fun q => if q = na then fI E 1408 y else aI E 136 (m 136) q) (r5 : aI F 137 (m 137) = fun q => if q = na then K else aI E 137 (m 137) q) (r6 : aI F 138 (m 138) = fun q => if q = na then M else aI E 138 (m 138) q) (r7 : aI F 139 (m 139) = fun q => if q = na then -1 else aI E 139 (m 139) q) (r8 : aI F 140 (m 140) = fun q => if q = na then -1 else aI E 140 (m 140) q) (r9 : aI F 141 (m 141) = fun q => if q = na then -1 else aI E 141 (m 141) q) (r10 : aI F 142 (m 142) = fun q => if q = na then -1 else aI E 142 (m 142) q) (r11 : aI F 143 (m 143) = fun q => if q = na then nI z else aI E 143 (m 143) q) (r12 : aI F 201 (m 201) = fun q => if q = na then T else aI E 201 (m 201) q) : JW y np (na + 1) nm nr ne m F := by
  have nA : ∀ i, i < na → ¬ i = na := fun i hi => by omega
  have ep : (nI p).toNatClampNeg = p := nI_clamp (by omega)
  have hnow := hWE.w_now
  have hcI := int_c hWE
  unfold JW
  simp (config := {decide := true}) only [q2, q7, q8, q9, r0, r1, r2, r3, r4, r5, r6, r7, r8, r9, r10, r11, r12, true_and]
  refine ⟨JW.w_l0 hWE, JW.w_u0 hWE, JW.w_und hWE, JW.w_lev hWE, JW.w_lv3 hWE, JW.w_way hWE, JW.w_hea hWE, JW.w_tor hWE, JW.w_tlv hWE, JW.w_cho hWE, JW.w_c0 hWE, JW.w_mad hWE, JW.w_mlv hWE, JW.w_yes hWE, JW.w_hel hWE, JW.w_srt hWE, JW.w_siz hWE, ?_, all_s (fun i hi => ?_) ?_, all_s (fun i hi => ?_) ?_, all_s (fun i hi => ?_) ?_, all_s (fun i hi => ?_) ?_, all_s (fun i hi => ?_) ?_, all_s (fun i hi => ?_) ?_, all_s (fun i hi => ?_) ?_, all_s (fun i hi => ?_) ?_, all_s (fun i hi => ?_) ?_, all_s (fun i hi => ?_) ?_, all_s (fun i hi => ?_) ?_, all_s (fun i hi => ?_) ?_, all_s (fun i hi => ?_) ?_, all_s (fun i hi => ?_) ?_, all_s (fun i hi => ?_) ?_, all_s (fun i hi => ?_) ?_, all_s (fun i hi => ?_) ?_, all_s (fun i hi => ?_) ?_, all_s (fun i hi => ?_) ?_, ?_, JW.w_mwh hWE, JW.w_mpl hWE, JW.w_mda hWE, JW.w_mn hWE, JW.w_rle hWE, JW.w_rda hWE, JW.w_rst hWE, JW.w_ppl hWE, JW.w_pbo hWE, JW.w_cla hWE, JW.w_csy hWE, JW.w_now hWE, all_s (fun i hi => ?_) ?_, JW.w_hl0 hWE, all_s (fun i hi => ?_) ?_, ?_, ?_, ?_, JW.w_zma hWE, JW.w_zys hWE⟩
  · intro i hi s; exact vp_le (hWE.w_sho i hi s) (by omega)
  · rw [if_neg (nA i hi)]; exact hWE.w_at i hi
  · rw [if_pos rfl]; exact vp_in_nI hpp (by omega)
  · rw [if_neg (nA i hi)]; exact hWE.w_wha i hi
  · rw [if_pos rfl]; exact hc
  · rw [if_neg (nA i hi)]; exact hWE.w_who i hi
  · rw [if_pos rfl]; exact hd
  · rw [if_neg (nA i hi)]; exact hWE.w_muc i hi
  · rw [if_pos rfl]; exact hv
  · rw [if_neg (nA i hi)]; exact hWE.w_wri i hi
  · rw [if_pos rfl]; exact hnow
  · rw [if_neg (nA i hi)]; exact hWE.w_kin i hi
  · rw [if_pos rfl]
    rcases hK with ⟨e, -⟩ | ⟨e, -⟩ <;> rw [e] <;> decide
  · rw [if_neg (nA i hi), if_neg (nA i hi)]; exact hWE.w_klv i hi
  · rw [if_pos rfl, if_pos rfl, ep]
    refine ⟨fun _ => hlv, fun _ => ?_⟩
    rcases hK with ⟨e, -⟩ | ⟨e, -⟩ <;> rw [e] <;> decide
  · rw [if_neg (nA i hi)]; exact hWE.w_mod i hi
  · rw [if_pos rfl]
    exact hK.imp (fun e => e.2) (fun e => e.2)
  · rw [if_neg (nA i hi), if_neg (nA i hi)]; exact hWE.w_kmo i hi
  · rw [if_pos rfl, if_pos rfl]
    rcases hK with ⟨e, e2⟩ | ⟨e, e2⟩
    · rw [e, e2]; decide
    · rw [e]
      refine ⟨fun _ w => ?_, fun _ => rfl⟩
      rw [w] at e2
      exact absurd ((vp_dec _ _).mp e2).1 (by decide)
  · rw [if_neg (nA i hi), if_neg (nA i hi)]
    rcases hWE.w_int i hi with e | ⟨b, b1, b2, b3, b4⟩
    · exact Or.inl e
    · exact Or.inr ⟨b, b1, by omega, b3, by rw [if_neg (nA b b2)]; exact b4⟩
  · rw [if_pos rfl]; exact Or.inl rfl
  · rw [if_neg (nA i hi)]; exact hWE.w_dro i hi
  · rw [if_pos rfl]; exact Or.inl rfl
  · rw [if_neg (nA i hi)]; exact hWE.w_gon i hi
  · rw [if_pos rfl]; decide
  · rw [if_neg (nA i hi)]; exact hWE.w_lat i hi
  · rw [if_pos rfl]; exact hT
  · exact hWE.w_gap i hi
  · exact Or.inl (hWE.w_zgp na (Nat.le_refl _) (by omega))
  · exact hWE.w_yie i hi
  · exact Or.inl (hWE.w_zyi na (Nat.le_refl _) (by omega))
  · rw [if_neg (nA i hi)]; exact hWE.w_wor i hi
  · rw [if_pos rfl]; decide
  · rw [if_neg (nA i hi)]; exact hWE.w_wdn i hi
  · rw [if_pos rfl, nI_toInt (by omega)]; omega
  · rw [if_neg (nA i hi), if_neg (nA i hi)]; exact hWE.w_nsg i hi
  · rw [if_pos rfl, ep]
    exact fun w => absurd hlv w
  · rw [if_neg (nA i hi)]; exact hWE.w_gto i hi
  · exact fun _ => hWE.w_zgp na (Nat.le_refl _) (by omega)
  · intro i j hi hj
    by_cases a : i = na
    · by_cases b : j = na
      · intros; rw [a, b]
      · rw [if_pos a, if_pos a, if_pos a, if_pos a, if_neg b, if_neg b, if_neg b, if_neg b]
        intro e1 e2 e3 _ e5
        exact absurd e5 (hone j (by omega) e1.symm e2.symm e3.symm)
    · by_cases b : j = na
      · rw [if_neg a, if_neg a, if_neg a, if_neg a, if_pos b, if_pos b, if_pos b, if_pos b]
        intro e1 e2 e3 e4 _
        exact absurd e4 (hone i (by omega) e1 e2 e3)
      · rw [if_neg a, if_neg a, if_neg a, if_neg a, if_neg b, if_neg b, if_neg b, if_neg b]
        exact hWE.w_one i j (by omega) (by omega)
  · rw [if_neg (nA i hi)]; exact hWE.w_amd i hi
  · rw [if_pos rfl, ep]
    exact fun w => absurd hlv w
  · obtain ⟨b, b1, b2, b3⟩ := hWE.w_src i hi
    refine ⟨b, by omega, by rw [if_neg (nA b b1)]; exact b2, ?_⟩
    exact (bel_cg hcI (by omega) (fun i hi => if_neg (nA i hi)) 3 b i b1).mpr b3
  · exact ⟨na, by omega, by rw [if_pos rfl, ep]; exact hlv, Or.inl rfl⟩
  · intro i h1 h2; exact hWE.w_zgp i (by omega) h2
  · intro i h1 h2; exact hWE.w_zyi i (by omega) h2
  · intro i h1 h2
    rw [if_neg (by omega)]; exact hWE.w_zwn i (by omega) h2
end WRI1
