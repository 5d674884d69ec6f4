theorem bel_m {u u' : Nat → Int32} (hu : ∀ x, ¬ u x = -1 → u' x = u x) : ∀ f p q, bel u f p q → bel u' f p q := by
  intro f
  induction f with
  | zero => intro p q h; exact h
  | succ f ih =>
    intro p q h
    rcases h with h | ⟨h1, h2⟩
    · exact Or.inl h
    · refine Or.inr ⟨by rw [hu p h1]; exact h1, ?_⟩
      rw [hu p h1]
      exact ih _ _ h2
theorem bel_b {u u' : Nat → Int32} {n : Nat} (hn : n < 2 ^ 31) (hu : ∀ x, ¬ x = n → u' x = u x ∨ u' x = nI n) (hN : u' n = -1) : ∀ f p q, ¬ q = n → bel u' f p q → bel u f p q := by
  intro f
  induction f with
  | zero => intro p q _ h; exact h
  | succ f ih =>
    intro p q hq h
    rcases h with h | ⟨h1, h2⟩
    · exact Or.inl h
    · by_cases e : p = n
      · rw [e, hN] at h1
        exact absurd rfl h1
      · rcases hu p e with w | w
        · rw [w] at h1 h2
          exact Or.inr ⟨h1, ih _ _ hq h2⟩
        · rw [w, nI_clamp hn] at h2
          exact absurd ((bel_u hN f).mp h2).symm hq
theorem bel_n {u u' : Nat → Int32} {n : Nat} {L : List Nat} (hn : n < 1000) (hc : ∀ x, x < n → u x = -1 ∨ ∃ j, j < n ∧ u x = nI j) (hu : ∀ x, x < n → u' x = iF (x ∈ L) (nI n) (u x)) : ∀ f p, p < n → bel u' (f + 1) p n → ∃ b, b ∈ L ∧ bel u f p b := by
  intro f
  induction f with
  | zero =>
    intro p hp h
    rcases h with h | ⟨h1, h2⟩
    · omega
    · by_cases c : p ∈ L
      · exact ⟨p, c, rfl⟩
      · rw [hu p hp, iF_n c] at h1 h2
        rcases hc p hp with e | ⟨j, j1, j2⟩
        · exact absurd e h1
        · rw [j2, nI_clamp (by omega)] at h2
          have h3 : j = n := h2
          omega
  | succ f ih =>
    intro p hp h
    rcases h with h | ⟨h1, h2⟩
    · omega
    · by_cases c : p ∈ L
      · exact ⟨p, c, Or.inl rfl⟩
      · rw [hu p hp, iF_n c] at h1 h2
        rcases hc p hp with e | ⟨j, j1, j2⟩
        · exact absurd e h1
        · rw [j2, nI_clamp (by omega)] at h2
          obtain ⟨b, b1, b2⟩ := ih j j1 h2
          exact ⟨b, b1, Or.inr ⟨h1, by rw [j2, nI_clamp (by omega)]; exact b2⟩⟩
theorem bel_i {u u' : Nat → Int32} {n : Nat} {L : List Nat} (hn : n < 1000) (hL : ∀ x, x ∈ L → u x = -1) (hc : ∀ x, x < n → u x = -1 ∨ ∃ j, j < n ∧ u x = nI j) (hu : ∀ x, x < n → u' x = iF (x ∈ L) (nI n) (u x)) {b : Nat} (hb : b ∈ L) (hbn : b < n) : ∀ f p, p < n → bel u f p b → bel u' (f + 1) p n := by
  have base : ∀ f, bel u' (f + 1) b n := by
    intro f
    have e : u' b = nI n := by rw [hu b hbn, iF_y hb]
    refine Or.inr ⟨by rw [e]; exact nI_m1 (by omega), ?_⟩
    rw [e, nI_clamp (by omega)]
    cases f with
    | zero => exact rfl
    | succ f => exact Or.inl rfl
  intro f
  induction f with
  | zero =>
    intro p hp h
    have h2 : p = b := h
    rw [h2]
    exact base 0
  | succ f ih =>
    intro p hp h
    rcases h with h | ⟨h1, h2⟩
    · rw [h]
      exact base _
    · have np : ¬ p ∈ L := fun w => h1 (hL p w)
      rcases hc p hp with e | ⟨j, j1, j2⟩
      · exact absurd e h1
      · have e : u' p = u p := by rw [hu p hp, iF_n np]
        refine Or.inr ⟨by rw [e]; exact h1, ?_⟩
        rw [j2, nI_clamp (by omega)] at h2
        rw [e, j2, nI_clamp (by omega)]
        exact ih j j1 h2
theorem bel_e {u : Nat → Int32} : ∀ f f' p q q', bel u f p q → u q = -1 → bel u f' p q' → u q' = -1 → q = q' := by
  intro f
  induction f with
  | zero =>
    intro f' p q q' h e h' e'
    have h2 : p = q := h
    rw [← h2] at e ⊢
    exact (bel_u e f').mp h'
  | succ f ih =>
    intro f' p q q' h e h' e'
    rcases h with h | ⟨h1, h2⟩
    · rw [← h] at e ⊢
      exact (bel_u e f').mp h'
    · cases f' with
      | zero =>
        have h3 : p = q' := h'
        rw [h3] at h1
        exact absurd e' h1
      | succ f' =>
        rcases h' with h3 | ⟨_, h4⟩
        · rw [h3] at h1
          exact absurd e' h1
        · exact ih f' _ q q' h2 e h4 e'
theorem bel_R {n : Nat} {u : Nat → Int32} {R : Nat → Nat} (hc : chn n u R) : ∀ f p q, p < n → bel u f p q → R q ≤ R p := by
  intro f
  induction f with
  | zero =>
    intro p q _ h
    have h2 : p = q := h
    rw [h2]
    exact Nat.le_refl _
  | succ f ih =>
    intro p q hp h
    rcases h with h | ⟨h1, h2⟩
    · rw [h]; exact Nat.le_refl _
    · rcases (hc.2 p hp).2 with w | ⟨j, j1, j2, j3⟩
      · exact absurd w h1
      · have := hc.1
        rw [j2, nI_clamp (by omega)] at h2
        have := ih j q j1 h2
        omega
theorem bel_sh {n : Nat} {u : Nat → Int32} {R : Nat → Nat} (hc : chn n u R) {q : Nat} : ∀ {f p k : Nat}, p < n → bel u f p q → q < n → R p ≤ R q + k → bel u k p q := by
  intro f
  induction f with
  | zero =>
    intro p k _ h _ _
    have h2 : p = q := h
    rw [h2]
    cases k with
    | zero => exact rfl
    | succ k => exact Or.inl rfl
  | succ f ih =>
    intro p k hp h hq hk
    rcases h with h | ⟨h1, h2⟩
    · rw [h]
      cases k with
      | zero => exact rfl
      | succ k => exact Or.inl rfl
    · rcases (hc.2 p hp).2 with w | ⟨j, j1, j2, j3⟩
      · exact absurd w h1
      · have := hc.1
        rw [j2, nI_clamp (by omega)] at h2
        have r := bel_R hc f j q j1 h2
        cases k with
        | zero => omega
        | succ k =>
          refine Or.inr ⟨h1, ?_⟩
          rw [j2, nI_clamp (by omega)]
          exact ih j1 h2 hq (by omega)
section GRM1
variable {x y b0 s0 np na nm nr ne : Nat} {g : Nat → Nat → Nat} {m : Nat → Nat} {h : Hp}
theorem gaL_m {h : Hp} {m : Nat → Nat} {na u k b : Nat} : ∀ {q}, b ∈ gaL h m na u k q ↔ ∃ q', q' < q ∧ aI h 121 (m 121) q' = nI u ∧ b < na ∧ gaP h m k q' b := by
  intro q
  induction q with
  | zero => exact ⟨fun w => (by cases w), fun ⟨q', w, _⟩ => absurd w (Nat.not_lt_zero _)⟩
  | succ q ih =>
    have e : gaL h m na u k (q + 1) = gaL h m na u k q ++ (iF (aI h 121 (m 121) q = nI u) (fL (gaP h m k q) na) []) := rfl
    rw [e, List.mem_append, ih]
    constructor
    · rintro (⟨q', w1, w2⟩ | w)
      · exact ⟨q', by omega, w2⟩
      · by_cases c : aI h 121 (m 121) q = nI u
        · rw [iF_y c] at w
          obtain ⟨w1, w2⟩ := fL_mem w
          exact ⟨q, by omega, c, w1, w2⟩
        · rw [iF_n c] at w
          cases w
    · rintro ⟨q', w1, w2, w3, w4⟩
      by_cases c : q' = q
      · right
        rw [c] at w2 w4
        rw [iF_y w2]
        unfold fL
        rw [List.mem_filter]
        exact ⟨List.mem_range.mpr w3, @decide_eq_true _ (Classical.propDecidable _) w4⟩
      · exact Or.inl ⟨q', by omega, w2, w3, w4⟩
theorem growM_JW {E F : Hp} {p : Nat} {c d v : Int32} {L : List Nat} (hWE : JW y np na nm nr ne m E) (hb : np ≤ 24) (hna : na < 160) (hpp : p < np) (hlv : ¬ aI E 120 (m 120) p = 0) (hmd : aI E 200 (m 200) p = 1 ∨ p = m 0) (hc : vp_in c 16) (hd : vp_in d 8) (hv : 0 ≤ v.toInt ∧ v.toInt ≤ 99) (hone : ∀ i, i < na → aI E 132 (m 132) i = nI p → aI E 133 (m 133) i = c → aI E 134 (m 134) i = d → ¬ aI E 141 (m 141) i = -1) (hL0 : ∃ b, b ∈ L) (hL : ∀ b, b ∈ L → b < na ∧ aI E 139 (m 139) b = -1 ∧ aI E 121 (m 121) (aI E 132 (m 132) b).toNatClampNeg = nI p)
    (q7 : fI F 1408 = fI E 1408) (q8 : ∀ k, k < 132 → aI F k = aI E k) (q9 : ∀ k, 142 < k → k ≠ 201 → aI F k = aI E k)
    (r0 : aI F 132 (m 132) = fun q => if q = na then nI p else aI E 132 (m 132) q) (r1 : aI F 133 (m 133) = fun q => if q = na then c else aI E 133 (m 133) q) (r2 : aI F 134 (m 134) = fun q => if q = na then d else aI E 134 (m 134) q) (r3 : aI F 135 (m 135) = fun q => if q = na then v else aI E 135 (m 135) q) (r4 : aI F 136 (m 136) = fun q => if q = na then fI E 1408 y else aI E 136 (m 136) q) (r5 : aI F 137 (m 137) = fun q => if q = na then 2 else aI E 137 (m 137) q) (r6 : aI F 138 (m 138) = fun q => if q = na then -1 else aI E 138 (m 138) q) (r7 : aI F 139 (m 139) = fun q => if q = na then -1 else iF (q ∈ L) (nI na) (aI E 139 (m 139) q)) (r8 : aI F 140 (m 140) = fun q => if q = na then -1 else aI E 140 (m 140) q) (r9 : aI F 141 (m 141) = fun q => if q = na then -1 else aI E 141 (m 141) q) (r10 : aI F 142 (m 142) = fun q => if q = na then -1 else aI E 142 (m 142) q) (r12 : aI F 201 (m 201) = fun q => if q = na then 0 else aI E 201 (m 201) q) : JW y np (na + 1) nm nr ne m F := by
  have nA : ∀ i, i < na → ¬ i = na := fun i hi => by omega
  have ep : (nI p).toNatClampNeg = p := nI_clamp (by omega)
  have hnow := hWE.w_now
  have hcI := int_c hWE
  have hu : ∀ x, x < na → (fun q => if q = na then -1 else iF (q ∈ L) (nI na) (aI E 139 (m 139) q)) x = iF (x ∈ L) (nI na) (aI E 139 (m 139) x) := fun x hx => if_neg (nA x hx)
  have hm : ∀ x, x < na → ¬ aI E 139 (m 139) x = -1 → ¬ x ∈ L := fun x _ w z => w (hL x z).2.1
  have z3 := hWE.w_zwn na (Nat.le_refl _) (by omega)
  unfold JW
  simp (config := {decide := true}) only [q7, q8, q9, r0, r1, r2, r3, r4, r5, r6, r7, r8, r9, r10, r12, true_and]
  refine ⟨JW.w_l0 hWE, JW.w_u0 hWE, JW.w_und hWE, JW.w_lev hWE, JW.w_lv3 hWE, JW.w_way hWE, JW.w_hea hWE, JW.w_tor hWE, JW.w_tlv hWE, JW.w_cho hWE, JW.w_c0 hWE, JW.w_mad hWE, JW.w_mlv hWE, JW.w_yes hWE, JW.w_hel hWE, JW.w_srt hWE, JW.w_siz hWE, ?_, all_s (fun i hi => ?_) ?_, all_s (fun i hi => ?_) ?_, all_s (fun i hi => ?_) ?_, all_s (fun i hi => ?_) ?_, all_s (fun i hi => ?_) ?_, all_s (fun i hi => ?_) ?_, all_s (fun i hi => ?_) ?_, all_s (fun i hi => ?_) ?_, all_s (fun i hi => ?_) ?_, all_s (fun i hi => ?_) ?_, all_s (fun i hi => ?_) ?_, all_s (fun i hi => ?_) ?_, all_s (fun i hi => ?_) ?_, all_s (fun i hi => ?_) ?_, all_s (fun i hi => ?_) ?_, all_s (fun i hi => ?_) ?_, all_s (fun i hi => ?_) ?_, all_s (fun i hi => ?_) ?_, all_s (fun i hi => ?_) ?_, ?_, JW.w_mwh hWE, JW.w_mpl hWE, JW.w_mda hWE, JW.w_mn hWE, JW.w_rle hWE, JW.w_rda hWE, JW.w_rst hWE, JW.w_ppl hWE, JW.w_pbo hWE, JW.w_cla hWE, JW.w_csy hWE, JW.w_now hWE, all_s (fun i hi => ?_) ?_, JW.w_hl0 hWE, all_s (fun i hi => ?_) ?_, ?_, ?_, ?_, JW.w_zma hWE, JW.w_zys hWE⟩
  · intro i hi s; exact vp_le (hWE.w_sho i hi s) (by omega)
  · rw [if_neg (nA i hi)]; exact hWE.w_at i hi
  · rw [if_pos rfl]; exact vp_in_nI hpp (by omega)
  · rw [if_neg (nA i hi)]; exact hWE.w_wha i hi
  · rw [if_pos rfl]; exact hc
  · rw [if_neg (nA i hi)]; exact hWE.w_who i hi
  · rw [if_pos rfl]; exact hd
  · rw [if_neg (nA i hi)]; exact hWE.w_muc i hi
  · rw [if_pos rfl]; exact hv
  · rw [if_neg (nA i hi)]; exact hWE.w_wri i hi
  · rw [if_pos rfl]; exact hnow
  · rw [if_neg (nA i hi)]; exact hWE.w_kin i hi
  · rw [if_pos rfl]; decide
  · rw [if_neg (nA i hi), if_neg (nA i hi)]; exact hWE.w_klv i hi
  · rw [if_pos rfl, if_pos rfl, ep]
    exact ⟨fun w => absurd w (by decide), fun w => absurd w hlv⟩
  · rw [if_neg (nA i hi)]; exact hWE.w_mod i hi
  · rw [if_pos rfl]; exact Or.inl rfl
  · rw [if_neg (nA i hi), if_neg (nA i hi)]; exact hWE.w_kmo i hi
  · rw [if_pos rfl, if_pos rfl]; decide
  · rw [if_neg (nA i hi), if_neg (nA i hi)]
    by_cases w : i ∈ L
    · rw [iF_y w]
      exact Or.inr ⟨na, hi, by omega, rfl, by rw [if_pos rfl]; exact (hL i w).2.2.symm⟩
    · rw [iF_n w]
      rcases hWE.w_int i hi with e | ⟨b, b1, b2, b3, b4⟩
      · exact Or.inl e
      · exact Or.inr ⟨b, b1, by omega, b3, by rw [if_neg (nA b b2)]; exact b4⟩
  · rw [if_pos rfl]; exact Or.inl rfl
  · rw [if_neg (nA i hi)]; exact hWE.w_dro i hi
  · rw [if_pos rfl]; exact Or.inl rfl
  · rw [if_neg (nA i hi)]; exact hWE.w_gon i hi
  · rw [if_pos rfl]; decide
  · rw [if_neg (nA i hi)]; exact hWE.w_lat i hi
  · rw [if_pos rfl]; exact Or.inl rfl
  · exact hWE.w_gap i hi
  · exact Or.inl (hWE.w_zgp na (Nat.le_refl _) (by omega))
  · exact hWE.w_yie i hi
  · exact Or.inl (hWE.w_zyi na (Nat.le_refl _) (by omega))
  · rw [if_neg (nA i hi)]; exact hWE.w_wor i hi
  · rw [if_pos rfl]; decide
  · exact hWE.w_wdn i hi
  · rw [z3]; decide
  · rw [if_neg (nA i hi), if_neg (nA i hi)]; exact hWE.w_nsg i hi
  · rw [if_pos rfl, if_pos rfl]
    exact fun _ => ⟨rfl, hWE.w_zgp na (Nat.le_refl _) (by omega)⟩
  · rw [if_neg (nA i hi)]; exact hWE.w_gto i hi
  · exact fun _ => hWE.w_zgp na (Nat.le_refl _) (by omega)
  · intro i j hi hj
    by_cases a : i = na
    · by_cases b : j = na
      · intros; rw [a, b]
      · rw [if_pos a, if_pos a, if_pos a, if_pos a, if_neg b, if_neg b, if_neg b, if_neg b]
        intro e1 e2 e3 _ e5
        exact absurd e5 (hone j (by omega) e1.symm e2.symm e3.symm)
    · by_cases b : j = na
      · rw [if_neg a, if_neg a, if_neg a, if_neg a, if_pos b, if_pos b, if_pos b, if_pos b]
        intro e1 e2 e3 e4 _
        exact absurd e4 (hone i (by omega) e1 e2 e3)
      · rw [if_neg a, if_neg a, if_neg a, if_neg a, if_neg b, if_neg b, if_neg b, if_neg b]
        exact hWE.w_one i j (by omega) (by omega)
  · rw [if_neg (nA i hi)]; exact hWE.w_amd i hi
  · rw [if_pos rfl, ep]
    exact fun _ => hmd
  · obtain ⟨b, b1, b2, b3⟩ := hWE.w_src i hi
    refine ⟨b, by omega, by rw [if_neg (nA b b1)]; exact b2, ?_⟩
    have st : ∀ f p, p < na → bel (aI E 139 (m 139)) f p i → bel (fun q => if q = na then -1 else iF (q ∈ L) (nI na) (aI E 139 (m 139) q)) f p i := by
      intro f
      induction f with
      | zero => intro p _ h; exact h
      | succ f ih =>
        intro p hp h
        rcases h with h | ⟨h1, h2⟩
        · exact Or.inl h
        · have e := hu p hp
          rw [iF_n (hm p hp h1)] at e
          rcases hcI p hp with w | ⟨j, j1, j2⟩
          · exact absurd w h1
          · refine Or.inr ⟨by rw [e]; exact h1, ?_⟩
            rw [j2, nI_clamp (by omega)] at h2
            rw [e, j2, nI_clamp (by omega)]
            exact ih j j1 h2
    exact st 3 b b1 b3
  · obtain ⟨b, bL⟩ := hL0
    obtain ⟨l1, l2, l3⟩ := hL b bL
    obtain ⟨b', b1, b2, b3⟩ := hWE.w_src b l1
    have hch := chn_int hWE hb (by omega)
    have lvb : lvN E m (atN E m b) ≤ 2 := by
      obtain ⟨q, q1, q2⟩ := vp_ex (hWE.w_at b l1)
      have eq : atN E m b = q := by unfold atN; rw [q2, nI_clamp (by omega)]
      rw [q2, nI_clamp (by omega)] at l3
      have p0 : 0 < q := by
        rcases Nat.eq_zero_or_pos q with w | w
        · rw [w, hWE.w_u0] at l3
          exact absurd l3.symm (nI_m1 (by omega))
        · exact w
      obtain ⟨z, z1, z2⟩ := rngN (N := 2) ⟨(hWE.w_lev q q1).1, hWE.w_lv3 q p0 q1⟩
      rw [eq]
      unfold lvN
      rw [z2, nI_clamp (by omega)]
      exact z1
    have l0' : lvN E m (atN E m b') = 0 := by
      unfold lvN atN
      rw [b2]
      rfl
    refine ⟨b', by omega, by rw [if_neg (nA b' b1)]; exact b2, ?_⟩
    have b3' : bel (aI E 139 (m 139)) 2 b' b := bel_sh hch b1 b3 l1 (by
      show 3 - lvN E m (atN E m b') ≤ (3 - lvN E m (atN E m b)) + 2
      omega)
    exact bel_i (u := aI E 139 (m 139)) (by omega) (fun x hx => (hL x hx).2.1) hcI hu bL l1 2 b' b1 b3'
  · intro i h1 h2; exact hWE.w_zgp i (by omega) h2
  · intro i h1 h2; exact hWE.w_zyi i (by omega) h2
  · intro i h1 h2; exact hWE.w_zwn i (by omega) h2
end GRM1
