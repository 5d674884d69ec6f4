/-- all but scratch and the reference's numbers is as it was -/
def eqT (h h2 : Hp) : Prop := hn h2 = hn h ∧ hm h2 = hm h ∧ kd h2 = kd h ∧ ln h2 = ln h ∧ fR h2 = fR h ∧ (∀ f, vcF f = false → fI h2 f = fI h f) ∧ (∀ k, vcK k = false → aI h2 k = aI h k) ∧ (∀ k, k ≠ 311 → aL h2 k = aL h k) ∧ (∀ k, k ≠ 400 → aR h2 k = aR h k)
theorem vc_sF : ∀ f, vcF f = false → isSf f = false := by
  intro f q
  unfold vcF at q
  cases hh : isSf f with
  | false => rfl
  | true => rw [hh, Bool.true_or] at q; cases q
theorem vc_sK : ∀ k, vcK k = false → isSk k = false := by
  intro k q
  unfold vcK at q
  cases hh : isSk k with
  | false => rfl
  | true => rw [hh, Bool.true_or] at q; cases q
theorem eqS.t {h h1 : Hp} (e : eqS h h1) : eqT h h1 := ⟨e.1, e.2.1, e.2.2.1, e.2.2.2.1, e.2.2.2.2.1, fun f q => e.2.2.2.2.2.1 f (vc_sF f q), fun k q => e.2.2.2.2.2.2.1 k (vc_sK k q), e.2.2.2.2.2.2.2.1, e.2.2.2.2.2.2.2.2⟩
theorem eqX_t {h h1 : Hp} (e : eqX vcF vcK h h1) : eqT h h1 := ⟨e.1, e.2.1, e.2.2.1, e.2.2.2.1, e.2.2.2.2.1, e.2.2.2.2.2.1, e.2.2.2.2.2.2.1, fun k _ => by rw [e.2.2.2.2.2.2.2.1], fun k _ => by rw [e.2.2.2.2.2.2.2.2]⟩
theorem eqT.tr {h h1 h2 : Hp} (a : eqT h h1) (b : eqT h1 h2) : eqT h h2 := ⟨b.1.trans a.1, b.2.1.trans a.2.1, b.2.2.1.trans a.2.2.1, b.2.2.2.1.trans a.2.2.2.1, b.2.2.2.2.1.trans a.2.2.2.2.1, fun f q => (b.2.2.2.2.2.1 f q).trans (a.2.2.2.2.2.1 f q), fun k q => (b.2.2.2.2.2.2.1 k q).trans (a.2.2.2.2.2.2.1 k q), fun k q => (b.2.2.2.2.2.2.2.1 k q).trans (a.2.2.2.2.2.2.2.1 k q), fun k q => (b.2.2.2.2.2.2.2.2 k q).trans (a.2.2.2.2.2.2.2.2 k q)⟩
/-- the reference's arrays hold the same -/
def AR (m : Nat → Nat) (A B : Hp) : Prop := ∀ k, isRq k = true → aI A k (m k) = aI B k (m k)
theorem AR_tI {m : Nat → Nat} {A B : Hp} (e : AR m A B) (k0 j : Nat) (v : Int32) : AR m (tI A k0 (m k0) j v) (tI B k0 (m k0) j v) := by
  intro k hk
  by_cases c : k = k0
  · subst c
    funext q
    rw [aI_tI_e, aI_tI_e, e k hk]
  · rw [aI_tI_n _ _ _ _ _ _ c, aI_tI_n _ _ _ _ _ _ c]
    exact e k hk
theorem AR_lk {m : Nat → Nat} {A B : Hp} (e : AR m A B) (k0 : Nat) (v : Int32) (L : List Nat) : ∀ i, AR m (lkR k0 (m k0) v L i A) (lkR k0 (m k0) v L i B) := by
  intro i
  induction i with
  | zero => exact e
  | succ i ih => exact AR_tI ih _ _ _
theorem AR_rf {m : Nat → Nat} {A B : Hp} {y : Nat} (e : AR m A B) (e0 : fI A 1408 y = fI B 1408 y) (p : Nat) (kp : Prop) (v : Int32) (L : List Nat) (k n : Nat) : AR m (rfT m y p kp v L k n A) (rfT m y p kp v L k n B) := by
  unfold rfT
  by_cases c : kp
  · rw [iF_y c, iF_y c, e0]
    refine AR_lk (A := psR m y n p (nI (k / 8)) (nI (k % 8)) v (fI B 1408 y) A) (B := psR m y n p (nI (k / 8)) (nI (k % 8)) v (fI B 1408 y) B) ?_ 139 _ _ _
    exact AR_tI (AR_tI (AR_tI (AR_tI (AR_tI (AR_tI (AR_tI (AR_tI (AR_tI (AR_tI (AR_tI (AR_tI e 132 n (nI p)) 133 n (nI (k / 8))) 134 n (nI (k % 8))) 135 n v) 136 n (fI B 1408 y)) 137 n 2) 138 n (-1)) 139 n (-1)) 140 n (-1)) 141 n (-1)) 142 n (-1)) 201 n 0
  · rw [iF_n c, iF_n c]
    exact AR_lk e 140 _ _ _
theorem fL_at {P : Nat → Prop} {k : Nat} (c : P k) : ∀ d, (fL P (k + 1 + d)).getD (cN P k) 0 = k ∧ cN P k < (fL P (k + 1 + d)).length := by
  intro d
  induction d with
  | zero =>
    show (fL P (k + 1)).getD (cN P k) 0 = k ∧ cN P k < (fL P (k + 1)).length
    rw [fL_y c, ← fL_len, gD_r, List.length_append]
    exact ⟨rfl, Nat.lt_succ_self _⟩
  | succ d ih =>
    show (fL P (k + 1 + d + 1)).getD (cN P k) 0 = k ∧ cN P k < (fL P (k + 1 + d + 1)).length
    by_cases w : P (k + 1 + d)
    · rw [fL_y w, gD_l ih.2, List.length_append]
      exact ⟨ih.1, by omega⟩
    · rw [fL_n w]
      exact ih
section EQTT
variable {x y b0 s0 np na nm nr ne : Nat} {g : Nat → Nat → Nat} {m : Nat → Nat} {h h1 V R : Hp}
theorem JA.cc (hJ : JA x y b0 s0 np na nm nr ne g m V) (e1 : hn R = hn V) (e2 : hm R = hm V) (e3 : kd R = kd V) (e4 : ln R = ln V) (e5 : fR R = fR V) (e6 : ∀ f, isSf f = false → f ≠ 1410 → fI R f = fI V f) (e7 : fI R 1410 y = fI V 1410 y) (e8 : ∀ k, k < 120 → isSk k = false → aI R k = aI V k) (e9 : AR m R V) (e10 : ∀ k, k ≠ 311 → aL R k = aL V k) (e11 : ∀ k, k ≠ 400 → aR R k = aR V k) : JA x y b0 s0 np na nm nr ne g m R := by
  obtain ⟨hM, hS, hC, hG, hD, hW, hE, hR⟩ := hJ
  unfold AR at e9
  refine ⟨?_, ?_, ?_, ?_, ?_, ?_, ?_, ?_⟩
  · unfold JM
    simp only [e3, e4, e5]
    exact hM
  · unfold JS
    simp only [e3, e4, e5]
    exact hS
  · unfold JC
    simp (config := {decide := true}) only [e6, e7]
    exact hC
  · unfold JG
    simp (config := {decide := true}) only [e3, e4, e5, e6, e8, e9, e10, e11]
    exact hG
  · unfold JD
    simp (config := {decide := true}) only [e3, e4, e5, e6, e8, e9, e10, e11]
    exact hD
  · exact hW.cc e9 (by rw [e6 1408 rfl (by decide)])
  · unfold JE
    simp (config := {decide := true}) only [e3, e4, e5, e6, e8, e9, e10, e11]
    exact hE
  · unfold JR
    rw [e1, e2, e3]
    exact hR
/-- the place is marked as made, in both halves -/
theorem JA.made (hJ : JA x y b0 s0 np na nm nr ne g m h) {p : Nat} (hpp : p < np) (hm0 : p = m 0) (hlv : ¬ aI h 120 (m 120) p = 0) {m2 : Nat → Nat} (hm : ∀ k, ¬ k = 0 → m2 k = m k) : JA x y b0 s0 np na nm nr ne g m2 (tI (sI h 648 (g 1 p) 1) 200 (m 200) p 1) := by
  have hbd := hJ.2.2.1.2
  have hG := hJ.2.2.2.1
  have hD := hJ.2.2.2.2.1
  have hW := hJ.2.2.2.2.2.1
  obtain ⟨hM, hS, hC, -, -, -, hE, hR⟩ := hJ
  have pin := hG.pl_in (by omega)
  refine ⟨?_, hS, ?_, ?_, ?_, ?_, ?_, hR⟩
  · unfold JM
    simp (config := {decide := true}) only [hm, fR_sI, aI_sI, aL_sI, aR_sI, kd_sI, ln_sI, hn_sI, hm_sI, fI_sI_n, fI_sR, aI_sR, aL_sR, aR_sR, kd_sR, ln_sR, hn_sR, hm_sR, fR_sR_n, fI_tI, fR_tI, aL_tI, aR_tI, kd_tI, ln_tI, hn_tI, hm_tI, aI_tI_n, fI_tL, fR_tL, aI_tL, aR_tL, kd_tL, ln_tL, hn_tL, hm_tL, aL_tL_n, fI_tR, fR_tR, aI_tR, aL_tR, kd_tR, ln_tR, hn_tR, hm_tR, aR_tR_n, hn_nw, hm_nw]
    exact hM
  · unfold JC
    simp (config := {decide := true}) only [fR_sI, aI_sI, aL_sI, aR_sI, kd_sI, ln_sI, hn_sI, hm_sI, fI_sI_n, fI_sR, aI_sR, aL_sR, aR_sR, kd_sR, ln_sR, hn_sR, hm_sR, fR_sR_n, fI_tI, fR_tI, aL_tI, aR_tI, kd_tI, ln_tI, hn_tI, hm_tI, aI_tI_n, fI_tL, fR_tL, aI_tL, aR_tL, kd_tL, ln_tL, hn_tL, hm_tL, aL_tL_n, fI_tR, fR_tR, aI_tR, aL_tR, kd_tR, ln_tR, hn_tR, hm_tR, aR_tR_n, hn_nw, hm_nw]
    exact hC
  · unfold JG
    simp (config := {decide := true}) only [hm, fR_sI, aI_sI, aL_sI, aR_sI, kd_sI, ln_sI, hn_sI, hm_sI, fI_sI_n, fI_sR, aI_sR, aL_sR, aR_sR, kd_sR, ln_sR, hn_sR, hm_sR, fR_sR_n, fI_tI, fR_tI, aL_tI, aR_tI, kd_tI, ln_tI, hn_tI, hm_tI, aI_tI_n, fI_tL, fR_tL, aI_tL, aR_tL, kd_tL, ln_tL, hn_tL, hm_tL, aL_tL_n, fI_tR, fR_tR, aI_tR, aL_tR, kd_tR, ln_tR, hn_tR, hm_tR, aR_tR_n, hn_nw, hm_nw]
    exact hG
  · unfold JD
    simp (config := {decide := true}) only [hm, fR_sI, aI_sI, aL_sI, aR_sI, kd_sI, ln_sI, hn_sI, hm_sI, fI_sI_n, fI_sR, aI_sR, aL_sR, aR_sR, kd_sR, ln_sR, hn_sR, hm_sR, fR_sR_n, fI_tI, fR_tI, aL_tI, aR_tI, kd_tI, ln_tI, hn_tI, hm_tI, aI_tI_n, fI_tL, fR_tL, aI_tL, aR_tL, kd_tL, ln_tL, hn_tL, hm_tL, aL_tL_n, fI_tR, fR_tR, aI_tR, aL_tR, kd_tR, ln_tR, hn_tR, hm_tR, aR_tR_n, hn_nw, hm_nw]
    refine ⟨JD.d_lev hD, JD.d_und hD, JD.d_way hD, JD.d_ord hD, ?_, JD.d_tor hD, JD.d_cho hD, JD.d_yes hD, JD.d_srt hD, JD.d_siz hD, JD.d_sha hD, JD.d_cel hD, JD.d_at hD, JD.d_wha hD, JD.d_who hD, JD.d_muc hD, JD.d_wri hD, JD.d_kin hD, JD.d_lat hD, JD.d_gap hD, JD.d_gon hD, JD.d_yie hD, JD.d_wor hD, JD.d_mod hD, JD.d_int hD, JD.d_dro hD, JD.d_wds hD, JD.d_wdn hD, JD.d_mwh hD, JD.d_mda hD, JD.d_mpl hD, JD.d_mwd hD, JD.d_rle hD, JD.d_rda hD, JD.d_rst hD, JD.d_ppl hD, JD.d_pbo hD, JD.d_cla hD, JD.d_ref hD⟩
    intro i hi
    rw [fI_sI_e, aI_tI_e]
    by_cases c : i = p
    · rw [if_pos (by rw [c]), if_pos ⟨rfl, c⟩]
    · rw [if_neg (fun w => c (pin i p hi hpp w)), if_neg (fun w => c w.2)]
      exact hD.d_mad i hi
  · unfold JW
    simp (config := {decide := true}) only [hm, fR_sI, aI_sI, aL_sI, aR_sI, kd_sI, ln_sI, hn_sI, hm_sI, fI_sI_n, fI_sR, aI_sR, aL_sR, aR_sR, kd_sR, ln_sR, hn_sR, hm_sR, fR_sR_n, fI_tI, fR_tI, aL_tI, aR_tI, kd_tI, ln_tI, hn_tI, hm_tI, aI_tI_n, fI_tL, fR_tL, aI_tL, aR_tL, kd_tL, ln_tL, hn_tL, hm_tL, aL_tL_n, fI_tR, fR_tR, aI_tR, aL_tR, kd_tR, ln_tR, hn_tR, hm_tR, aR_tR_n, hn_nw, hm_nw]
    refine ⟨JW.w_l0 hW, JW.w_u0 hW, JW.w_und hW, JW.w_lev hW, JW.w_lv3 hW, JW.w_way hW, JW.w_hea hW, JW.w_tor hW, JW.w_tlv hW, JW.w_cho hW, JW.w_c0 hW, ?_, ?_, JW.w_yes hW, JW.w_hel hW, JW.w_srt hW, JW.w_siz hW, JW.w_sho hW, JW.w_at hW, JW.w_wha hW, JW.w_who hW, JW.w_muc hW, JW.w_wri hW, JW.w_kin hW, JW.w_klv hW, JW.w_mod hW, JW.w_kmo hW, JW.w_int hW, JW.w_dro hW, JW.w_gon hW, JW.w_lat hW, JW.w_gap hW, JW.w_yie hW, JW.w_wor hW, JW.w_wdn hW, JW.w_nsg hW, JW.w_gto hW, JW.w_one hW, JW.w_mwh hW, JW.w_mpl hW, JW.w_mda hW, JW.w_mn hW, JW.w_rle hW, JW.w_rda hW, JW.w_rst hW, JW.w_ppl hW, JW.w_pbo hW, JW.w_cla hW, JW.w_csy hW, JW.w_now hW, ?_, JW.w_hl0 hW, JW.w_src hW, JW.w_zgp hW, JW.w_zyi hW, JW.w_zwn hW, ?_, JW.w_zys hW⟩
    · intro i hi
      rw [aI_tI_e]
      by_cases c : i = p
      · rw [if_pos ⟨rfl, c⟩]; exact Or.inr rfl
      · rw [if_neg (fun w => c w.2)]; exact hW.w_mad i hi
    · intro i hi l
      rw [aI_tI_e]
      by_cases c : i = p
      · rw [c] at l
        exact absurd l hlv
      · rw [if_neg (fun w => c w.2)]; exact hW.w_mlv i hi l
    · intro i hi l
      rw [aI_tI_e]
      by_cases c : (aI h 132 (m 132) i).toNatClampNeg = p
      · rw [if_pos ⟨rfl, c⟩]; exact Or.inl rfl
      · rw [if_neg (fun w => c w.2)]
        rcases hW.w_amd i hi l with w | w
        · exact Or.inl w
        · exact absurd (w.trans hm0.symm) c
    · intro i h1 h2
      rw [aI_tI_e, if_neg (fun w => by have := w.2; omega)]
      exact hW.w_zma i h1 h2
  · unfold JE
    simp (config := {decide := true}) only [hm, fR_sI, aI_sI, aL_sI, aR_sI, kd_sI, ln_sI, hn_sI, hm_sI, fI_sI_n, fI_sR, aI_sR, aL_sR, aR_sR, kd_sR, ln_sR, hn_sR, hm_sR, fR_sR_n, fI_tI, fR_tI, aL_tI, aR_tI, kd_tI, ln_tI, hn_tI, hm_tI, aI_tI_n, fI_tL, fR_tL, aI_tL, aR_tL, kd_tL, ln_tL, hn_tL, hm_tL, aL_tL_n, fI_tR, fR_tR, aI_tR, aL_tR, kd_tR, ln_tR, hn_tR, hm_tR, aR_tR_n, hn_nw, hm_nw]
    exact hE
end EQTT
