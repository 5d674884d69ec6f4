theorem dec_none (f : Nat → Nat) (v : Int32) : (dec f v = none) = (v = -1) := by
  unfold dec
  by_cases h : v = -1 <;> simp [h]
theorem dec_s (f : Nat → Nat) {v : Int32} (h : ¬ v = -1) : dec f v = some (f v.toNatClampNeg) := by
  unfold dec
  rw [if_neg h]
theorem dec_1 (f : Nat → Nat) : dec f (-1) = none := by
  unfold dec
  rw [if_pos rfl]
section BUN
variable {x y b0 s0 np na nm nr ne : Nat} {g : Nat → Nat → Nat} {m : Nat → Nat} {h : Hp}
theorem plF (hJ : JA x y b0 s0 np na nm nr ne g m h) {k : Nat} (hk : k < np) : (aR h 405 (g 0 0) k = some (g 1 k)) ∧ (kd h (g 1 k) = 6) ∧ (fI h 640 (g 1 k) = nI k) ∧ (fR h 645 (g 1 k) = some (g 7 k)) ∧ (kd h (g 7 k) = 104) ∧ (ln h (g 7 k) = 16) ∧ (fI h 641 (g 1 k) = aI h 120 (m 120) k) ∧ (fR h 642 (g 1 k) = dec (g 1) (aI h 121 (m 121) k)) ∧ (fI h 643 (g 1 k) = aI h 122 (m 122) k) ∧ (fI h 644 (g 1 k) = if aI h 120 (m 120) k = 0 then aI h 123 (m 123) k else -1) ∧ (fI h 648 (g 1 k) = aI h 200 (m 200) k) ∧ (fI h 649 (g 1 k) = aI h 125 (m 125) k) ∧ (fR h 650 (g 1 k) = dec (g 6) (aI h 126 (m 126) k)) :=
  ⟨hJ.2.2.2.1.pl_at k hk, hJ.2.2.2.1.pl_kd k hk, hJ.2.2.2.1.pl_no k hk, hJ.2.2.2.1.py_at k hk, hJ.2.2.2.1.py_kd k hk, hJ.2.2.2.1.py_ln k hk, hJ.2.2.2.2.1.d_lev k hk, hJ.2.2.2.2.1.d_und k hk, hJ.2.2.2.2.1.d_way k hk, hJ.2.2.2.2.1.d_ord k hk, hJ.2.2.2.2.1.d_mad k hk, hJ.2.2.2.2.1.d_tor k hk, hJ.2.2.2.2.1.d_cho k hk⟩
theorem shF (hJ : JA x y b0 s0 np na nm nr ne g m h) {k : Nat} (hk : k < 8) : (aR h 409 (g 0 1) k = some (g 2 k)) ∧ (kd h (g 2 k) = 10) ∧ (fR h 1152 (g 2 k) = some (g 8 k)) ∧ (kd h (g 8 k) = 300) ∧ (ln h (g 8 k) = 60) ∧ (fI h 1153 (g 2 k) = if aI h 128 (m 128) k = 1 then aI h 129 (m 129) k else -1) ∧ (fI h 1154 (g 2 k) = if aI h 128 (m 128) k = 1 then aI h 130 (m 130) k else 0) ∧ (fR h 1155 (g 2 k) = if aI h 128 (m 128) k = 2 then some (g 3 ((aI h 131 (m 131) k).toNatClampNeg)) else none) :=
  ⟨hJ.2.2.2.1.sh_at k hk, hJ.2.2.2.1.sh_kd k hk, hJ.2.2.2.1.se_at k hk, hJ.2.2.2.1.se_kd k hk, hJ.2.2.2.1.se_ln k hk, hJ.2.2.2.2.1.d_srt k hk, hJ.2.2.2.2.1.d_siz k hk, hJ.2.2.2.2.1.d_sha k hk⟩
theorem asF (hJ : JA x y b0 s0 np na nm nr ne g m h) {k : Nat} (hk : k < na) : (aR h 440 (g 0 2) k = some (g 3 k)) ∧ (kd h (g 3 k) = 1) ∧ (fI h 0 (g 3 k) = nI k) ∧ (fR h 1 (g 3 k) = some (g 1 ((aI h 132 (m 132) k).toNatClampNeg))) ∧ (fI h 2 (g 3 k) = aI h 133 (m 133) k) ∧ (fI h 3 (g 3 k) = aI h 134 (m 134) k) ∧ (fI h 4 (g 3 k) = aI h 135 (m 135) k) ∧ (fI h 5 (g 3 k) = aI h 136 (m 136) k) ∧ (fI h 6 (g 3 k) = aI h 137 (m 137) k) ∧ (fI h 12 (g 3 k) = aI h 201 (m 201) k) ∧ (fI h 13 (g 3 k) = aI h 202 (m 202) k) ∧ (fI h 14 (g 3 k) = aI h 141 (m 141) k) ∧ (fI h 17 (g 3 k) = aI h 203 (m 203) k) ∧ (fI h 18 (g 3 k) = aI h 142 (m 142) k) ∧ (fR h 10 (g 3 k) = dec (g 4) (aI h 138 (m 138) k)) ∧ (fR h 15 (g 3 k) = dec (g 3) (aI h 139 (m 139) k)) ∧ (fR h 16 (g 3 k) = dec (g 1) (aI h 140 (m 140) k)) :=
  ⟨hJ.2.2.2.1.as_at k hk, hJ.2.2.2.1.as_kd k hk, hJ.2.2.2.1.as_no k hk, hJ.2.2.2.2.1.d_at k hk, hJ.2.2.2.2.1.d_wha k hk, hJ.2.2.2.2.1.d_who k hk, hJ.2.2.2.2.1.d_muc k hk, hJ.2.2.2.2.1.d_wri k hk, hJ.2.2.2.2.1.d_kin k hk, hJ.2.2.2.2.1.d_lat k hk, hJ.2.2.2.2.1.d_gap k hk, hJ.2.2.2.2.1.d_gon k hk, hJ.2.2.2.2.1.d_yie k hk, hJ.2.2.2.2.1.d_wor k hk, hJ.2.2.2.2.1.d_mod k hk, hJ.2.2.2.2.1.d_int k hk, hJ.2.2.2.2.1.d_dro k hk⟩
theorem moF (hJ : JA x y b0 s0 np na nm nr ne g m h) {k : Nat} (hk : k < nm) : (aR h 403 (g 0 3) k = some (g 4 k)) ∧ (kd h (g 4 k) = 4) ∧ (fI h 384 (g 4 k) = nI k) ∧ (fR h 388 (g 4 k) = some (g 11 k)) ∧ (kd h (g 11 k) = 399) ∧ (ln h (g 11 k) = (aI h 147 (m 147) k).toNatClampNeg) ∧ (fI h 385 (g 4 k) = aI h 144 (m 144) k) ∧ (fI h 387 (g 4 k) = aI h 146 (m 146) k) ∧ (fR h 386 (g 4 k) = some (g 1 ((aI h 145 (m 145) k).toNatClampNeg))) :=
  ⟨hJ.2.2.2.1.mo_at k hk, hJ.2.2.2.1.mo_kd k hk, hJ.2.2.2.1.mo_no k hk, hJ.2.2.2.1.mw_at k hk, hJ.2.2.2.1.mw_kd k hk, hJ.2.2.2.1.mw_ln k hk, hJ.2.2.2.2.1.d_mwh k hk, hJ.2.2.2.2.1.d_mda k hk, hJ.2.2.2.2.1.d_mpl k hk⟩
theorem ruF (hJ : JA x y b0 s0 np na nm nr ne g m h) {k : Nat} (hk : k < nr) : (aR h 407 (g 0 4) k = some (g 5 k)) ∧ (kd h (g 5 k) = 8) ∧ (fI h 896 (g 5 k) = nI k) ∧ (fR h 899 (g 5 k) = some (g 12 k)) ∧ (kd h (g 12 k) = 399) ∧ (fI h 897 (g 5 k) = aI h 148 (m 148) k) ∧ (fI h 898 (g 5 k) = aI h 149 (m 149) k) ∧ (fI h 900 (g 5 k) = aI h 150 (m 150) k) :=
  ⟨hJ.2.2.2.1.ru_at k hk, hJ.2.2.2.1.ru_kd k hk, hJ.2.2.2.1.ru_no k hk, hJ.2.2.2.1.rl_at k hk, hJ.2.2.2.1.rl_kd k hk, hJ.2.2.2.2.1.d_rle k hk, hJ.2.2.2.2.1.d_rda k hk, hJ.2.2.2.2.1.d_rst k hk⟩
theorem peF (hJ : JA x y b0 s0 np na nm nr ne g m h) {k : Nat} (hk : k < ne) : (aR h 404 (g 0 5) k = some (g 6 k)) ∧ (kd h (g 6 k) = 5) ∧ (fI h 512 (g 6 k) = nI k) ∧ (fR h 513 (g 6 k) = some (g 1 ((aI h 159 (m 159) k).toNatClampNeg))) ∧ (fI h 514 (g 6 k) = aI h 160 (m 160) k) :=
  ⟨hJ.2.2.2.1.pe_at k hk, hJ.2.2.2.1.pe_kd k hk, hJ.2.2.2.1.pe_no k hk, hJ.2.2.2.2.1.d_ppl k hk, hJ.2.2.2.2.1.d_pbo k hk⟩
theorem nI_n0 {v : Int32} {n : Nat} (h : vp_in v n) : (v.toNatClampNeg = 0) ↔ v = 0 := by
  constructor
  · intro q
    rw [vp_nN h, q]
    rfl
  · intro q
    rw [q]
    rfl
theorem top_iff (hJ : JA x y b0 s0 np na nm nr ne g m h) {k : Nat} (hk : k < np) : (aI h 120 (m 120) k = 3) = (k = 0) := by
  have hW := hJ.2.2.2.2.2.1
  apply propext
  constructor
  · intro q
    by_cases z : k = 0
    · exact z
    · have := hW.w_lv3 k (by omega) hk
      rw [q] at this
      have e : (3 : Int32).toInt = 3 := by decide
      omega
  · intro q
    rw [q]
    exact hW.w_l0
end BUN
