theorem suN_le {f : Nat → Nat} {c : Nat} : ∀ {n : Nat}, (∀ i, i < n → f i ≤ c) → suN f n ≤ c * n := by
  intro n
  induction n with
  | zero => intro _; exact Nat.zero_le _
  | succ n ih =>
    intro h
    show suN f n + f n ≤ c * (n + 1)
    have := ih (fun i hi => h i (by omega))
    have := h n (by omega)
    rw [Nat.mul_succ]
    omega
theorem suN_ge {f : Nat → Nat} {i : Nat} : ∀ {n : Nat}, i < n → f i ≤ suN f n := by
  intro n
  induction n with
  | zero => intro h; omega
  | succ n ih =>
    intro h
    show f i ≤ suN f n + f n
    by_cases c : i = n
    · rw [c]; omega
    · have := ih (by omega)
      omega
theorem abI_d : ∀ a, a < 100 → ∀ b, b < 100 → abI (nI a - nI b) = nI (if b ≤ a then a - b else b - a) := by decide +kernel
theorem abI_e {a b : Nat} (ha : a ≤ 99) (hb : b ≤ 99) : ∃ w, w ≤ 99 ∧ abI (nI a - nI b) = nI w := by
  refine ⟨_, ?_, abI_d a (by omega) b (by omega)⟩
  split <;> omega
theorem bel_up {u : Nat → Int32} : ∀ {f p q : Nat}, bel u f p q → bel u (f + 1) p q := by
  intro f
  induction f with
  | zero => intro p q h; exact Or.inl h
  | succ f ih =>
    intro p q h
    rcases h with h | ⟨h1, h2⟩
    · exact Or.inl h
    · exact Or.inr ⟨h1, ih h2⟩
section POS
variable {x y b0 s0 np na nm nr ne : Nat} {g : Nat → Nat → Nat} {m : Nat → Nat} {h : Hp}
theorem hbA_e (hW : JW y np na nm nr ne m h) (hna : na ≤ 160) (hnp : np ≤ 24) {a : Nat} (ha : a < na) : ∃ z, 1 ≤ z ∧ z ≤ 159840 ∧ hbA (aI h 120 (m 120)) (aI h 124 (m 124)) (aI h 132 (m 132)) (aI h 139 (m 139)) na a = nI z := by
  have t : ∀ b, b < na → aI h 124 (m 124) (aI h 132 (m 132) b).toNatClampNeg = nI (aI h 124 (m 124) (aI h 132 (m 132) b).toNatClampNeg).toNatClampNeg ∧ (aI h 124 (m 124) (aI h 132 (m 132) b).toNatClampNeg).toNatClampNeg ≤ 999 := by
    intro b hb
    obtain ⟨z, z1, z2⟩ := rngN (N := 999) (hW.w_hea _ (vp_lt2 (hW.w_at b hb)))
    rw [z2, nI_clamp (by omega)]
    exact ⟨rfl, z1⟩
  refine ⟨suN (fun b => iF (aI h 120 (m 120) (aI h 132 (m 132) b).toNatClampNeg = 0 ∧ bel (aI h 139 (m 139)) 4 b a) (aI h 124 (m 124) (aI h 132 (m 132) b).toNatClampNeg).toNatClampNeg 0) na, ?_, ?_, ?_⟩
  · obtain ⟨b, b1, b2, b3⟩ := hW.w_src a ha
    have q := suN_ge (f := fun b => iF (aI h 120 (m 120) (aI h 132 (m 132) b).toNatClampNeg = 0 ∧ bel (aI h 139 (m 139)) 4 b a) (aI h 124 (m 124) (aI h 132 (m 132) b).toNatClampNeg).toNatClampNeg 0) b1
    rw [iF_y ⟨b2, bel_up b3⟩] at q
    have l := hW.w_hl0 _ (vp_lt2 (hW.w_at b b1)) b2
    obtain ⟨t1, t2⟩ := t b b1
    rw [t1, nI_toInt (by omega)] at l
    omega
  · have := suN_le (f := fun b => iF (aI h 120 (m 120) (aI h 132 (m 132) b).toNatClampNeg = 0 ∧ bel (aI h 139 (m 139)) 4 b a) (aI h 124 (m 124) (aI h 132 (m 132) b).toNatClampNeg).toNatClampNeg 0) (c := 999) (n := na) (fun b hb => by
      by_cases c : aI h 120 (m 120) (aI h 132 (m 132) b).toNatClampNeg = 0 ∧ bel (aI h 139 (m 139)) 4 b a
      · rw [iF_y c]; exact (t b hb).2
      · rw [iF_n c]; exact Nat.zero_le _)
    omega
  · unfold hbA
    rw [← acI_nI]
    apply acI_congr
    intro b hb
    by_cases c : aI h 120 (m 120) (aI h 132 (m 132) b).toNatClampNeg = 0 ∧ bel (aI h 139 (m 139)) 4 b a
    · rw [iF_y c, iF_y c]; exact (t b hb).1
    · rw [iF_n c, iF_n c]; rfl
theorem saV_pos (hW : JW y np na nm nr ne m h) (hna : na ≤ 160) (hnp : np ≤ 24) {b v : Nat} (hb : b < na) (hv : v ≤ 99) : ∃ z, 1 ≤ z ∧ z ≤ 15984000 ∧ saV h m na b (nI v) = nI z := by
  obtain ⟨z, z1, z2, z3⟩ := hbA_e hW hna hnp hb
  obtain ⟨c, c1⟩ := mc_e hW.w_muc hb
  obtain ⟨w, w1, w2⟩ := abI_e c1 hv
  refine ⟨z * (100 - w), Nat.mul_pos (by omega) (by omega), Nat.le_trans (Nat.mul_le_mul z2 (show 100 - w ≤ 100 by omega)) (by decide), ?_⟩
  unfold saV
  rw [z3, c, w2]
  obtain ⟨k, hk⟩ : ∃ k, 100 = w + k := ⟨100 - w, by omega⟩
  have e : (100 : Int32) - nI w = nI (100 - w) := by
    rw [show (100 : Int32) = nI 100 from rfl, hk, Nat.add_sub_cancel_left, Nat.add_comm, ← nI_add, Int32.add_sub_cancel]
  rw [e, pk_mul]
theorem sgV_pos (hW : JW y np na nm nr ne m h) (hna : na ≤ 160) (hnp : np ≤ 24) {L : List Nat} (l0 : 0 < L.length) (l24 : L.length ≤ 24) (hL : ∀ i, i < L.length → L.getD i 0 < na) (d : Nat) : (0 : Int32) < sgV h m na L d := by
  have jl : jvN (mgF h m L) L.length (rkN L.length d) ≤ 99 := jvN_le (mgF_le hW.w_muc hL) (rkN_lt l0)
  unfold sgV
  generalize jvN (mgF h m L) L.length (rkN L.length d) = v at *
  have t : ∀ i, i < L.length → saV h m na (L.getD i 0) (nI v) = nI (saV h m na (L.getD i 0) (nI v)).toNatClampNeg ∧ 1 ≤ (saV h m na (L.getD i 0) (nI v)).toNatClampNeg ∧ (saV h m na (L.getD i 0) (nI v)).toNatClampNeg ≤ 15984000 := by
    intro i hi
    obtain ⟨z, z1, z2, z3⟩ := saV_pos hW hna hnp (hL i hi) jl
    rw [z3, nI_clamp (by omega)]
    exact ⟨rfl, z1, z2⟩
  rw [acI_congr (fun i hi => (t i hi).1), acI_nI]
  have u1 := suN_le (f := fun i => (saV h m na (L.getD i 0) (nI v)).toNatClampNeg) (c := 15984000) (n := L.length) (fun i hi => (t i hi).2.2)
  have u2 := suN_ge (f := fun i => (saV h m na (L.getD i 0) (nI v)).toNatClampNeg) l0
  have u3 := (t 0 l0).2.1
  exact (nI_ltI (a := 0) (by omega) (by omega)).mpr (by omega)
end POS
