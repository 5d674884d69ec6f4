section VIND
variable {x y b0 s0 np na nm nr ne : Nat} {g : Nat → Nat → Nat} {m : Nat → Nat} {h h1 : Hp}
/-- both halves after some turns, one beside the other -/
noncomputable def viH (g : Nat → Nat → Nat) (x : Nat) (m : Nat → Nat) (y p : Nat) (kp : Nat → Prop) (v : Nat → Int32) (M : Nat → List Nat) (C : Nat → Nat) (n0 : Nat) (h : Hp) : Nat → Hp
  | 0 => h
  | j + 1 => rfT m y p (kp j) (v j) (M j) (C j) (n0 + cN kp j) (clT g x (g 1 p) (kp j) (v j) (M j) (n0 + cN kp j) (viH g x m y p kp v M C n0 h j))
def VI (x y b0 s0 np na nm nr ne : Nat) (g : Nat → Nat → Nat) (m : Nat → Nat) (p : Nat) (kp : Nat → Prop) (M : Nat → List Nat) (C : Nat → Nat) (N : Nat) (h : Hp) (j : Nat) (V : Hp) : Prop :=
  ∃ g1 : Nat → Nat → Nat, JA x y b0 s0 np (na + cN kp j) nm nr ne g1 m V ∧ (∀ f, f ≠ 3 → f ≠ 10 → g1 f = g f) ∧ (∀ b, b < na → g1 3 b = g 3 b) ∧ (∀ k, gaL V m (na + cN kp j) p k np = gaL h m na p k np) ∧ (∀ i, j ≤ i → i < N → ∀ b, b ∈ M i → aI V 139 (m 139) b = -1) ∧ (∀ i, i < na + cN kp j → aI V 132 (m 132) i = nI p → ∃ j', j' < j ∧ aI V 133 (m 133) i = nI (C j' / 8) ∧ aI V 134 (m 134) i = nI (C j' % 8)) ∧ (∀ k, isRk k = true → (k < 132 ∨ 142 < k ∧ k ≠ 201) → aI V k (m k) = aI h k (m k)) ∧ (∀ b, b < na → aI V 135 (m 135) b = aI h 135 (m 135) b) ∧ (∀ b, b < na → fI V 7 (g 3 b) = fI h 7 (g 3 b)) ∧ fI V 1408 y = fI h 1408 y
theorem rf_fI {p : Nat} {kp : Prop} {v : Int32} {L : List Nat} {k n f : Nat} (hf : f ≠ 1410) : fI (rfT m y p kp v L k n h) f = fI h f := by
  unfold rfT
  by_cases c : kp
  · rw [iF_y c, (lkR_o 139 (m 139) (nI n) L _ L.length).2.2.1]
    unfold psR
    rw [fI_sI_n _ _ _ _ _ hf]
    rfl
  · rw [iF_n c, (lkR_o 140 (m 140) (nI p) L h L.length).2.2.1]
theorem vi_all (hJ : JA x y b0 s0 np na nm nr ne g m h) {p : Nat} (hpp : p < np) (hm0 : p = m 0) (hlv : ¬ aI h 120 (m 120) p = 0) (hu : ¬ aI h 121 (m 121) p = nI p) (hno : ∀ i, i < na → ¬ aI h 132 (m 132) i = nI p) {N : Nat} {C : Nat → Nat} {M : Nat → List Nat} {kp : Nat → Prop} {v : Nat → Int32} (hC : ∀ j, j < N → C j < 128) (hM : ∀ j, j < N → M j = gaL h m na p (C j) np ∧ ¬ M j = []) (hin : ∀ i j, i < N → j < N → C i = C j → i = j) (room : na + cN kp N ≤ 160) (hv : ∀ j, j < N → 0 ≤ (v j).toInt ∧ (v j).toInt ≤ 99) (hinto : ∀ j, j < N → ∀ b, b ∈ M j → aI h 139 (m 139) b = -1) : ∀ j, j ≤ N → VI x y b0 s0 np na nm nr ne g m p kp M C N h j (viH g x m y p kp v M C na h j) := by
  have hbd0 := hJ.2.2.1.2
  have hW0 := hJ.2.2.2.2.2.1
  have memO : ∀ j, j < N → ∀ b, b ∈ M j → b < na ∧ codN h m b = C j := fun j hj b hb => by
    rw [(hM j hj).1] at hb
    exact ⟨(ga_m hW0 (hC j hj) hb).1, (ga_m hW0 (hC j hj) hb).2.1⟩
  intro j
  induction j with
  | zero =>
    intro _
    exact ⟨g, hJ, fun _ _ _ => rfl, fun _ _ => rfl, fun _ => rfl, fun i _ hi b hb => hinto i hi b hb, fun i hi e => absurd e (hno i hi), fun _ _ _ => rfl, fun _ _ => rfl, fun _ _ => rfl, rfl⟩
  | succ j ih =>
    intro hjN
    have hj : j < N := by omega
    obtain ⟨g1, hJ1, ga, gb, I1, I2, I3, I4, I5, I6, I7⟩ := ih (by omega)
    have en : na + cN kp (j + 1) = (na + cN kp j) + cN (fun _ => kp j) 1 := by
      by_cases c : kp j
      · rw [cN_y c, cN_y (P := fun _ => kp j) c]
        rfl
      · rw [cN_n c, cN_n (P := fun _ => kp j) c]
        rfl
    have rm : na + cN kp (j + 1) ≤ 160 := by
      have := cN_to (P := kp) (show j + 1 ≤ N by omega)
      omega
    show VI x y b0 s0 np na nm nr ne g m p kp M C N h (j + 1) (rfT m y p (kp j) (v j) (M j) (C j) (na + cN kp j) (clT g x (g 1 p) (kp j) (v j) (M j) (na + cN kp j) (viH g x m y p kp v M C na h j)))
    generalize viH g x m y p kp v M C na h j = V at *
    have bM := memO j hj
    have l0 : 0 < (M j).length := List.length_pos_iff.mpr (hM j hj).2
    have cg := clT_cg (g := g) (g1 := g1) (L := M j) l0 (fun t ht => gb _ (bM _ (gD_mem ht)).1) (ga 0 (by decide) (by decide)) x (g 1 p) (kp j) (v j) (na + cN kp j) V
    have e1 : g1 1 = g 1 := ga 1 (by decide) (by decide)
    have hLV : gaL V m (na + cN kp j) p (C j) np = M j := by rw [I1, (hM j hj).1]
    have z1 := hJ1.2.2.2.2.2.2.2.1
    have eU := eqU_cl (g := g) (x := x) (pl := g 1 p) z1 (kp j) (v j) (M j) (na + cN kp j)
    -- both halves after the turn
    have hJF : ∃ g2, JA x y b0 s0 np (na + cN kp (j + 1)) nm nr ne g2 m (rfT m y p (kp j) (v j) (M j) (C j) (na + cN kp j) (clT g x (g 1 p) (kp j) (v j) (M j) (na + cN kp j) V)) ∧ (∀ f, f ≠ 3 → f ≠ 10 → g2 f = g f) ∧ (∀ b, b < na → g2 3 b = g 3 b) := by
      rw [← cg, ← e1]
      by_cases c : kp j
      · have ct : kp j = True := eq_true c
        have lt : na + cN kp j < 160 := by
          rw [cN_y c] at rm
          omega
        refine ⟨upG (upG g1 3 (na + cN kp j) (hn V)) 10 (na + cN kp j) (hn V + 1), ?_, fun f h3 h10 => ?_, fun b hb => ?_⟩
        · rw [cN_y c, ct]
          refine stepK hJ1 lt hpp (by rw [I4 120 rfl (Or.inl (by decide))]; exact hlv) hm0 (hC j hj) hLV (hM j hj).2 (fun b hb => I2 j (Nat.le_refl _) hj b hb) (fun i hi w1 w2 w3 => ?_) (hv j hj)
          obtain ⟨j', j1, j2, j3⟩ := I3 i hi w1
          have c1 := hC j hj
          have c2 := hC j' (by omega)
          have d1 := (nI_eq (by omega) (by omega)).mp (j2.symm.trans w2)
          have d2 := (nI_eq (by omega) (by omega)).mp (j3.symm.trans w3)
          have := hin j' j (by omega) hj (by omega)
          omega
        · rw [upG_n _ _ _ _ _ h10, upG_n _ _ _ _ _ h3]
          exact ga f h3 h10
        · rw [upG_n _ _ _ _ _ (by decide), upG_o _ _ _ _ _ (by omega)]
          exact gb b hb
      · have cf : kp j = False := eq_false c
        refine ⟨g1, ?_, ga, gb⟩
        rw [cN_n c, cf]
        exact stepD hJ1 hpp (fun b hb => by have := (bM b hb).1; omega) (v j) (C j)
    obtain ⟨g2, hJ2, ga2, gb2⟩ := hJF
    have hVG : ∀ k, isRk k = true → aI (clT g x (g 1 p) (kp j) (v j) (M j) (na + cN kp j) V) k (m k) = aI V k (m k) := fun k hk => (eU (m k) (hJ1.1.rk hk)).2.2.2.2.1 k
    have hVf : ∀ f a, f ≠ 1293 → kd V a ≠ 0 → fI (clT g x (g 1 p) (kp j) (v j) (M j) (na + cN kp j) V) f a = fI V f a := fun f a q1 q2 => (eU a q2).2.2.1 f q1
    have hA1 := hJ1.1
    unfold JM at hA1
    have k3 : ∀ b, b < na → kd V (g 3 b) ≠ 0 := fun b hb => by
      rw [← gb b hb, hJ1.2.2.2.1.as_kd b (by omega)]
      decide
    generalize clT g x (g 1 p) (kp j) (v j) (M j) (na + cN kp j) V = G at *
    have st := fun k' => gaL_st (m := m) (y := y) (V := V) (G := G) (p := p) (n := na + cN kp j) (kp := kp j) (v := v j) (L := M j) (k := C j) hVG rfl hbd0.2.1 hpp (by rw [I4 121 rfl (Or.inl (by decide))]; exact hu) k' np (Nat.le_refl _)
    refine ⟨g2, hJ2, ga2, gb2, fun k' => ?_, fun i h1 h2 b hb => ?_, fun i hi w => ?_, fun k hk ho => ?_, fun b hb => ?_, fun b hb => ?_, ?_⟩
    · rw [en, st k']
      exact I1 k'
    · have nb : ¬ b ∈ M j := by
        intro w
        have a1 := (memO i h2 b hb).2
        have a2 := (memO j hj b w).2
        have := hin i j h2 hj (a1.symm.trans a2)
        omega
      have lb := (memO i h2 b hb).1
      rw [rf_139 nb (by omega), hVG 139 rfl]
      exact I2 i (by omega) h2 b hb
    · by_cases e : i < na + cN kp j
      · rw [rf_old (by decide) (by decide) (by omega), hVG 132 rfl] at w
        rw [rf_old (by decide) (by decide) (by omega), rf_old (by decide) (by decide) (by omega), hVG 133 rfl, hVG 134 rfl]
        obtain ⟨j', j1, j2, j3⟩ := I3 i e w
        exact ⟨j', by omega, j2, j3⟩
      · by_cases c : kp j
        · rw [cN_y c] at hi
          obtain rfl : i = na + cN kp j := by omega
          have := rf_new (m := m) (y := y) (h := G) (p := p) (kp := kp j) c (v := v j) (L := M j) (k := C j) (n := na + cN kp j)
          exact ⟨j, by omega, this.2.1, this.2.2⟩
        · rw [cN_n c] at hi
          omega
    · rw [rf_out ho, hVG k hk]
      exact I4 k hk ho
    · rw [rf_old (by decide) (by decide) (by omega), hVG 135 rfl]
      exact I5 b hb
    · rw [rf_fI (by decide), hVf 7 _ (by decide) (k3 b hb)]
      exact I6 b hb
    · rw [rf_fI (by decide), hVf 1408 y (by decide) (by simp only [hA1]; decide)]
      exact I7
end VIND
