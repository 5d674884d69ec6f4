theorem bkL_pre (F : Nat → List Nat) (a : Nat) : ∀ d, ∃ R, bkL F (a + d) = bkL F a ++ R := by
  intro d
  induction d with
  | zero => exact ⟨[], (List.append_nil _).symm⟩
  | succ d ih =>
    obtain ⟨R, e⟩ := ih
    refine ⟨R ++ F (a + d), ?_⟩
    show bkL F (a + d) ++ F (a + d) = _
    rw [e, List.append_assoc]
theorem fL_one {P : Nat → Prop} {a : Nat} (h0 : P a) : ∀ {n : Nat}, (∀ i, 0 < i → i < n + 1 → ¬ P (a + i)) → fL P (a + (n + 1)) = fL P a ++ [a] := by
  intro n
  induction n with
  | zero => intro _; exact fL_y h0
  | succ n ih =>
    intro h
    rw [show a + (n + 1 + 1) = (a + (n + 1)) + 1 by omega, fL_n (h (n + 1) (by omega) (by omega))]
    exact ih (fun i h1 h2 => h i h1 (by omega))
section CODE
variable {x y b0 s0 np na nm nr ne : Nat} {g : Nat → Nat → Nat} {m : Nat → Nat} {h : Hp}
def codN (h : Hp) (m : Nat → Nat) (b : Nat) : Nat := 8 * whN h m b + wmN h m b
theorem cod_c (hW : JW y np na nm nr ne m h) {a b : Nat} (ha : a < na) (hb : b < na) : (whN h m a = whN h m b ∧ wmN h m a = wmN h m b) ↔ codN h m a = codN h m b := by
  have w1 : wmN h m a < 8 := vp_lt2 (hW.w_who a ha)
  have w2 : wmN h m b < 8 := vp_lt2 (hW.w_who b hb)
  unfold codN
  omega
noncomputable def gsB (h : Hp) (m : Nat → Nat) (na u k : Nat) : List Nat := bkL (fun key => fL (gsP h m u key) na) (24 * k)
/-- something stands of a WHAT and WHOM below u -/
def gnP (h : Hp) (m : Nat → Nat) (na u np k : Nat) : Prop := ¬ gaL h m na u k np = []
theorem gs_m (hW : JW y np na nm nr ne m h) (hb : np ≤ 24) {u c b : Nat} (hm : b ∈ gsB h m na u c) : b < na ∧ codN h m b < c := by
  obtain ⟨key, k1, k2⟩ := bkL_mem hm
  obtain ⟨k3, k4⟩ := fL_mem k2
  have e := k4.2.2
  unfold kyN at e
  refine ⟨k3, ?_⟩
  unfold codN
  omega
theorem ga_m (hW : JW y np na nm nr ne m h) {u k q b : Nat} (hk : k < 128) (hm : b ∈ gaL h m na u k q) : b < na ∧ codN h m b = k ∧ stN h m b := by
  induction q with
  | zero => cases hm
  | succ q ih =>
    have h2 : b ∈ gaL h m na u k q ++ (iF (aI h 121 (m 121) q = nI u) (fL (gaP h m k q) na) []) := hm
    rw [List.mem_append] at h2
    rcases h2 with h2 | h2
    · exact ih h2
    · by_cases c : aI h 121 (m 121) q = nI u
      · rw [iF_y c] at h2
        obtain ⟨k3, k4⟩ := fL_mem h2
        obtain ⟨w, v, w1, v1, e1, e2, e3⟩ := codeW_e hW k3
        have e4 := k4.2.1
        rw [e3] at e4
        have e5 := (nI_eq (by omega) (by omega)).mp e4
        have e6 : codN h m b = 8 * w + v := by
          unfold codN whN wmN
          rw [e1, e2, nI_clamp (by omega), nI_clamp (by omega)]
        exact ⟨k3, by omega, k4.2.2⟩
      · rw [iF_n c] at h2
        cases h2
theorem gsB_s (hW : JW y np na nm nr ne m h) (hb : np ≤ 24) (u : Nat) {k : Nat} (hk : k < 128) : gsB h m na u (k + 1) = gsB h m na u k ++ gaL h m na u k np := gs_code hW hb u k hk
theorem gsB_T (h : Hp) (m : Nat → Nat) (na u : Nat) {k : Nat} (hk : k ≤ 128) : ∃ R, gsT h m u na = gsB h m na u k ++ R := by
  obtain ⟨R, e⟩ := bkL_pre (fun key => fL (gsP h m u key) na) (24 * k) (24 * (128 - k))
  refine ⟨R, ?_⟩
  unfold gsT gsB
  rw [← e]
  congr 1
  omega
theorem gsB_le (h : Hp) (m : Nat → Nat) (na u : Nat) {k : Nat} (hk : k ≤ 128) : (gsB h m na u k).length ≤ (gsT h m u na).length := by
  obtain ⟨R, e⟩ := gsB_T h m na u hk
  rw [e, List.length_append]
  omega
theorem gsB_at (hW : JW y np na nm nr ne m h) (hb : np ≤ 24) (u : Nat) {k i : Nat} (hk : k < 128) (hi : i < (gaL h m na u k np).length) : (gsT h m u na).getD ((gsB h m na u k).length + i) 0 = (gaL h m na u k np).getD i 0 := by
  obtain ⟨R, e⟩ := gsB_T h m na u (show k + 1 ≤ 128 by omega)
  rw [e, gsB_s hW hb u hk, List.append_assoc, gD_ap, if_neg (by omega), gD_ap, if_pos (by omega), Nat.add_sub_cancel_left]
theorem gsB_lo (h : Hp) (m : Nat → Nat) (na u : Nat) {k j : Nat} (hk : k ≤ 128) (hj : j < (gsB h m na u k).length) : (gsT h m u na).getD j 0 ∈ gsB h m na u k := by
  obtain ⟨R, e⟩ := gsB_T h m na u hk
  rw [e, gD_ap, if_pos hj]
  exact gD_mem hj
theorem starts_l (hW : JW y np na nm nr ne m h) (hb : np ≤ 24) (u : Nat) : ∀ k, k ≤ 128 → fL (sbP h m (gsT h m u na)) (gsB h m na u k).length = (fL (gnP h m na u np) k).map (fun c => (gsB h m na u c).length) := by
  intro k
  induction k with
  | zero => intro _; rfl
  | succ k ih =>
    intro hk
    have hk2 : k < 128 := by omega
    rw [gsB_s hW hb u hk2, List.length_append]
    by_cases c : gaL h m na u k np = []
    · rw [c, fL_n (fun w => w c)]
      exact ih (by omega)
    · rw [fL_y (show gnP h m na u np k from c), List.map_append, ← ih (by omega)]
      have l0 : 0 < (gaL h m na u k np).length := List.length_pos_iff.mpr c
      obtain ⟨n, hn⟩ : ∃ n, (gaL h m na u k np).length = n + 1 := ⟨(gaL h m na u k np).length - 1, by omega⟩
      have mem : ∀ i, i < n + 1 → (gsT h m u na).getD ((gsB h m na u k).length + i) 0 < na ∧ codN h m ((gsT h m u na).getD ((gsB h m na u k).length + i) 0) = k := by
        intro i hi
        rw [gsB_at hW hb u hk2 (by omega)]
        obtain ⟨a1, a2, -⟩ := ga_m hW hk2 (gD_mem (show i < (gaL h m na u k np).length by omega))
        exact ⟨a1, a2⟩
      rw [hn]
      refine fL_one ?_ (fun i i1 i2 => ?_)
      · by_cases z : (gsB h m na u k).length = 0
        · exact Or.inl z
        · right
          intro w
          obtain ⟨a1, a2⟩ := gs_m hW hb (gsB_lo h m na u (show k ≤ 128 by omega) (show (gsB h m na u k).length - 1 < (gsB h m na u k).length by omega))
          obtain ⟨b1, b2⟩ := mem 0 (by omega)
          rw [Nat.add_zero] at b1 b2
          have := (cod_c hW b1 a1).mp w
          omega
      · rintro (w | w)
        · omega
        · apply w
          obtain ⟨b1, b2⟩ := mem i i2
          obtain ⟨a1, a2⟩ := mem (i - 1) (by omega)
          rw [show (gsB h m na u k).length + i - 1 = (gsB h m na u k).length + (i - 1) by omega]
          exact (cod_c hW b1 a1).mpr (by omega)
theorem ends_l (hW : JW y np na nm nr ne m h) (hb : np ≤ 24) (u : Nat) : ∀ k, k ≤ 128 → ∀ j, j < (fL (gnP h m na u np) k).length → (if j + 1 < (fL (gnP h m na u np) k).length then (gsB h m na u ((fL (gnP h m na u np) k).getD (j + 1) 0)).length else (gsB h m na u k).length) = (gsB h m na u ((fL (gnP h m na u np) k).getD j 0)).length + (gaL h m na u ((fL (gnP h m na u np) k).getD j 0) np).length := by
  intro k
  induction k with
  | zero => intro _ j hj; exact absurd hj (Nat.not_lt_zero _)
  | succ k ih =>
    intro hk j hj
    have hk2 : k < 128 := by omega
    by_cases c : gaL h m na u k np = []
    · rw [fL_n (show ¬ gnP h m na u np k from fun w => w c)] at hj ⊢
      have := ih (by omega) j hj
      rw [gsB_s hW hb u hk2, c, List.append_nil]
      exact this
    · rw [fL_y (show gnP h m na u np k from c)] at hj ⊢
      rw [List.length_append, List.length_singleton] at hj ⊢
      by_cases z : j = (fL (gnP h m na u np) k).length
      · rw [if_neg (by omega), z, gD_r, gsB_s hW hb u hk2, List.length_append]
      · have ih' := ih (by omega) j (by omega)
        rw [if_pos (by omega), gD_l (show j < (fL (gnP h m na u np) k).length by omega)]
        by_cases z2 : j + 1 = (fL (gnP h m na u np) k).length
        · rw [if_neg (by omega)] at ih'
          rw [z2, gD_r]
          exact ih'
        · rw [if_pos (by omega)] at ih'
          rw [gD_l (by omega)]
          exact ih'
/-- the class has found these groups -/
def GQ (h : Hp) (g : Nat → Nat → Nat) (na N : Nat) (M : Nat → List Nat) : Prop := fI h 260 (g 0 9) = nI N ∧ ∃ st : Nat → Nat, ∀ j, j < N → 0 < (M j).length ∧ st j + (M j).length ≤ 160 ∧ aI h 102 (g 0 15) j = nI (st j) ∧ aI h 102 (g 0 15) (j + 1) = nI (st j + (M j).length) ∧ ∀ i, i < (M j).length → (M j).getD i 0 < na ∧ aR h 400 (g 0 14) (st j + i) = some (g 3 ((M j).getD i 0))
noncomputable def cdL (h : Hp) (m : Nat → Nat) (na u np : Nat) : List Nat := fL (gnP h m na u np) 128
noncomputable def cdM (h : Hp) (m : Nat → Nat) (na u np j : Nat) : List Nat := gaL h m na u ((cdL h m na u np).getD j 0) np
theorem gather_e (hJ : JA x y b0 s0 np na nm nr ne g m h) {u : Nat} (hu : u < np) (Q : Hp → Prop) (hQ : ∀ h', eqS h h' → GQ h' g na (cdL h m na u np).length (cdM h m na u np) → Q h') : w_X10_gather (some x) (some (g 1 u)) h Q := by
  have hbd := hJ.2.2.1.2
  have hW := hJ.2.2.2.2.2.1
  have hb : np ≤ 24 := by omega
  refine gatherC_e hJ hu _ ?_
  intro h1 e1 hG hl
  have hT : ∀ j, j < (gsT h m u na).length → (gsT h m u na).getD j 0 < na := fun j hj => (gs_m hW hb (gsB_lo h m na u (Nat.le_refl 128) hj)).1
  refine starts_e (hJ.same e1) hG (by omega) hT _ ?_
  intro h2 e2 hG2 hS
  have sb : sbP h1 m (gsT h m u na) = sbP h m (gsT h m u na) := by
    funext i
    have E := eqS_l e1
    unfold sbP whN wmN
    simp only [E]
  have sl : fL (sbP h m (gsT h m u na)) (gsT h m u na).length = (cdL h m na u np).map (fun c => (gsB h m na u c).length) := starts_l hW hb u 128 (Nat.le_refl _)
  rw [sb, sl] at hS
  obtain ⟨s1, s2, s3⟩ := hS
  rw [List.length_map] at s1 s2 s3
  refine hQ h2 (e1.tr e2) ⟨s1, fun j => (gsB h m na u ((cdL h m na u np).getD j 0)).length, fun j hj => ?_⟩
  obtain ⟨c1, c2⟩ : (cdL h m na u np).getD j 0 < 128 ∧ gnP h m na u np ((cdL h m na u np).getD j 0) := fL_lt hj
  have el : (if j + 1 < (cdL h m na u np).length then (gsB h m na u ((cdL h m na u np).getD (j + 1) 0)).length else (gsB h m na u 128).length) = (gsB h m na u ((cdL h m na u np).getD j 0)).length + (gaL h m na u ((cdL h m na u np).getD j 0) np).length := ends_l hW hb u 128 (Nat.le_refl _) j hj
  have le1 : (gsB h m na u ((cdL h m na u np).getD j 0)).length + (cdM h m na u np j).length ≤ (gsT h m u na).length := by
    have := gsB_le h m na u (show (cdL h m na u np).getD j 0 + 1 ≤ 128 by omega)
    rw [gsB_s hW hb u c1, List.length_append] at this
    exact this
  refine ⟨List.length_pos_iff.mpr c2, by show (gsB h m na u ((cdL h m na u np).getD j 0)).length + (cdM h m na u np j).length ≤ 160; omega, ?_, ?_, fun i hi => ⟨(ga_m hW c1 (gD_mem hi)).1, ?_⟩⟩
  · have := s2 j hj
    rw [map_gD _ _ hj] at this
    exact this
  · show _ = nI (_ + (gaL h m na u ((cdL h m na u np).getD j 0) np).length)
    by_cases z : j + 1 < (cdL h m na u np).length
    · have t := s2 (j + 1) z
      rw [map_gD _ _ z] at t
      rw [if_pos z] at el
      rw [t]
      exact congrArg nI el
    · rw [if_neg z] at el
      rw [show j + 1 = (cdL h m na u np).length by omega, s3]
      exact congrArg nI el
  · have := hG2.2 ((gsB h m na u ((cdL h m na u np).getD j 0)).length + i) (by have hi2 : i < (cdM h m na u np j).length := hi; omega)
    rw [gsB_at hW hb u c1 hi] at this
    exact this
end CODE
