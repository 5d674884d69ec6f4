theorem cN_mono {P P2 : Nat → Prop} : ∀ {n : Nat}, (∀ i, i < n → P i → P2 i) → cN P n ≤ cN P2 n := by
  intro n
  induction n with
  | zero => intro _; exact Nat.le_refl _
  | succ n ih =>
    intro h
    have i := ih (fun i hi => h i (by omega))
    by_cases c : P n
    · rw [cN_y c, cN_y (h n (by omega) c)]; omega
    · rw [cN_n c]
      by_cases c2 : P2 n
      · rw [cN_y c2]; omega
      · rw [cN_n c2]; exact i
theorem cN_cg {P P2 : Nat → Prop} {n : Nat} (h : ∀ i, i < n → (P i ↔ P2 i)) : cN P n = cN P2 n :=
  Nat.le_antisymm (cN_mono (fun i hi => (h i hi).mp)) (cN_mono (fun i hi => (h i hi).mpr))
theorem cN_z {P : Nat → Prop} : ∀ {n : Nat}, (∀ i, i < n → ¬ P i) → cN P n = 0 := by
  intro n
  induction n with
  | zero => intro _; rfl
  | succ n ih =>
    intro h
    rw [cN_n (h n (by omega))]
    exact ih (fun i hi => h i (by omega))
theorem cN_all {P : Nat → Prop} : ∀ {n : Nat}, (∀ i, i < n → P i) → cN P n = n := by
  intro n
  induction n with
  | zero => intro _; rfl
  | succ n ih =>
    intro h
    rw [cN_y (h n (by omega)), ih (fun i hi => h i (by omega))]
theorem cN_up {P : Nat → Prop} {r : Nat} : ∀ {n : Nat}, (∀ i, r ≤ i → i < n → ¬ P i) → cN P n ≤ r := by
  intro n
  induction n with
  | zero => intro _; exact Nat.zero_le _
  | succ n ih =>
    intro h
    by_cases c : r ≤ n
    · rw [cN_n (h n c (by omega))]
      exact ih (fun i h1 h2 => h i h1 (by omega))
    · have := cN_le P (n + 1)
      omega
theorem cN_dn {P : Nat → Prop} {r : Nat} : ∀ {n : Nat}, r < n → (∀ i, i ≤ r → P i) → r < cN P n := by
  intro n
  induction n with
  | zero => intro hr; omega
  | succ n ih =>
    intro hr h
    by_cases c : r < n
    · have := ih c h
      by_cases c2 : P n
      · rw [cN_y c2]; omega
      · rw [cN_n c2]; exact this
    · rw [cN_all (fun i hi => h i (by omega))]
      exact hr
/-- v is what stands at place r when they are put in order -/
def JV (f : Nat → Nat) (n r v : Nat) : Prop := cN (fun i => f i < v) n ≤ r ∧ r < cN (fun i => f i ≤ v) n
theorem JV.one {f : Nat → Nat} {n r v w : Nat} (a : JV f n r v) (b : JV f n r w) : v = w := by
  obtain ⟨a1, a2⟩ := a
  obtain ⟨b1, b2⟩ := b
  rcases Nat.lt_trichotomy v w with c | c | c
  · have := cN_mono (P := fun i => f i ≤ v) (P2 := fun i => f i < w) (n := n) (fun i _ z => Nat.lt_of_le_of_lt z c)
    omega
  · exact c
  · have := cN_mono (P := fun i => f i ≤ w) (P2 := fun i => f i < v) (n := n) (fun i _ z => Nat.lt_of_le_of_lt z c)
    omega
theorem JV.of_le {f : Nat → Nat} {n r : Nat} : ∀ v, r < cN (fun i => f i ≤ v) n → ∃ w, JV f n r w := by
  intro v
  induction v with
  | zero =>
    intro h
    exact ⟨0, by rw [cN_z (fun i _ => Nat.not_lt_zero _)]; exact Nat.zero_le _, h⟩
  | succ v ih =>
    intro h
    by_cases c : r < cN (fun i => f i ≤ v) n
    · exact ih c
    · refine ⟨v + 1, ?_, h⟩
      rw [cN_cg (P2 := fun i => f i ≤ v) (fun i _ => Nat.lt_succ_iff)]
      omega
theorem JV.ex {f : Nat → Nat} {n r B : Nat} (hB : ∀ i, i < n → f i ≤ B) (hr : r < n) : ∃ p, p < n ∧ JV f n r (f p) := by
  obtain ⟨w, hw⟩ := JV.of_le (f := f) (n := n) (r := r) B (by rw [cN_all hB]; exact hr)
  by_cases c : ∃ p, p < n ∧ f p = w
  · obtain ⟨p, p1, p2⟩ := c
    exact ⟨p, p1, by rw [p2]; exact hw⟩
  · have := cN_mono (P := fun i => f i ≤ w) (P2 := fun i => f i < w) (n := n) (fun i hi z => by
      have : ¬ f i = w := fun e => c ⟨i, hi, e⟩
      omega)
    have := hw.1
    have := hw.2
    omega
/-- put in at a place -/
def insF (s : Nat → Nat) (p x : Nat) : Nat → Nat := fun i => if i < p then s i else if i = p then x else s (i - 1)
theorem insF_c (P : Nat → Prop) (s : Nat → Nat) (p x : Nat) : ∀ d, cN (fun i => P (insF s p x i)) (p + d + 1) = cN (fun i => P (s i)) (p + d) + iF (P x) 1 0 := by
  intro d
  induction d with
  | zero =>
    have e : insF s p x p = x := by unfold insF; rw [if_neg (Nat.lt_irrefl _), if_pos rfl]
    have c : cN (fun i => P (insF s p x i)) p = cN (fun i => P (s i)) p := cN_cg (fun i hi => by unfold insF; rw [if_pos hi])
    rw [Nat.add_zero]
    by_cases q : P x
    · rw [iF_y q, cN_y (P := fun i => P (insF s p x i)) (show P (insF s p x p) by rw [e]; exact q), c]
      rfl
    · rw [iF_n q, cN_n (P := fun i => P (insF s p x i)) (show ¬ P (insF s p x p) by rw [e]; exact q), c]
      rfl
  | succ d ih =>
    have e : insF s p x (p + d + 1) = s (p + d) := by
      unfold insF
      rw [if_neg (by omega), if_neg (by omega), Nat.add_sub_cancel]
    rw [show p + (d + 1) = p + d + 1 by omega]
    by_cases q : P (s (p + d))
    · rw [cN_y (P := fun i => P (insF s p x i)) (show P (insF s p x (p + d + 1)) by rw [e]; exact q), ih, cN_y (P := fun i => P (s i)) q]
      omega
    · rw [cN_n (P := fun i => P (insF s p x i)) (show ¬ P (insF s p x (p + d + 1)) by rw [e]; exact q), ih, cN_n (P := fun i => P (s i)) q]
def srtF (s : Nat → Nat) (k : Nat) : Prop := ∀ i j, i ≤ j → j < k → s i ≤ s j
theorem insF_s {s : Nat → Nat} {p x k : Nat} (h : srtF s k) (hp : p ≤ k) (h1 : ∀ i, i < p → s i ≤ x) (h2 : ∀ i, p ≤ i → i < k → x ≤ s i) : srtF (insF s p x) (k + 1) := by
  intro i j hij hj
  unfold insF
  by_cases a : j < p
  · rw [if_pos a, if_pos (by omega)]
    exact h i j hij (by omega)
  · rw [if_neg a]
    by_cases b : j = p
    · rw [if_pos b]
      by_cases c : i < p
      · rw [if_pos c]; exact h1 i c
      · rw [if_neg c, if_pos (by omega)]; exact Nat.le_refl _
    · rw [if_neg b]
      by_cases c : i < p
      · rw [if_pos c]; exact h i (j - 1) (by omega) (by omega)
      · rw [if_neg c]
        by_cases d : i = p
        · rw [if_pos d]; exact h2 (j - 1) (by omega) (by omega)
        · rw [if_neg d]; exact h (i - 1) (j - 1) (by omega) (by omega)
theorem JV.srt {s f : Nat → Nat} {n r : Nat} (h : srtF s n) (hc : ∀ P : Nat → Prop, cN (fun i => P (s i)) n = cN (fun i => P (f i)) n) (hr : r < n) : JV f n r (s r) := by
  refine ⟨?_, ?_⟩
  · rw [← hc (fun z => z < s r)]
    exact cN_up (fun i h1 h2 => Nat.not_lt.mpr (h r i h1 h2))
  · rw [← hc (fun z => z ≤ s r)]
    exact cN_dn hr (fun i hi => h i r hi hr)
noncomputable def jvN (f : Nat → Nat) (n r : Nat) : Nat := Classical.epsilon (fun v => JV f n r v)
theorem jvN_e {f : Nat → Nat} {n r v : Nat} (h : JV f n r v) : jvN f n r = v := (Classical.epsilon_spec (p := fun v => JV f n r v) ⟨v, h⟩).one h
theorem jvN_le {f : Nat → Nat} {n r B : Nat} (hB : ∀ i, i < n → f i ≤ B) (hr : r < n) : jvN f n r ≤ B := by
  obtain ⟨p, p1, p2⟩ := JV.ex hB hr
  rw [jvN_e p2]
  exact hB p p1
theorem JV.cg {f f2 : Nat → Nat} {n r v : Nat} (h : ∀ i, i < n → f2 i = f i) (a : JV f n r v) : JV f2 n r v := by
  obtain ⟨a1, a2⟩ := a
  refine ⟨?_, ?_⟩
  · rw [cN_cg (P2 := fun i => f i < v) (fun i hi => by show f2 i < v ↔ f i < v; rw [h i hi])]
    exact a1
  · rw [cN_cg (P2 := fun i => f i ≤ v) (fun i hi => by show f2 i ≤ v ↔ f i ≤ v; rw [h i hi])]
    exact a2
theorem div2_e : ∀ a, a < 200 → nI a / 2 = nI (a / 2) := by decide +kernel
theorem div8_e : ∀ a, a < 128 → nI a / 8 = nI (a / 8) := by decide +kernel
