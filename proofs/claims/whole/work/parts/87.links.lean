theorem lk_fR {g : Nat → Nat → Nat} {A N : Nat} {L : List Nat} {h : Hp} : ∀ i, (∀ f, ¬ f = 15 → fR (lkH g A N L i h) f = fR h f) ∧ aI (lkH g A N L i h) = aI h ∧ aL (lkH g A N L i h) = aL h ∧ hm (lkH g A N L i h) = hm h ∧ (∀ k, ¬ k = 420 → aR (lkH g A N L i h) k = aR h k) ∧ (∀ a, ¬ a = A → aR (lkH g A N L i h) 420 a = aR h 420 a) ∧ (∀ t, t < i → aR (lkH g A N L i h) 420 A t = some (g 3 (L.getD t 0))) ∧ ∀ a, fR (lkH g A N L i h) 15 a = iF (∃ t, t < i ∧ g 3 (L.getD t 0) = a) (some N) (fR h 15 a) := by
  intro i
  induction i with
  | zero =>
    refine ⟨fun _ _ => rfl, rfl, rfl, rfl, fun _ _ => rfl, fun _ _ => rfl, fun t ht => absurd ht (Nat.not_lt_zero _), fun a => ?_⟩
    rw [iF_n (fun ⟨t, ht, _⟩ => absurd ht (Nat.not_lt_zero _))]
    rfl
  | succ i ih =>
    obtain ⟨i1, i2, i3, i4, i5, i6, i7, i8⟩ := ih
    refine ⟨fun f hf => ?_, i2, i3, i4, fun k hk => ?_, fun a ha => ?_, fun t ht => ?_, fun a => ?_⟩
    · show (fun b => u2 (lkH g A N L i h).2.1 15 (g 3 (L.getD i 0)) (some N) f b) = _
      funext b
      show u2 (lkH g A N L i h).2.1 15 (g 3 (L.getD i 0)) (some N) f b = _
      unfold u2
      rw [if_neg (fun w => hf w.1)]
      exact congrFun (i1 f hf) b
    · funext a j
      show aR (tR (lkH g A N L i h) 420 A i (some (g 3 (L.getD i 0)))) k a j = _
      show u3 (lkH g A N L i h).2.2.2.2.1 420 A i _ k a j = _
      unfold u3
      rw [if_neg (fun w => hk w.1)]
      exact congrFun (congrFun (i5 k hk) a) j
    · funext j
      show u3 (lkH g A N L i h).2.2.2.2.1 420 A i _ 420 a j = _
      unfold u3
      rw [if_neg (fun w => ha w.2.1)]
      exact congrFun (i6 a ha) j
    · show aR (tR (lkH g A N L i h) 420 A i (some (g 3 (L.getD i 0)))) 420 A t = _
      rw [aR_tR_e]
      by_cases e : t = i
      · rw [if_pos ⟨rfl, e⟩, e]
      · rw [if_neg (fun w => e w.2)]
        exact i7 t (by omega)
    · show fR (sR (tR (lkH g A N L i h) 420 A i (some (g 3 (L.getD i 0)))) 15 (g 3 (L.getD i 0)) (some N)) 15 a = _
      rw [fR_sR_e]
      by_cases e : a = g 3 (L.getD i 0)
      · rw [if_pos e, iF_y ⟨i, by omega, e.symm⟩]
      · rw [if_neg e]
        refine (i8 a).trans ?_
        by_cases w : ∃ t, t < i ∧ g 3 (L.getD t 0) = a
        · rw [iF_y w]
          obtain ⟨t, t1, t2⟩ := w
          rw [iF_y ⟨t, by omega, t2⟩]
        · rw [iF_n w, iF_n (fun ⟨t, t1, t2⟩ => w ⟨t, (by
            have : ¬ t = i := fun z => e (by rw [← t2, z])
            omega), t2⟩)]
theorem dr_fR {g : Nat → Nat → Nat} {pl : Nat} {L : List Nat} {h : Hp} : ∀ i, (∀ f, ¬ f = 16 → fR (drH g pl L i h) f = fR h f) ∧ aI (drH g pl L i h) = aI h ∧ aL (drH g pl L i h) = aL h ∧ hm (drH g pl L i h) = hm h ∧ aR (drH g pl L i h) = aR h ∧ ln (drH g pl L i h) = ln h ∧ ∀ a, fR (drH g pl L i h) 16 a = iF (∃ t, t < i ∧ g 3 (L.getD t 0) = a) (some pl) (fR h 16 a) := by
  intro i
  induction i with
  | zero =>
    refine ⟨fun _ _ => rfl, rfl, rfl, rfl, rfl, rfl, fun a => ?_⟩
    rw [iF_n (fun ⟨t, ht, _⟩ => absurd ht (Nat.not_lt_zero _))]
    rfl
  | succ i ih =>
    obtain ⟨i1, i2, i3, i4, i5, i6, i8⟩ := ih
    refine ⟨fun f hf => ?_, i2, i3, i4, i5, i6, fun a => ?_⟩
    · funext b
      show u2 (drH g pl L i h).2.1 16 (g 3 (L.getD i 0)) (some pl) f b = _
      unfold u2
      rw [if_neg (fun w => hf w.1)]
      exact congrFun (i1 f hf) b
    · show fR (sR (drH g pl L i h) 16 (g 3 (L.getD i 0)) (some pl)) 16 a = _
      rw [fR_sR_e]
      by_cases e : a = g 3 (L.getD i 0)
      · rw [if_pos e, iF_y ⟨i, by omega, e.symm⟩]
      · rw [if_neg e]
        refine (i8 a).trans ?_
        by_cases w : ∃ t, t < i ∧ g 3 (L.getD t 0) = a
        · rw [iF_y w]
          obtain ⟨t, t1, t2⟩ := w
          rw [iF_y ⟨t, by omega, t2⟩]
        · rw [iF_n w, iF_n (fun ⟨t, t1, t2⟩ => w ⟨t, (by
            have : ¬ t = i := fun z => e (by rw [← t2, z])
            omega), t2⟩)]
theorem lkR_k (k a : Nat) (v : Int32) (L : List Nat) (h : Hp) : ∀ i, ∀ q, aI (lkR k a v L i h) k a q = iF (∃ t, t < i ∧ L.getD t 0 = q) v (aI h k a q) := by
  intro i
  induction i with
  | zero =>
    intro q
    rw [iF_n (fun ⟨t, ht, _⟩ => absurd ht (Nat.not_lt_zero _))]
    rfl
  | succ i ih =>
    intro q
    show aI (tI (lkR k a v L i h) k a (L.getD i 0) v) k a q = _
    rw [aI_tI_e]
    by_cases e : q = L.getD i 0
    · rw [if_pos ⟨rfl, e⟩, iF_y ⟨i, by omega, e.symm⟩]
    · rw [if_neg (fun w => e w.2), ih q]
      by_cases w : ∃ t, t < i ∧ L.getD t 0 = q
      · rw [iF_y w]
        obtain ⟨t, t1, t2⟩ := w
        rw [iF_y ⟨t, by omega, t2⟩]
      · rw [iF_n w, iF_n (fun ⟨t, t1, t2⟩ => w ⟨t, (by
          have : ¬ t = i := fun z => e (by rw [← t2, z])
          omega), t2⟩)]
theorem mem_gD {L : List Nat} {b : Nat} : b ∈ L ↔ ∃ t, t < L.length ∧ L.getD t 0 = b := by
  constructor
  · intro w
    obtain ⟨i, hi, ei⟩ := List.getElem_of_mem w
    refine ⟨i, hi, ?_⟩
    rw [List.getD_eq_getElem?_getD, List.getElem?_eq_getElem hi]
    exact ei
  · rintro ⟨t, t1, t2⟩
    rw [← t2]
    exact gD_mem t1
theorem lkR_a (k a : Nat) (v : Int32) (L : List Nat) (h : Hp) : aI (lkR k a v L L.length h) k a = fun q => iF (q ∈ L) v (aI h k a q) := by
  funext q
  show aI (lkR k a v L L.length h) k a q = iF (q ∈ L) v (aI h k a q)
  rw [lkR_k, propext (mem_gD (L := L) (b := q))]
