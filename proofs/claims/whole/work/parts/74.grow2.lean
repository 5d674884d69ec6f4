section GRM2
variable {x y b0 s0 np na nm nr ne : Nat} {g : Nat → Nat → Nat} {m : Nat → Nat} {h : Hp}
/-- where the hearths behind a merged book come from -/
theorem hbA_new {lev hea at_ at2 into into2 : Nat → Int32} {na : Nat} {R : Nat → Nat} {L : List Nat} (hch : chn na into R) (hna : na < 200) (hat : ∀ x, x < na → at2 x = at_ x) (hlp : ¬ lev (at2 na).toNatClampNeg = 0) (hL : ∀ b, b ∈ L → b < na ∧ into b = -1) (hnd : ∀ i j, i < L.length → j < L.length → L.getD i 0 = L.getD j 0 → i = j) (hu : ∀ x, x < na → into2 x = iF (x ∈ L) (nI na) (into x)) : hbA lev hea at2 into2 (na + 1) na = acI (fun i => hbA lev hea at_ into na (L.getD i 0)) L.length := by
  have hc : ∀ x, x < na → into x = -1 ∨ ∃ j, j < na ∧ into x = nI j := fun x hx => (hch.2 x hx).2.imp id (fun ⟨j, j1, j2, _⟩ => ⟨j, j1, j2⟩)
  unfold hbA
  rw [acI, iF_n (fun w => hlp w.1), Int32.add_zero, acI_swap]
  apply acI_congr
  intro b0 hb0
  rw [hat b0 hb0]
  by_cases l0 : lev (at_ b0).toNatClampNeg = 0
  rotate_left
  · rw [iF_n (fun w => l0 w.1)]
    exact (acI_0 (fun i _ => iF_n (fun w => l0 w.1) _ _)).symm
  by_cases c : ∃ b, b ∈ L ∧ bel into 3 b0 b
  · obtain ⟨b, bL, b3⟩ := c
    obtain ⟨l1, l2⟩ := hL b bL
    have yes : bel into2 4 b0 na := bel_i (by omega) (fun x hx => (hL x hx).2) hc hu bL l1 3 b0 hb0 b3
    rw [iF_y ⟨l0, yes⟩]
    obtain ⟨i, hi, ei⟩ := List.getElem_of_mem bL
    have gi : L.getD i 0 = b := by
      rw [List.getD_eq_getElem?_getD, List.getElem?_eq_getElem hi]
      exact ei
    rw [acI_one (p := i) hi (fun j hj nj => iF_n (fun w => nj (hnd j i hj hi (by
      have mj := gD_mem hj
      rw [gi]
      exact bel_e 4 3 b0 _ _ w.2 (hL _ mj).2 b3 l2))) _ _), gi, iF_y ⟨l0, bel_up b3⟩]
  · have no : ¬ bel into2 4 b0 na := fun w => c (bel_n (by omega) hc hu 3 b0 hb0 w)
    rw [iF_n (fun w => no w.2)]
    refine (acI_0 (fun i hi => iF_n (fun w => c ⟨_, gD_mem hi, ?_⟩) _ _)).symm
    exact (bel_fu hch 3 b0 _ 3 4 hb0 (hch.2 b0 hb0).1 (hch.2 b0 hb0).1 (by have := (hch.2 b0 hb0).1; omega)).mpr w.2
/-- what went into a merged book, by places -/
theorem partsL_n {at2 into2 : Nat → Int32} {E : Hp} {p k : Nat} (hna : na < 200) (hnp : np ≤ 24) (hW : JW y np na nm nr ne m E) (ha : at2 na = nI p) (hin : into2 na = -1) (hat : ∀ x, x < na → at2 x = aI E 132 (m 132) x) (hL : ∀ b, b ∈ gaL E m na p k np → aI E 139 (m 139) b = -1) (hu : ∀ x, x < na → into2 x = iF (x ∈ gaL E m na p k np) (nI na) (aI E 139 (m 139) x)) : partsL at2 into2 np (na + 1) na = gaL E m na p k np := by
  have one : ∀ q, q < np → (List.range (na + 1)).filter (fun b => decide (at2 b = nI q ∧ into2 b = nI na)) = iF (aI E 121 (m 121) q = nI p) (fL (gaP E m k q) na) [] := by
    intro q hq
    rw [List.range_succ, List.filter_append]
    have e0 : [na].filter (fun b => decide (at2 b = nI q ∧ into2 b = nI na)) = [] := by
      rw [List.filter_eq_nil_iff]
      intro b hb
      rw [decide_eq_true_iff]
      rintro ⟨-, z⟩
      rw [List.mem_singleton.mp hb, hin] at z
      exact nI_m1 (n := na) (by omega) z.symm
    rw [e0, List.append_nil]
    have cond : ∀ b, b < na → ((at2 b = nI q ∧ into2 b = nI na) ↔ (aI E 121 (m 121) q = nI p ∧ gaP E m k q b)) := by
      intro b hb
      rw [hat b hb, hu b hb]
      by_cases c : b ∈ gaL E m na p k np
      · rw [iF_y c]
        obtain ⟨q', w1, w2, w3, w4⟩ := gaL_m.mp c
        constructor
        · rintro ⟨z, -⟩
          have zz := z.symm.trans w4.1
          have := (nI_eq (by omega) (by omega)).mp zz
          rw [this]
          exact ⟨w2, w4⟩
        · rintro ⟨_, z2⟩
          exact ⟨z2.1, rfl⟩
      · rw [iF_n c]
        constructor
        · rintro ⟨_, z⟩
          rcases int_c hW b hb with e | ⟨j, j1, j2⟩
          · rw [e] at z
            exact absurd z.symm (nI_m1 (by omega))
          · rw [j2] at z
            have := (nI_eq (by omega) (by omega)).mp z
            omega
        · rintro ⟨z1, z2⟩
          exact absurd (gaL_m.mpr ⟨q, hq, z1, hb, z2⟩) c
    by_cases c : aI E 121 (m 121) q = nI p
    · rw [iF_y c]
      unfold fL
      apply List.filter_congr
      intro b hb
      have hb2 := List.mem_range.mp hb
      by_cases w : gaP E m k q b
      · rw [decide_eq_true ((cond b hb2).mpr ⟨c, w⟩)]
        exact (@decide_eq_true _ (Classical.propDecidable _) w).symm
      · rw [decide_eq_false (fun z => w ((cond b hb2).mp z).2)]
        exact (@decide_eq_false _ (Classical.propDecidable _) w).symm
    · rw [iF_n c, List.filter_eq_nil_iff]
      intro b hb
      rw [decide_eq_true_iff]
      exact fun z => c ((cond b (List.mem_range.mp hb)).mp z).1
  unfold partsL
  have all : ∀ q, q ≤ np → (List.range q).flatMap (fun p => (List.range (na + 1)).filter (fun b => decide (at2 b = nI p ∧ into2 b = nI na))) = gaL E m na p k q := by
    intro q
    induction q with
    | zero => intro _; rfl
    | succ q ih =>
      intro hq
      rw [show List.range (q + 1) = List.range q ++ [q] from List.range_succ, List.flatMap_append, ih (by omega)]
      show gaL E m na p k q ++ ((List.range (na + 1)).filter (fun b => decide (at2 b = nI q ∧ into2 b = nI na)) ++ []) = gaL E m na p k q ++ (iF (aI E 121 (m 121) q = nI p) (fL (gaP E m k q) na) [])
      rw [List.append_nil, one q (by omega)]
  exact all np (Nat.le_refl _)
/-- what went into an older book is as it was -/
theorem partsL_o {at_ at2 into into2 : Nat → Int32} {np na a : Nat} {L : List Nat} (h1 : ∀ b, b < na → at2 b = at_ b) (hin : into2 na = -1) (hL : ∀ b, b ∈ L → into b = -1) (hu : ∀ x, x < na → into2 x = iF (x ∈ L) (nI na) (into x)) (ha : a < na) (hna : na < 200) : partsL at2 into2 np (na + 1) a = partsL at_ into np na a := by
  unfold partsL
  congr 1
  funext p
  rw [List.range_succ, List.filter_append]
  have e : [na].filter (fun b => decide (at2 b = nI p ∧ into2 b = nI a)) = [] := by
    rw [List.filter_eq_nil_iff]
    intro b hb
    rw [decide_eq_true_iff]
    rintro ⟨-, z⟩
    rw [List.mem_singleton.mp hb, hin] at z
    exact nI_m1 (n := a) (by omega) z.symm
  rw [e, List.append_nil]
  apply List.filter_congr
  intro b hb
  have hb2 := List.mem_range.mp hb
  rw [h1 b hb2, hu b hb2]
  by_cases c : b ∈ L
  · rw [iF_y c, hL b c]
    have z1 : ¬ nI na = nI a := fun z => by have := (nI_eq (by omega) (by omega)).mp z; omega
    have z2 : ¬ (-1 : Int32) = nI a := fun z => nI_m1 (n := a) (by omega) z.symm
    simp only [z1, z2, and_false]
  · rw [iF_n c]
end GRM2
