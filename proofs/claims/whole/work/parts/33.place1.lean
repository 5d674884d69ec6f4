/-- v more, in many objects at once -/
noncomputable def vP (h : Hp) (f : Nat) (S : Nat → Prop) (v : Int32) : Hp := (fun f2 a => iF (f2 = f ∧ S a) (h.1 f2 a + v) (h.1 f2 a), h.2)
theorem vP_0 (h : Hp) (f : Nat) (S : Nat → Prop) (v : Int32) (hS : ∀ a, ¬ S a) : vP h f S v = h := by
  have e : (fun f2 a => iF (f2 = f ∧ S a) (h.1 f2 a + v) (h.1 f2 a)) = h.1 := funext fun f2 => funext fun a => iF_n (fun q => hS a q.2) _ _
  unfold vP
  rw [e]
theorem vP_s (h : Hp) (f : Nat) (S : Nat → Prop) (v : Int32) (b : Nat) (S' : Nat → Prop) (hb : ¬ S b) (hS : ∀ a, S' a ↔ S a ∨ a = b) : sI (vP h f S v) f b (fI h f b + v) = vP h f S' v := by
  have e : u2 (fun f2 a => iF (f2 = f ∧ S a) (h.1 f2 a + v) (h.1 f2 a)) f b (fI h f b + v) = (fun f2 a => iF (f2 = f ∧ S' a) (h.1 f2 a + v) (h.1 f2 a)) := by
    funext f2 a
    unfold u2
    by_cases c : f2 = f ∧ a = b
    · rw [if_pos c, iF_y ⟨c.1, (hS a).mpr (Or.inr c.2)⟩, c.1, c.2]
      rfl
    · rw [if_neg c]
      simp only []
      by_cases d : f2 = f ∧ S a
      · rw [iF_y d, iF_y ⟨d.1, (hS a).mpr (Or.inl d.2)⟩]
      · rw [iF_n d, iF_n (fun q => ((hS a).mp q.2).elim (fun w => d ⟨q.1, w⟩) (fun w => c ⟨q.1, w⟩))]
  unfold sI vP
  simp only [e]
theorem fI_vP_n (h : Hp) (f : Nat) (S : Nat → Prop) (v : Int32) (f2 : Nat) (hf : f2 ≠ f) : fI (vP h f S v) f2 = fI h f2 := funext fun _ => iF_n (fun q => hf q.1) _ _
theorem fI_vP_e (h : Hp) (f : Nat) (S : Nat → Prop) (v : Int32) (a : Nat) : fI (vP h f S v) f a = iF (S a) (fI h f a + v) (fI h f a) := by
  show iF (f = f ∧ S a) (h.1 f a + v) (h.1 f a) = _
  by_cases c : S a
  · rw [iF_y ⟨rfl, c⟩, iF_y c]; rfl
  · rw [iF_n (fun q => c q.2), iF_n c]; rfl
theorem fR_vP (h : Hp) (f : Nat) (S : Nat → Prop) (v : Int32) : fR (vP h f S v) = fR h := rfl
theorem aI_vP (h : Hp) (f : Nat) (S : Nat → Prop) (v : Int32) : aI (vP h f S v) = aI h := rfl
theorem aL_vP (h : Hp) (f : Nat) (S : Nat → Prop) (v : Int32) : aL (vP h f S v) = aL h := rfl
theorem aR_vP (h : Hp) (f : Nat) (S : Nat → Prop) (v : Int32) : aR (vP h f S v) = aR h := rfl
theorem kd_vP (h : Hp) (f : Nat) (S : Nat → Prop) (v : Int32) : kd (vP h f S v) = kd h := rfl
theorem ln_vP (h : Hp) (f : Nat) (S : Nat → Prop) (v : Int32) : ln (vP h f S v) = ln h := rfl
theorem hn_vP (h : Hp) (f : Nat) (S : Nat → Prop) (v : Int32) : hn (vP h f S v) = hn h := rfl
theorem hm_vP (h : Hp) (f : Nat) (S : Nat → Prop) (v : Int32) : hm (vP h f S v) = hm h := rfl
theorem eqM.vP {h h1 : Hp} (a : eqM h h1) {f : Nat} (hf : f < 1408) (S : Nat → Prop) (v : Int32) : eqM h (vP h1 f S v) :=
  a.tr ⟨Nat.le_refl _, fun f2 c q _ => by rw [fI_vP_n _ _ _ _ _ (by omega)], fun _ _ _ _ => rfl, fun _ _ _ _ _ => rfl, fun _ _ _ _ _ => rfl, fun _ _ => rfl, fun _ _ => rfl⟩
theorem bel_cg {n : Nat} {u u' : Nat → Int32} (hc : ∀ p, p < n → u p = -1 ∨ ∃ j, j < n ∧ u p = nI j) (hn : n ≤ 1000) (he : ∀ p, p < n → u' p = u p) : ∀ f p q, p < n → (bel u' f p q ↔ bel u f p q) := by
  intro f
  induction f with
  | zero => intro p q _; exact Iff.rfl
  | succ f ih =>
    intro p q hp
    unfold bel
    rw [he p hp]
    rcases hc p hp with e | ⟨j, j1, j2⟩
    · rw [e]
      exact ⟨fun z => z.elim Or.inl (fun w => absurd rfl w.1), fun z => z.elim Or.inl (fun w => absurd rfl w.1)⟩
    · have ej : (nI j).toNatClampNeg = j := nI_clamp (by omega)
      rw [j2, ej, ih j q j1]
theorem bel_in {n : Nat} {u : Nat → Int32} (hc : ∀ p, p < n → u p = -1 ∨ ∃ j, j < n ∧ u p = nI j) (hn : n ≤ 1000) : ∀ f p q, p < n → bel u f p q → q < n := by
  intro f
  induction f with
  | zero => intro p q hp e; rw [← (show p = q from e)]; exact hp
  | succ f ih =>
    intro p q hp e
    rcases e with e | ⟨e1, e2⟩
    · rw [← e]; exact hp
    · rcases hc p hp with z | ⟨j, j1, j2⟩
      · exact absurd z e1
      · have ej : (nI j).toNatClampNeg = j := nI_clamp (by omega)
        rw [j2, ej] at e2
        exact ih j q j1 e2
theorem partsL_s {at_ into : Nat → Int32} {np na a : Nat} (hnp : np ≤ 24) (h : ∀ b, b < na → ∃ p, p < np ∧ at_ b = nI p) : partsL at_ into (np + 1) na a = partsL at_ into np na a := by
  unfold partsL
  rw [List.range_succ, List.flatMap_append]
  have e : [np].flatMap (fun p => (List.range na).filter (fun b => decide (at_ b = nI p ∧ into b = nI a))) = [] := by
    rw [List.flatMap_cons]
    have e2 : (List.range na).filter (fun b => decide (at_ b = nI np ∧ into b = nI a)) = [] := by
      rw [List.filter_eq_nil_iff]
      intro b hb
      rw [decide_eq_true_iff]
      rintro ⟨z, -⟩
      obtain ⟨p, hp, ep⟩ := h b (List.mem_range.mp hb)
      rw [ep] at z
      have := (nI_eq (by omega) (by omega)).mp z
      omega
    rw [e2]
    rfl
  rw [e, List.append_nil]
theorem acI_p (f f2 : Nat → Int32) (n : Nat) : acI (fun i => f i + f2 i) n = acI f n + acI f2 n := by
  induction n with
  | zero => rfl
  | succ n ih =>
    rw [acI, acI, acI, ih, Int32.add_assoc, Int32.add_assoc, ← Int32.add_assoc (acI f2 n), Int32.add_comm (acI f2 n) (f n), Int32.add_assoc]
theorem acI_0 {f : Nat → Int32} {n : Nat} (h : ∀ i, i < n → f i = 0) : acI f n = 0 := by
  induction n with
  | zero => rfl
  | succ n ih => rw [acI, ih (fun i hi => h i (by omega)), h n (by omega), Int32.add_zero]
theorem tI_f (h : Hp) (k a j : Nat) (v : Int32) : aI (tI h k a j v) k a = fun q => if q = j then v else aI h k a q := by
  funext q
  rw [aI_tI_e]
  by_cases z : q = j
  · rw [if_pos ⟨rfl, z⟩, if_pos z]
  · rw [if_neg (fun w => z w.2), if_neg z]
section PLAC
variable {x y b0 s0 np na nm nr ne : Nat} {g : Nat → Nat → Nat} {m : Nat → Nat} {h : Hp}
theorem und_c (hW : JW y np na nm nr ne m h) (hb : np ≤ 24) : ∀ p, p < np → aI h 121 (m 121) p = -1 ∨ ∃ j, j < np ∧ aI h 121 (m 121) p = nI j := by
  intro p hp
  rcases ((chn_und hW hb).2 p hp).2 with e | ⟨j, j1, j2, -⟩
  · exact Or.inl e
  · exact Or.inr ⟨j, j1, j2⟩
theorem setLoop (hJ : JA x y b0 s0 np na nm nr ne g m h) {F : Hp} {u : Nat} (hu : u < np) (v r : Int32) (k1 : ∀ q, q < np → kd F (g 1 q) = 6) (k2 : ∀ q, q < np → fR F 642 (g 1 q) = dec (g 1) (aI h 121 (m 121) q)) (Q : Int32 → Hp → Prop) (hQ : Q r (vP F 646 (img (g 1) (bel (aI h 121 (m 121)) 4 u)) v)) : l_X10_settle_50 v r (some (g 1 u)) F Q := by
  have hW := hJ.2.2.2.2.2.1
  have hbd := hJ.2.2.1.2
  have hc := chn_und hW (by omega)
  have inj := hJ.2.2.2.1.pl_in (by omega)
  unfold l_X10_settle_50
  refine Lo.intro (fun k s h' => (s = none ∧ h' = vP F 646 (img (g 1) (bel (aI h 121 (m 121)) 4 u)) v) ∨ ∃ (c : Nat) (S : Nat → Prop), c < np ∧ 3 - lvN h m c + 1 ≤ k ∧ s = some (g 1 c) ∧ h' = vP F 646 (img (g 1) S) v ∧ (∀ q, S q → q < np ∧ lvN h m q < lvN h m c) ∧ (∀ q, bel (aI h 121 (m 121)) 4 u q ↔ S q ∨ bel (aI h 121 (m 121)) 4 c q)) ?_ 4 _ _ (Or.inr ⟨u, fun _ => False, hu, by omega, rfl, (vP_0 _ _ _ _ (fun a ⟨q, z, _⟩ => z)).symm, fun q z => z.elim, fun q => ⟨Or.inr, fun z => z.elim False.elim id⟩⟩)
  rintro k s h' (⟨rfl, rfl⟩ | ⟨c, S, hcn, hk, rfl, rfl, hS, hT⟩) K hK
  · unfold b_X10_settle_50
    simp only [gI_e, gR_e, pI_e, pZ_e, pR_e, ldI_e, ldZ_e, ldL_e, ldR_e, stI_e, stZ_e, stL_e, stR_e, alN_e, nwA_e, nwO_e, dvI_e, rmI_e, oV_e, oN_e, lt_e, rZ_e, br_T, br_F, fR_sI, aI_sI, aL_sI, aR_sI, kd_sI, ln_sI, hn_sI, hm_sI, fI_sI_n, fI_sR, aI_sR, aL_sR, aR_sR, kd_sR, ln_sR, hn_sR, hm_sR, fR_sR_n, fI_tI, fR_tI, aL_tI, aR_tI, kd_tI, ln_tI, hn_tI, hm_tI, aI_tI_n, fI_tL, fR_tL, aI_tL, aR_tL, kd_tL, ln_tL, hn_tL, hm_tL, aL_tL_n, fI_tR, fR_tR, aI_tR, aL_tR, kd_tR, ln_tR, hn_tR, hm_tR, aR_tR_n, hn_nw, hm_nw, rc400, rc403, rc404, rc405, rc407, rc409, rc420, rc440, bI_0, bI_1, bI_T, bI_F, iF_T, iF_F, br_not, le_nlt, not_true_eq_false, not_false_eq_true, and_self, and_true, true_and, and_false, false_and, or_true, true_or, or_false, false_or, ne_eq, reduceCtorEq, Nat.reduceLeDiff, Nat.reduceEqDiff, Nat.reduceLT, Nat.reduceAdd, Nat.reduceSub, Nat.reduceMul, Int32.reduceLT, Int32.reduceLE, Int32.reduceToNatClampNeg, Int32.reduceAdd, Int32.reduceSub, implies_true, forall_const, isIn_e, bit_e, lits]
    exact hQ
  · have nS : ¬ img (g 1) S (g 1 c) := fun z => by
      have := (hS _ ((img_in inj (fun q z => (hS q z).1) hcn).mp z)).2
      omega
    have st : sI (vP F 646 (img (g 1) S) v) 646 (g 1 c) (fI F 646 (g 1 c) + v) = vP F 646 (img (g 1) (fun q => S q ∨ q = c)) v := by
      apply vP_s _ _ _ _ _ _ nS
      intro a
      constructor
      · rintro ⟨q, z | z, e⟩
        · exact Or.inl ⟨q, z, e⟩
        · exact Or.inr (by rw [e, z])
      · rintro (⟨q, z, e⟩ | z)
        · exact ⟨q, Or.inl z, e⟩
        · exact ⟨c, Or.inr rfl, z⟩
    have kc := k1 c hcn
    have fc := k2 c hcn
    unfold b_X10_settle_50
    by_cases z : c = 0
    · have e : aI h 121 (m 121) c = -1 := by rw [z]; exact hW.w_u0
      rw [e, dec_1] at fc
      simp (config := {decide := true}) only [gI_e, gR_e, pI_e, pZ_e, pR_e, ldI_e, ldZ_e, ldL_e, ldR_e, stI_e, stZ_e, stL_e, stR_e, alN_e, nwA_e, nwO_e, dvI_e, rmI_e, oV_e, oN_e, lt_e, rZ_e, br_T, br_F, fR_sI, aI_sI, aL_sI, aR_sI, kd_sI, ln_sI, hn_sI, hm_sI, fI_sI_n, fI_sR, aI_sR, aL_sR, aR_sR, kd_sR, ln_sR, hn_sR, hm_sR, fR_sR_n, fI_tI, fR_tI, aL_tI, aR_tI, kd_tI, ln_tI, hn_tI, hm_tI, aI_tI_n, fI_tL, fR_tL, aI_tL, aR_tL, kd_tL, ln_tL, hn_tL, hm_tL, aL_tL_n, fI_tR, fR_tR, aI_tR, aL_tR, kd_tR, ln_tR, hn_tR, hm_tR, aR_tR_n, hn_nw, hm_nw, rc400, rc403, rc404, rc405, rc407, rc409, rc420, rc440, bI_0, bI_1, bI_T, bI_F, iF_T, iF_F, br_not, le_nlt, not_true_eq_false, not_false_eq_true, and_self, and_true, true_and, and_false, false_and, or_true, true_or, or_false, false_or, ne_eq, reduceCtorEq, Nat.reduceLeDiff, Nat.reduceEqDiff, Nat.reduceLT, Nat.reduceAdd, Nat.reduceSub, Nat.reduceMul, Int32.reduceLT, Int32.reduceLE, Int32.reduceToNatClampNeg, Int32.reduceAdd, Int32.reduceSub, implies_true, forall_const, isIn_e, bit_e, lits, bI_T, bI_F, bI_0, bI_1, Int32.add_zero, Int32.zero_add, if_true, if_false, Option.some.injEq, lt_irr, iF_T, iF_F, fI_vP_n, fR_vP, aI_vP, aL_vP, aR_vP, kd_vP, ln_vP, hn_vP, hm_vP, fI_vP_e, nS, kc, fc, st, reduceCtorEq]
      refine hK (k - 1) _ _ (by omega) (Or.inl ⟨rfl, ?_⟩)
      congr 1
      congr 1
      funext q
      apply propext
      rw [hT q, bel_u e]
      exact ⟨fun w => w.imp id (fun z => z.symm), fun w => w.imp id (fun z => z.symm)⟩
    · obtain ⟨⟨u1, u2⟩, -, u3, u4⟩ := un_e hW hcn (by omega) z
      have u5 : (nI (unN h m c)).toNatClampNeg = unN h m c := nI_clamp (by omega)
      have u6 : ¬ nI (unN h m c) = -1 := nI_m1 (by omega)
      rw [u3, dec_s _ u6, u5] at fc
      have lu := (lv_e hW u1).1
      simp (config := {decide := true}) only [gI_e, gR_e, pI_e, pZ_e, pR_e, ldI_e, ldZ_e, ldL_e, ldR_e, stI_e, stZ_e, stL_e, stR_e, alN_e, nwA_e, nwO_e, dvI_e, rmI_e, oV_e, oN_e, lt_e, rZ_e, br_T, br_F, fR_sI, aI_sI, aL_sI, aR_sI, kd_sI, ln_sI, hn_sI, hm_sI, fI_sI_n, fI_sR, aI_sR, aL_sR, aR_sR, kd_sR, ln_sR, hn_sR, hm_sR, fR_sR_n, fI_tI, fR_tI, aL_tI, aR_tI, kd_tI, ln_tI, hn_tI, hm_tI, aI_tI_n, fI_tL, fR_tL, aI_tL, aR_tL, kd_tL, ln_tL, hn_tL, hm_tL, aL_tL_n, fI_tR, fR_tR, aI_tR, aL_tR, kd_tR, ln_tR, hn_tR, hm_tR, aR_tR_n, hn_nw, hm_nw, rc400, rc403, rc404, rc405, rc407, rc409, rc420, rc440, bI_0, bI_1, bI_T, bI_F, iF_T, iF_F, br_not, le_nlt, not_true_eq_false, not_false_eq_true, and_self, and_true, true_and, and_false, false_and, or_true, true_or, or_false, false_or, ne_eq, reduceCtorEq, Nat.reduceLeDiff, Nat.reduceEqDiff, Nat.reduceLT, Nat.reduceAdd, Nat.reduceSub, Nat.reduceMul, Int32.reduceLT, Int32.reduceLE, Int32.reduceToNatClampNeg, Int32.reduceAdd, Int32.reduceSub, implies_true, forall_const, isIn_e, bit_e, lits, bI_T, bI_F, bI_0, bI_1, Int32.add_zero, Int32.zero_add, if_true, if_false, Option.some.injEq, lt_irr, iF_T, iF_F, fI_vP_n, fR_vP, aI_vP, aL_vP, aR_vP, kd_vP, ln_vP, hn_vP, hm_vP, fI_vP_e, nS, kc, fc, st, reduceCtorEq]
      refine hK (k - 1) _ _ (by omega) (Or.inr ⟨unN h m c, fun q => S q ∨ q = c, u1, by omega, rfl, rfl, ?_, ?_⟩)
      · rintro q (w | w)
        · have := hS q w
          exact ⟨this.1, by omega⟩
        · rw [w]
          exact ⟨hcn, by omega⟩
      · intro q
        have hR3 : 3 - lvN h m (unN h m c) + 1 ≤ 3 - lvN h m c := by omega
        rw [hT q, bel_4 hc hcn u1 u3 hR3]
        constructor
        · rintro (w | w | w)
          · exact Or.inl (Or.inl w)
          · exact Or.inl (Or.inr w.symm)
          · exact Or.inr w
        · rintro ((w | w) | w)
          · exact Or.inl w
          · exact Or.inr (Or.inl w.symm)
          · exact Or.inr (Or.inr w)
end PLAC
