theorem tpC_up {k k' : Nat} {A : List Int32} (h : tpC k A) (hk : k ≤ k') : tpC k' A := by
  rcases h with e | ⟨A', c, e, e1, e2, e3⟩
  · exact Or.inl e
  · exact Or.inr ⟨A', c, e, e1, fun w => e2 (by omega), fun w => e3 (by omega)⟩
theorem tpC_3 {k : Nat} {A : List Int32} (h : tpC k A) : A = [] ∨ ∃ A' c, A = A' ++ [c] ∧ ¬ c = 33 := by
  rcases h with e | ⟨A', c, e, e1, -⟩
  · exact Or.inl e
  · exact Or.inr ⟨A', c, e, e1⟩
section REFW
variable {x y b0 s0 np na nm nr ne r sb n : Nat} {g : Nat → Nat → Nat} {m : Nat → Nat} {h0 : Hp} {L V : Nat → Int32}
theorem gst (hB : RB y r sb n L m h0) : ∀ f k d t a, k ≤ 2 → d ≤ 20 → 3 * (20 - d) + (3 - k) ≤ f → Gst y m r n L h0 k f d t a := by
  have n60 := hB.2.2.2.1
  intro f
  induction f with
  | zero => intro k d t a h1 h2 h3; omega
  | succ f ih =>
    intro k d t a hk hd hf
    obtain rfl | rfl | rfl : k = 0 ∨ k = 1 ∨ k = 2 := by omega
    · unfold Gst
      rw [grG_0]
      obtain ⟨w0, H0⟩ := ih 1 d t a (by decide) hd (by omega)
      have lp := gloop_0 (t := t) hB hd (fun t a => ih 1 d t a (by decide) hd (by omega)) 60
      generalize grG (grN L n) f 1 d t (a, -1) = q0 at *
      by_cases hz : q0.1.2 = -1
      rotate_left
      · refine ⟨w0, fun h A j C T p N0 Q R hT bd hj hj0 hp hA => ?_⟩
        rw [grLoop_z (by decide) hz]
        exact ⟨fun nf hQ => (H0 h A j C T p N0 Q R hT bd hj (fun _ => hj0 (by decide)) hp (tpC_up hA (by decide))).1 hz hQ, fun ok => absurd ok hz⟩
      · obtain ⟨w1, H1⟩ := lp q0 hz
        refine ⟨w1 + w0, fun h A j C T p N0 Q R hT bd hj hj0 hp hA => ?_⟩
        have j0 := hj0 (by decide)
        subst j0
        rw [show N0 + (w1 + w0) = N0 + w1 + w0 by omega, rep0, Nat.sub_zero]
        have H2 := H0 h A 0 C T p (N0 + w1) Q R hT bd hj (fun _ => rfl) hp (tpC_up hA (by decide))
        rw [rep0, Nat.sub_zero] at H2
        have nxt : ∀ h', Post y m r n L h0 1 a q0 A d (C ++ q0.2.1) T h' → _ := fun h' ⟨P, C', R', p1, p2, p3, p4, p5, p6, p7, p8⟩ => H1 h' A P C C' T p N0 a Q R' p1 p4 p5 (p7 (by decide)) hT hp (by omega) p6 hA
        exact ⟨fun nf hQ => H2.2 hz (fun h' ph => (nxt h' ph).1 nf hQ), fun ok hk => H2.2 hz (fun h' ph => (nxt h' ph).2 ok hk)⟩
    · unfold Gst
      rw [grG_1]
      obtain ⟨w0, H0⟩ := ih 2 d t a (by decide) hd (by omega)
      have lp := gloop_1 (t := t) hB hd (fun t a => ih 2 d t a (by decide) hd (by omega)) 60
      generalize grG (grN L n) f 2 d t (a, -1) = q0 at *
      by_cases hz : q0.1.2 = -1
      rotate_left
      · refine ⟨w0, fun h A j C T p N0 Q R hT bd hj hj0 hp hA => ?_⟩
        rw [grLoop_z (by decide) hz]
        exact ⟨fun nf hQ => (H0 h A j C T p N0 Q R hT bd hj (fun _ => hj0 (by decide)) hp (tpC_up hA (by decide))).1 hz hQ, fun ok => absurd ok hz⟩
      · obtain ⟨w1, H1⟩ := lp q0 hz
        refine ⟨w1 + w0, fun h A j C T p N0 Q R hT bd hj hj0 hp hA => ?_⟩
        have j0 := hj0 (by decide)
        subst j0
        rw [show N0 + (w1 + w0) = N0 + w1 + w0 by omega, rep0, Nat.sub_zero]
        have H2 := H0 h A 0 C T p (N0 + w1) Q R hT bd hj (fun _ => rfl) hp (tpC_up hA (by decide))
        rw [rep0, Nat.sub_zero] at H2
        have nxt : ∀ h', Post y m r n L h0 2 a q0 A d (C ++ q0.2.1) T h' → _ := fun h' ⟨P, C', R', p1, p2, p3, p4, p5, p6, p7, p8⟩ => H1 h' A P C C' T p N0 a Q R' (fun c hc => by rw [p3 rfl] at hc; cases hc) p4 p5 hT hp (by omega) p6 hA
        exact ⟨fun nf hQ => H2.2 hz (fun h' ph => (nxt h' ph).1 nf hQ), fun ok hk => H2.2 hz (fun h' ph => (nxt h' ph).2 ok hk)⟩
    · unfold Gst
      rw [grG_2]
      by_cases w : grN L n (a, -1) = 33 ∨ grN L n (a, -1) = 40
      rotate_left
      · rw [iF_n w]
        have w1 : ¬ grN L n (a, -1) = 33 := fun z => w (Or.inl z)
        have w2 : ¬ grN L n (a, -1) = 40 := fun z => w (Or.inr z)
        refine ⟨1, fun h A j C T p N0 Q R hT bd hj hj0 hp hA => ⟨fun nf hQ => ?_, fun ok hk => ?_⟩⟩
        · exact st_leaf hB (tpC_3 hA) hj R bd w1 w2 (nI p) Q _ (fun ok => absurd ok nf) (fun _ => hQ)
        · refine st_leaf hB (tpC_3 hA) hj R bd w1 w2 (nI p) Q _ (fun _ h' R' l3 => ?_) (fun nf => absurd ok nf)
          rw [hT] at R'
          have R'2 : KQ y m r n h0 h' (grTst (grN L n) (a, -1)).1.1 (A ++ []) (d - j) (C ++ [nI t] ++ List.replicate j (-1)) (T ++ [(grTst (grN L n) (a, -1)).2]) := by rw [List.append_nil]; exact R'
          refine hk h' ⟨[], C ++ [nI t] ++ List.replicate j (-1), R'2, fun c hc => absurd hc List.not_mem_nil, fun z => absurd z (by decide), fun _ => rfl, List.append_nil _, ?_, ?_, fun z => absurd z (by decide), fun z => absurd z (by decide)⟩
          · show 2 * (T ++ [(grTst (grN L n) (a, -1)).2]).length + (C ++ [nI t] ++ List.replicate j (-1)).length + (A ++ []).length ≤ (grTst (grN L n) (a, -1)).1.1
            rw [len1, List.length_append, len1, List.length_replicate, List.append_nil]
            omega
          · show a < (grTst (grN L n) (a, -1)).1.1
            omega
      rw [iF_y w]
      by_cases d20 : d < 20
      rotate_left
      · rw [iF_n d20]
        have gf : (grNil (grF (a, -1))).1.2 = nI a := by
          show (grF (a, -1)).2 = nI a
          unfold grF
          rw [if_pos rfl]
        rw [gf]
        refine ⟨1, fun h A j C T p N0 Q R hT bd hj hj0 hp hA => ⟨fun nf hQ => ?_, fun ok hk => ?_⟩⟩
        · exact w.elim (fun w => st_deep hB (Or.inl rfl) (by omega) R w (nI p) Q _ (hQ h R.1.1)) (fun w => st_deep hB (Or.inr rfl) (by omega) R w (nI p) Q _ (hQ h R.1.1))
        · have := R.1.2.1
          exact absurd ok (nI_m1 (by omega))
      rw [iF_y d20]
      by_cases w3 : grN L n (a, -1) = 33
      · rw [iF_y w3]
        obtain ⟨w1, H1⟩ := ih 2 (d + 1) t (a + 1) (by decide) (by omega) (by omega)
        generalize grG (grN L n) f 2 (d + 1) t (a + 1, -1) = q1 at *
        refine ⟨w1 + 1, fun h A j C T p N0 Q R hT bd hj hj0 hp hA => ?_⟩
        rw [show N0 + (w1 + 1) = N0 + w1 + 1 by omega]
        have sl : (A ++ List.replicate j (33 : Int32)).length = A.length + j := by rw [List.length_append, List.length_replicate]
        have go : ∀ h2, KQ y m r n h0 h2 (a + 1) (A ++ List.replicate j 33 ++ [33]) (d + 1) C T → _ := fun h2 R2 => H1 h2 A (j + 1) C T p N0 Q (by rw [List.append_assoc, ← rep1] at R2; exact R2) hT (by omega) (by omega) (fun z => absurd z (by decide)) (by omega) hA
        have eE : C ++ q1.2.1 ++ List.replicate (j + 1) (-1) = C ++ (q1.2.1 ++ [-1]) ++ List.replicate j (-1) := by
          rw [show List.replicate (j + 1) (-1 : Int32) = [-1] ++ List.replicate j (-1) from rfl]
          simp only [List.append_assoc]
        refine ⟨fun nf hQ => ?_, fun ok hk => ?_⟩
        · refine st_open hB (c := 33) (Or.inl rfl) d20 R (by rw [sl]; omega) w3 p Q _ (fun h2 R2 => ?_)
          rw [if_neg (by decide)]
          exact (go h2 R2).1 nf hQ
        · refine st_open hB (c := 33) (Or.inl rfl) d20 R (by rw [sl]; omega) w3 p Q _ (fun h2 R2 => ?_)
          rw [if_neg (by decide)]
          refine (go h2 R2).2 ok (fun h' ph => hk h' ?_)
          rw [eE, Nat.add_sub_add_right] at ph
          obtain ⟨P, C', R', p1, p2, p3, p4, p5, p6, p7, p8⟩ := ph
          exact ⟨P, C', R', p1, p2, p3, p4, p5, Nat.lt_of_succ_lt p6, p7, p8⟩
      · rw [iF_n w3]
        have w4 : grN L n (a, -1) = 40 := w.resolve_left w3
        obtain ⟨w1, H1⟩ := ih 0 (d + 1) t (a + 1) (by decide) (by omega) (by omega)
        generalize grG (grN L n) f 0 (d + 1) t (a + 1, -1) = q1 at *
        have step : ∀ (h : Hp) (A : List Int32) (j : Nat) (C : List Int32) (T : List RT) (p M : Nat) (Q : Int32 → Hp → Prop), KQ y m r n h0 h a (A ++ List.replicate j 33) d C T → T.length = t → 2 * T.length + C.length + (A.length + j) ≤ a → p ≤ d → (¬ q1.1.2 = -1 → (∀ h', KR m r h0 h' → Q q1.1.2 h') → Lon (CF y r Q) (M + w1 + 1) (nI p, 1) h) ∧ (q1.1.2 = -1 → (∀ h', Post y m r n L h0 0 (a + 1) q1 (A ++ List.replicate j 33 ++ [40]) (d + 1) (C ++ q1.2.1) T h' → Lon (CF y r Q) M (nI (p + 1), 0) h') → Lon (CF y r Q) (M + w1 + 1) (nI p, 1) h) := by
          intro h A j C T p M Q R hT bd hp
          have sl : (A ++ List.replicate j (33 : Int32)).length = A.length + j := by rw [List.length_append, List.length_replicate]
          have go : ∀ h2, KQ y m r n h0 h2 (a + 1) (A ++ List.replicate j 33 ++ [40]) (d + 1) C T → (¬ q1.1.2 = -1 → (∀ h', KR m r h0 h' → Q q1.1.2 h') → Lon (CF y r Q) (M + w1) (nI (p + 1), 1) h2) ∧ (q1.1.2 = -1 → (∀ h', Post y m r n L h0 0 (a + 1) q1 (A ++ List.replicate j 33 ++ [40]) (d + 1) (C ++ q1.2.1) T h' → Lon (CF y r Q) M (nI (p + 1), 0) h') → Lon (CF y r Q) (M + w1) (nI (p + 1), 1) h2) := by
            intro h2 R2
            have t1 := H1 h2 (A ++ List.replicate j 33 ++ [40]) 0 C T (p + 1) M Q (by rw [rep0]; exact R2) hT (by rw [len1, sl]; omega) (Nat.zero_le _) (fun _ => rfl) (by omega) (Or.inr ⟨A ++ List.replicate j 33, 40, rfl, by decide, fun _ => by decide, fun _ => by decide⟩)
            rw [rep0, Nat.sub_zero] at t1
            exact t1
          refine ⟨fun nf hQ => ?_, fun ok hk => ?_⟩
          · refine st_open hB (c := 40) (Or.inr rfl) d20 R (by rw [sl]; omega) w4 p Q _ (fun h2 R2 => ?_)
            rw [if_pos rfl]
            exact (go h2 R2).1 nf hQ
          · refine st_open hB (c := 40) (Or.inr rfl) d20 R (by rw [sl]; omega) w4 p Q _ (fun h2 R2 => ?_)
            rw [if_pos rfl]
            exact (go h2 R2).2 ok hk
        by_cases hz : q1.1.2 = -1
        rotate_left
        · have gp : (grPar (grN L n) q1).1 = q1.1 := grW_z (by decide) hz
          rw [gp]
          refine ⟨w1 + 1, fun h A j C T p N0 Q R hT bd hj hj0 hp hA => ⟨fun nf hQ => ?_, fun ok => absurd ok hz⟩⟩
          rw [show N0 + (w1 + 1) = N0 + w1 + 1 by omega]
          exact (step h A j C T p N0 Q R hT bd hp).1 hz hQ
        have e1 : q1.1 = (q1.1.1, -1) := Prod.ext rfl hz
        by_cases w41 : grN L n q1.1 = 41
        · have w41' : grN L n (q1.1.1, -1) = 41 := by rw [← e1]; exact w41
          have gp : (grPar (grN L n) q1).1 = (q1.1.1 + 1, -1) := by
            show grW (grN L n) 41 q1.1 = _
            unfold grW grP
            rw [iF_y w41, hz]
          have gp2 : (grPar (grN L n) q1).2 = q1.2 := rfl
          refine ⟨1 + w1 + 1, fun h A j C T p N0 Q R hT bd hj hj0 hp hA => ⟨fun nf => absurd (by rw [gp]) nf, fun ok hk => ?_⟩⟩
          rw [show N0 + (1 + w1 + 1) = N0 + 1 + w1 + 1 by omega]
          refine (step h A j C T p (N0 + 1) Q R hT bd hp).2 hz (fun h' ⟨P, C', R', p1, p2, p3, p4, p5, p6, p7, p8⟩ => ?_)
          refine st_close hB (tpC_3 hA) hj p1 R' p5 w41' (show p ≤ 20 by omega) Q _ (fun h2 R2 => hk h2 ?_)
          rw [p4] at R2
          have pl := congrArg List.length p4
          rw [List.length_append, pcode_l] at pl
          have l4 : (A ++ List.replicate j (33 : Int32) ++ [40] ++ P).length = A.length + j + 1 + P.length := by rw [List.length_append, len1, List.length_append, List.length_replicate]
          rw [l4] at p5
          refine ⟨[], C ++ q1.2.1 ++ List.replicate j (-1), ?_, fun c hc => absurd hc List.not_mem_nil, fun z => absurd z (by decide), fun _ => rfl, List.append_nil _, ?_, ?_, fun z => absurd z (by decide), fun z => absurd z (by decide)⟩
          · rw [gp, gp2, List.append_nil]
            exact R2
          · have l5 : (C ++ q1.2.1 ++ List.replicate j (-1 : Int32)).length = C'.length + P.length + j := by rw [List.length_append, List.length_replicate, pl]
            rw [gp, gp2, List.append_nil, l5]
            show 2 * (T ++ q1.2.2.1).length + (C'.length + P.length + j) + A.length ≤ q1.1.1 + 1
            omega
          · rw [gp]
            show a < q1.1.1 + 1
            omega
        · have gp : (grPar (grN L n) q1).1.2 = nI q1.1.1 := by
            show (grW (grN L n) 41 q1.1).2 = _
            unfold grW grP grF
            rw [iF_n w41, if_pos hz]
          rw [gp]
          refine ⟨1 + w1 + 1, fun h A j C T p N0 Q R hT bd hj hj0 hp hA => ⟨fun nf hQ => ?_, fun ok hk => ?_⟩⟩
          · rw [show N0 + (1 + w1 + 1) = N0 + 1 + w1 + 1 by omega]
            refine (step h A j C T p (N0 + 1) Q R hT bd hp).2 hz (fun h' ⟨P, C', R', p1, p2, p3, p4, p5, p6, p7, p8⟩ => ?_)
            rw [e1] at p7 p8 w41
            exact st_stop hB R' (p7 (by decide)) (p8 rfl) (show p + 1 ≤ 20 by omega) (fun z => absurd z w41) (fun _ => Nat.succ_ne_zero p) Q _ (hQ h' R'.1.1)
          · rw [show N0 + (1 + w1 + 1) = N0 + 1 + w1 + 1 by omega]
            refine (step h A j C T p (N0 + 1) Q R hT bd hp).2 hz (fun h' ⟨P, C', R', p1, p2, p3, p4, p5, p6, p7, p8⟩ => ?_)
            have := R'.1.2.1
            exact absurd ok (nI_m1 (by omega))
end REFW
