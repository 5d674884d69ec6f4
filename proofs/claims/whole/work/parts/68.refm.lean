theorem grN_e {L : Nat → Int32} {n : Nat} {s : RS} (h : n ≤ s.1) : grN L n s = -1 := by
  unfold grN
  rw [if_neg (fun w => by have := w.2; omega)]
theorem rep0 (c : Int32) (X : List Int32) : X ++ List.replicate 0 c = X := List.append_nil X
section REFM
variable {x y b0 s0 np na nm nr ne r sb n : Nat} {g : Nat → Nat → Nat} {m : Nat → Nat} {h0 : Hp} {L V : Nat → Int32}
/-- one turn of the reference's reading -/
def CF (y r : Nat) (Q : Int32 → Hp → Prop) (K : Int32 × Int32 → Hp → Prop) (s : Int32 × Int32) (h : Hp) : Prop := b_X11_compiles_96 (some y) (nI r) s.1 s.2 h Q (fun l3 l4 h => K (l3, l4) h)
def tpC (k : Nat) (A : List Int32) : Prop := A = [] ∨ ∃ A' c, A = A' ++ [c] ∧ ¬ c = 33 ∧ (k ≤ 1 → ¬ c = 38) ∧ (k = 0 → ¬ c = 124)
/-- where it stands when a piece has been read without a fault -/
def Post (y : Nat) (m : Nat → Nat) (r n : Nat) (L : Nat → Int32) (h0 : Hp) (k a0 : Nat) (G : GR) (A : List Int32) (d : Nat) (E : List Int32) (T : List RT) (h : Hp) : Prop := ∃ P C', KQ y m r n h0 h G.1.1 (A ++ P) d C' (T ++ G.2.2.1) ∧ (∀ c, c ∈ P → c = 38 ∨ c = 124) ∧ (k = 1 → ∀ c, c ∈ P → c = 38) ∧ (k = 2 → P = []) ∧ C' ++ pcode P = E ∧ 2 * (T ++ G.2.2.1).length + C'.length + (A ++ P).length ≤ G.1.1 ∧ a0 < G.1.1 ∧ (k ≤ 1 → ¬ grN L n G.1 = 38) ∧ (k = 0 → ¬ grN L n G.1 = 124)
def Gst (y : Nat) (m : Nat → Nat) (r n : Nat) (L : Nat → Int32) (h0 : Hp) (k f d t a : Nat) : Prop := ∃ w : Nat, ∀ (h : Hp) (A : List Int32) (j : Nat) (C : List Int32) (T : List RT) (p N0 : Nat) (Q : Int32 → Hp → Prop), KQ y m r n h0 h a (A ++ List.replicate j 33) d C T → T.length = t → 2 * T.length + C.length + (A.length + j) ≤ a → j ≤ d → (k ≤ 1 → j = 0) → p ≤ d → tpC k A → (¬ (grG (grN L n) f k d t (a, -1)).1.2 = -1 → (∀ h', KR m r h0 h' → Q (grG (grN L n) f k d t (a, -1)).1.2 h') → Lon (CF y r Q) (N0 + w) (nI p, 1) h) ∧ ((grG (grN L n) f k d t (a, -1)).1.2 = -1 → (∀ h', Post y m r n L h0 k a (grG (grN L n) f k d t (a, -1)) A (d - j) (C ++ (grG (grN L n) f k d t (a, -1)).2.1 ++ List.replicate j (-1)) T h' → Lon (CF y r Q) N0 (nI p, 0) h') → Lon (CF y r Q) (N0 + w) (nI p, 1) h)
theorem gloop_1 (hB : RB y r sb n L m h0) {f d t : Nat} (hd : d ≤ 20) (ih : ∀ t a, Gst y m r n L h0 2 f d t a) : ∀ (rem : Nat) (q : GR), q.1.2 = -1 → ∃ w : Nat, ∀ (h : Hp) (A P C C' : List Int32) (T : List RT) (p N0 a0 : Nat) (Q : Int32 → Hp → Prop), KQ y m r n h0 h q.1.1 (A ++ P) d C' (T ++ q.2.2.1) → (∀ c, c ∈ P → c = 38) → C' ++ pcode P = C ++ q.2.1 → 2 * (T ++ q.2.2.1).length + C'.length + (A ++ P).length ≤ q.1.1 → T.length = t → p ≤ d → 60 - rem ≤ q.1.1 → a0 < q.1.1 → tpC 1 A → (¬ (grLoop (grN L n) 38 (-2) And (fun t2 s2 => grG (grN L n) f 2 d (t + t2) s2) rem q).1.2 = -1 → (∀ h', KR m r h0 h' → Q (grLoop (grN L n) 38 (-2) And (fun t2 s2 => grG (grN L n) f 2 d (t + t2) s2) rem q).1.2 h') → Lon (CF y r Q) (N0 + w) (nI p, 0) h) ∧ ((grLoop (grN L n) 38 (-2) And (fun t2 s2 => grG (grN L n) f 2 d (t + t2) s2) rem q).1.2 = -1 → (∀ h', Post y m r n L h0 1 a0 (grLoop (grN L n) 38 (-2) And (fun t2 s2 => grG (grN L n) f 2 d (t + t2) s2) rem q) A d (C ++ (grLoop (grN L n) 38 (-2) And (fun t2 s2 => grG (grN L n) f 2 d (t + t2) s2) rem q).2.1) T h' → Lon (CF y r Q) N0 (nI p, 0) h') → Lon (CF y r Q) (N0 + w) (nI p, 0) h) := by
  have n60 := hB.2.2.2.1
  intro rem
  induction rem with
  | zero =>
    intro q hz
    refine ⟨0, fun h A P C C' T p N0 a0 Q R hP hc bd hT hp h60 ha0 hA => ?_⟩
    have g0 : grLoop (grN L n) 38 (-2) And (fun t2 s2 => grG (grN L n) f 2 d (t + t2) s2) 0 q = q := rfl
    rw [g0]
    refine ⟨fun nf => absurd hz nf, fun _ k => k h ⟨P, C', R, fun c hc => Or.inl (hP c hc), fun _ => hP, fun w => absurd w (by decide), hc, bd, ha0, fun _ z => by rw [grN_e (by have := R.1.2.1; omega)] at z; exact absurd z (by decide), fun z => absurd z (by decide)⟩⟩
  | succ rem ih2 =>
    intro q hz
    by_cases w : grN L n q.1 = 38
    rotate_left
    · refine ⟨0, fun h A P C C' T p N0 a0 Q R hP hc bd hT hp h60 ha0 hA => ?_⟩
      rw [grLoop_s, iF_n w]
      refine ⟨fun nf => absurd hz nf, fun _ k => k h ⟨P, C', R, fun c hc => Or.inl (hP c hc), fun _ => hP, fun w => absurd w (by decide), hc, bd, ha0, fun _ => w, fun z => absurd z (by decide)⟩⟩
    have wq : grN L n (q.1.1, -1) = 38 := by
      have e : q.1 = (q.1.1, -1) := Prod.ext rfl hz
      rw [← e]
      exact w
    obtain ⟨w1, H1⟩ := ih (t + q.2.2.1.length) (q.1.1 + 1)
    have hG : ∀ rm, grLoop (grN L n) 38 (-2) And (fun t2 s2 => grG (grN L n) f 2 d (t + t2) s2) (rm + 1) q = grLoop (grN L n) 38 (-2) And (fun t2 s2 => grG (grN L n) f 2 d (t + t2) s2) rm (grCmb (-2) And q (grG (grN L n) f 2 d (t + q.2.2.1.length) (q.1.1 + 1, -1))) := by
      intro rm
      rw [grLoop_s, iF_y w, hz]
    rw [hG]
    generalize grG (grN L n) f 2 d (t + q.2.2.1.length) (q.1.1 + 1, -1) = q2 at *
    -- one sign, and what it joins
    have key : ∀ (h : Hp) (A P C C' : List Int32) (T : List RT) (p M : Nat) (Q : Int32 → Hp → Prop), KQ y m r n h0 h q.1.1 (A ++ P) d C' (T ++ q.2.2.1) → (∀ c, c ∈ P → c = 38) → C' ++ pcode P = C ++ q.2.1 → 2 * (T ++ q.2.2.1).length + C'.length + (A ++ P).length ≤ q.1.1 → T.length = t → p ≤ d → tpC 1 A → (¬ q2.1.2 = -1 → (∀ h', KR m r h0 h' → Q q2.1.2 h') → Lon (CF y r Q) (M + w1 + 1) (nI p, 0) h) ∧ (q2.1.2 = -1 → (∀ h', Post y m r n L h0 2 (q.1.1 + 1) q2 (A ++ [38]) d (C ++ q.2.1 ++ q2.2.1) (T ++ q.2.2.1) h' → Lon (CF y r Q) M (nI p, 0) h') → Lon (CF y r Q) (M + w1 + 1) (nI p, 0) h) := by
      intro h A P C C' T p M Q R hP hc bd hT hp hA
      have cl := congrArg List.length hc
      rw [List.length_append, pcode_l, List.length_append] at cl
      rw [List.length_append, List.length_append] at bd
      have hA2 : A = [] ∨ ∃ A' c, A = A' ++ [c] ∧ ¬ c = 38 ∧ (c = 124 → ¬ (1 : Int32) = 0) := by
        rcases hA with e | ⟨A', c, e, e1, e2, e3⟩
        · exact Or.inl e
        · exact Or.inr ⟨A', c, e, e2 (by decide), fun _ => by decide⟩
      have tp2 : tpC 2 (A ++ [38]) := Or.inr ⟨A, 38, rfl, by decide, fun z => absurd z (by decide), fun z => absurd z (by decide)⟩
      have go : ∀ h2, KQ y m r n h0 h2 (q.1.1 + 1) (A ++ [38]) d (C' ++ pcode P) (T ++ q.2.2.1) → (¬ q2.1.2 = -1 → (∀ h', KR m r h0 h' → Q q2.1.2 h') → Lon (CF y r Q) (M + w1) (nI p, 1) h2) ∧ (q2.1.2 = -1 → (∀ h', Post y m r n L h0 2 (q.1.1 + 1) q2 (A ++ [38]) d (C ++ q.2.1 ++ q2.2.1) (T ++ q.2.2.1) h' → Lon (CF y r Q) M (nI p, 0) h') → Lon (CF y r Q) (M + w1) (nI p, 1) h2) := by
        intro h2 R2
        rw [hc, ← rep0 33 (A ++ [38])] at R2
        have t1 := H1 h2 (A ++ [38]) 0 (C ++ q.2.1) (T ++ q.2.2.1) p M Q R2 (by rw [List.length_append, hT]) (by rw [List.length_append, List.length_append, len1]; omega) (Nat.zero_le _) (fun _ => rfl) hp tp2
        rw [rep0, Nat.sub_zero] at t1
        exact t1
      have bd2 : 2 * (T ++ q.2.2.1).length + C'.length + (A ++ P).length ≤ q.1.1 := by
        rw [List.length_append, List.length_append]
        exact bd
      refine ⟨fun nf hQ => ?_, fun ok hk => ?_⟩
      · exact st_sign hB (c := 38) (z := 1) (by decide) hA2 (fun c hc => Or.inl (hP c hc)) R bd2 wq (nI p) Q _ (fun h2 R2 => (go h2 R2).1 nf hQ)
      · exact st_sign hB (c := 38) (z := 1) (by decide) hA2 (fun c hc => Or.inl (hP c hc)) R bd2 wq (nI p) Q _ (fun h2 R2 => (go h2 R2).2 ok hk)
    by_cases hz2 : q2.1.2 = -1
    rotate_left
    · refine ⟨w1 + 1, fun h A P C C' T p N0 a0 Q R hP hc bd hT hp h60 ha0 hA => ?_⟩
      have z2 : ¬ (grCmb (-2) And q q2).1.2 = -1 := hz2
      rw [grLoop_z (by decide) z2]
      refine ⟨fun nf hQ => ?_, fun ok => absurd ok z2⟩
      rw [show N0 + (w1 + 1) = N0 + w1 + 1 by omega]
      exact (key h A P C C' T p N0 Q R hP hc bd hT hp hA).1 hz2 hQ
    obtain ⟨w2, H2⟩ := ih2 (grCmb (-2) And q q2) hz2
    refine ⟨w2 + w1 + 1, fun h A P C C' T p N0 a0 Q R hP hc bd hT hp h60 ha0 hA => ?_⟩
    rw [show N0 + (w2 + w1 + 1) = N0 + w2 + w1 + 1 by omega]
    have nxt : ∀ h', Post y m r n L h0 2 (q.1.1 + 1) q2 (A ++ [38]) d (C ++ q.2.1 ++ q2.2.1) (T ++ q.2.2.1) h' → _ := fun h' ⟨P2, C2, R2, p1, p2, p3, p4, p5, p6, p7, p8⟩ => H2 h' A ([38] ++ P2) C C2 T p N0 a0 Q (by
      rw [List.append_assoc, List.append_assoc] at R2
      exact R2) (fun c hc => by
      rcases List.mem_append.mp hc with e | e
      · have := List.mem_singleton.mp e
        exact this
      · rw [p3 rfl] at e; cases e) (by
      rw [pcode_a, ← List.append_assoc, p4]
      show C ++ q.2.1 ++ q2.2.1 ++ [(-2)] = C ++ (q.2.1 ++ q2.2.1 ++ [(-2)])
      simp only [List.append_assoc]) (by
      have e1 : (T ++ (q.2.2.1 ++ q2.2.2.1)) = T ++ q.2.2.1 ++ q2.2.2.1 := (List.append_assoc _ _ _).symm
      have e2 : A ++ ([38] ++ P2) = A ++ [38] ++ P2 := (List.append_assoc _ _ _).symm
      show 2 * (T ++ (q.2.2.1 ++ q2.2.2.1)).length + C2.length + (A ++ ([38] ++ P2)).length ≤ q2.1.1
      rw [e1, e2]
      exact p5) hT hp (by show 60 - rem ≤ q2.1.1; omega) (by show a0 < q2.1.1; omega) hA
    refine ⟨fun nf hQ => ?_, fun ok hk => ?_⟩
    · exact (key h A P C C' T p (N0 + w2) Q R hP hc bd hT hp hA).2 hz2 (fun h' ph => (nxt h' ph).1 nf hQ)
    · exact (key h A P C C' T p (N0 + w2) Q R hP hc bd hT hp hA).2 hz2 (fun h' ph => (nxt h' ph).2 ok hk)
theorem gloop_0 (hB : RB y r sb n L m h0) {f d t : Nat} (hd : d ≤ 20) (ih : ∀ t a, Gst y m r n L h0 1 f d t a) : ∀ (rem : Nat) (q : GR), q.1.2 = -1 → ∃ w : Nat, ∀ (h : Hp) (A P C C' : List Int32) (T : List RT) (p N0 a0 : Nat) (Q : Int32 → Hp → Prop), KQ y m r n h0 h q.1.1 (A ++ P) d C' (T ++ q.2.2.1) → (∀ c, c ∈ P → c = 38 ∨ c = 124) → C' ++ pcode P = C ++ q.2.1 → 2 * (T ++ q.2.2.1).length + C'.length + (A ++ P).length ≤ q.1.1 → ¬ grN L n q.1 = 38 → T.length = t → p ≤ d → 60 - rem ≤ q.1.1 → a0 < q.1.1 → tpC 0 A → (¬ (grLoop (grN L n) 124 (-3) Or (fun t2 s2 => grG (grN L n) f 1 d (t + t2) s2) rem q).1.2 = -1 → (∀ h', KR m r h0 h' → Q (grLoop (grN L n) 124 (-3) Or (fun t2 s2 => grG (grN L n) f 1 d (t + t2) s2) rem q).1.2 h') → Lon (CF y r Q) (N0 + w) (nI p, 0) h) ∧ ((grLoop (grN L n) 124 (-3) Or (fun t2 s2 => grG (grN L n) f 1 d (t + t2) s2) rem q).1.2 = -1 → (∀ h', Post y m r n L h0 0 a0 (grLoop (grN L n) 124 (-3) Or (fun t2 s2 => grG (grN L n) f 1 d (t + t2) s2) rem q) A d (C ++ (grLoop (grN L n) 124 (-3) Or (fun t2 s2 => grG (grN L n) f 1 d (t + t2) s2) rem q).2.1) T h' → Lon (CF y r Q) N0 (nI p, 0) h') → Lon (CF y r Q) (N0 + w) (nI p, 0) h) := by
  have n60 := hB.2.2.2.1
  intro rem
  induction rem with
  | zero =>
    intro q hz
    refine ⟨0, fun h A P C C' T p N0 a0 Q R hP hc bd n38 hT hp h60 ha0 hA => ?_⟩
    have g0 : grLoop (grN L n) 124 (-3) Or (fun t2 s2 => grG (grN L n) f 1 d (t + t2) s2) 0 q = q := rfl
    rw [g0]
    refine ⟨fun nf => absurd hz nf, fun _ k => k h ⟨P, C', R, hP, fun z => absurd z (by decide), fun w => absurd w (by decide), hc, bd, ha0, fun _ => n38, fun _ z => by rw [grN_e (by have := R.1.2.1; omega)] at z; exact absurd z (by decide)⟩⟩
  | succ rem ih2 =>
    intro q hz
    by_cases w : grN L n q.1 = 124
    rotate_left
    · refine ⟨0, fun h A P C C' T p N0 a0 Q R hP hc bd n38 hT hp h60 ha0 hA => ?_⟩
      rw [grLoop_s, iF_n w]
      refine ⟨fun nf => absurd hz nf, fun _ k => k h ⟨P, C', R, hP, fun z => absurd z (by decide), fun w => absurd w (by decide), hc, bd, ha0, fun _ => n38, fun _ => w⟩⟩
    have wq : grN L n (q.1.1, -1) = 124 := by
      have e : q.1 = (q.1.1, -1) := Prod.ext rfl hz
      rw [← e]
      exact w
    obtain ⟨w1, H1⟩ := ih (t + q.2.2.1.length) (q.1.1 + 1)
    have hG : ∀ rm, grLoop (grN L n) 124 (-3) Or (fun t2 s2 => grG (grN L n) f 1 d (t + t2) s2) (rm + 1) q = grLoop (grN L n) 124 (-3) Or (fun t2 s2 => grG (grN L n) f 1 d (t + t2) s2) rm (grCmb (-3) Or q (grG (grN L n) f 1 d (t + q.2.2.1.length) (q.1.1 + 1, -1))) := by
      intro rm
      rw [grLoop_s, iF_y w, hz]
    rw [hG]
    generalize grG (grN L n) f 1 d (t + q.2.2.1.length) (q.1.1 + 1, -1) = q2 at *
    -- one sign, and what it joins
    have key : ∀ (h : Hp) (A P C C' : List Int32) (T : List RT) (p M : Nat) (Q : Int32 → Hp → Prop), KQ y m r n h0 h q.1.1 (A ++ P) d C' (T ++ q.2.2.1) → (∀ c, c ∈ P → c = 38 ∨ c = 124) → C' ++ pcode P = C ++ q.2.1 → 2 * (T ++ q.2.2.1).length + C'.length + (A ++ P).length ≤ q.1.1 → T.length = t → p ≤ d → tpC 0 A → (¬ q2.1.2 = -1 → (∀ h', KR m r h0 h' → Q q2.1.2 h') → Lon (CF y r Q) (M + w1 + 1) (nI p, 0) h) ∧ (q2.1.2 = -1 → (∀ h', Post y m r n L h0 1 (q.1.1 + 1) q2 (A ++ [124]) d (C ++ q.2.1 ++ q2.2.1) (T ++ q.2.2.1) h' → Lon (CF y r Q) M (nI p, 0) h') → Lon (CF y r Q) (M + w1 + 1) (nI p, 0) h) := by
      intro h A P C C' T p M Q R hP hc bd hT hp hA
      have cl := congrArg List.length hc
      rw [List.length_append, pcode_l, List.length_append] at cl
      rw [List.length_append, List.length_append] at bd
      have hA2 : A = [] ∨ ∃ A' c, A = A' ++ [c] ∧ ¬ c = 38 ∧ (c = 124 → ¬ (0 : Int32) = 0) := by
        rcases hA with e | ⟨A', c, e, e1, e2, e3⟩
        · exact Or.inl e
        · exact Or.inr ⟨A', c, e, e2 (by decide), fun z => absurd z (e3 rfl)⟩
      have tp2 : tpC 1 (A ++ [124]) := Or.inr ⟨A, 124, rfl, by decide, fun z => by decide, fun z => absurd z (by decide)⟩
      have go : ∀ h2, KQ y m r n h0 h2 (q.1.1 + 1) (A ++ [124]) d (C' ++ pcode P) (T ++ q.2.2.1) → (¬ q2.1.2 = -1 → (∀ h', KR m r h0 h' → Q q2.1.2 h') → Lon (CF y r Q) (M + w1) (nI p, 1) h2) ∧ (q2.1.2 = -1 → (∀ h', Post y m r n L h0 1 (q.1.1 + 1) q2 (A ++ [124]) d (C ++ q.2.1 ++ q2.2.1) (T ++ q.2.2.1) h' → Lon (CF y r Q) M (nI p, 0) h') → Lon (CF y r Q) (M + w1) (nI p, 1) h2) := by
        intro h2 R2
        rw [hc, ← rep0 33 (A ++ [124])] at R2
        have t1 := H1 h2 (A ++ [124]) 0 (C ++ q.2.1) (T ++ q.2.2.1) p M Q R2 (by rw [List.length_append, hT]) (by rw [List.length_append, List.length_append, len1]; omega) (Nat.zero_le _) (fun _ => rfl) hp tp2
        rw [rep0, Nat.sub_zero] at t1
        exact t1
      have bd2 : 2 * (T ++ q.2.2.1).length + C'.length + (A ++ P).length ≤ q.1.1 := by
        rw [List.length_append, List.length_append]
        exact bd
      refine ⟨fun nf hQ => ?_, fun ok hk => ?_⟩
      · exact st_sign hB (c := 124) (z := 0) (by decide) hA2 (fun c hc => (hP c hc).imp id (fun z => ⟨z, rfl⟩)) R bd2 wq (nI p) Q _ (fun h2 R2 => (go h2 R2).1 nf hQ)
      · exact st_sign hB (c := 124) (z := 0) (by decide) hA2 (fun c hc => (hP c hc).imp id (fun z => ⟨z, rfl⟩)) R bd2 wq (nI p) Q _ (fun h2 R2 => (go h2 R2).2 ok hk)
    by_cases hz2 : q2.1.2 = -1
    rotate_left
    · refine ⟨w1 + 1, fun h A P C C' T p N0 a0 Q R hP hc bd n38 hT hp h60 ha0 hA => ?_⟩
      have z2 : ¬ (grCmb (-3) Or q q2).1.2 = -1 := hz2
      rw [grLoop_z (by decide) z2]
      refine ⟨fun nf hQ => ?_, fun ok => absurd ok z2⟩
      rw [show N0 + (w1 + 1) = N0 + w1 + 1 by omega]
      exact (key h A P C C' T p N0 Q R hP hc bd hT hp hA).1 hz2 hQ
    obtain ⟨w2, H2⟩ := ih2 (grCmb (-3) Or q q2) hz2
    refine ⟨w2 + w1 + 1, fun h A P C C' T p N0 a0 Q R hP hc bd n38 hT hp h60 ha0 hA => ?_⟩
    rw [show N0 + (w2 + w1 + 1) = N0 + w2 + w1 + 1 by omega]
    have nxt : ∀ h', Post y m r n L h0 1 (q.1.1 + 1) q2 (A ++ [124]) d (C ++ q.2.1 ++ q2.2.1) (T ++ q.2.2.1) h' → _ := fun h' ⟨P2, C2, R2, p1, p2, p3, p4, p5, p6, p7, p8⟩ => H2 h' A ([124] ++ P2) C C2 T p N0 a0 Q (by
      rw [List.append_assoc, List.append_assoc] at R2
      exact R2) (fun c hc => by
      rcases List.mem_append.mp hc with e | e
      · have := List.mem_singleton.mp e
        exact Or.inr this
      · exact Or.inl (p2 rfl c e)) (by
      rw [pcode_a, ← List.append_assoc, p4]
      show C ++ q.2.1 ++ q2.2.1 ++ [(-3)] = C ++ (q.2.1 ++ q2.2.1 ++ [(-3)])
      simp only [List.append_assoc]) (by
      have e1 : (T ++ (q.2.2.1 ++ q2.2.2.1)) = T ++ q.2.2.1 ++ q2.2.2.1 := (List.append_assoc _ _ _).symm
      have e2 : A ++ ([124] ++ P2) = A ++ [124] ++ P2 := (List.append_assoc _ _ _).symm
      show 2 * (T ++ (q.2.2.1 ++ q2.2.2.1)).length + C2.length + (A ++ ([124] ++ P2)).length ≤ q2.1.1
      rw [e1, e2]
      exact p5) (p7 (by decide)) hT hp (by show 60 - rem ≤ q2.1.1; omega) (by show a0 < q2.1.1; omega) hA
    refine ⟨fun nf hQ => ?_, fun ok hk => ?_⟩
    · exact (key h A P C C' T p (N0 + w2) Q R hP hc bd hT hp hA).2 hz2 (fun h' ph => (nxt h' ph).1 nf hQ)
    · exact (key h A P C C' T p (N0 + w2) Q R hP hc bd hT hp hA).2 hz2 (fun h' ph => (nxt h' ph).2 ok hk)
end REFM
