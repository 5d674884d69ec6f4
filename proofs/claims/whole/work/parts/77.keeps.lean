def srN : List Prop → Option (List Prop)
  | p :: s => some ((¬ p) :: s)
  | [] => none
def srA : List Prop → Option (List Prop)
  | q :: p :: s => some ((p ∧ q) :: s)
  | _ => none
def srO : List Prop → Option (List Prop)
  | q :: p :: s => some ((p ∨ q) :: s)
  | _ => none
/-- the steps of a rule, done on a heap of what was said -/
noncomputable def rS (B : Nat) (T : Nat → Prop) : List Int32 → List Prop → Option (List Prop)
  | [], s => some s
  | c :: r, s => (if c = -1 then srN s else if c = -2 then srA s else if c = -3 then srO s else iF (∃ i, i < B ∧ c = nI i) (some (T c.toNatClampNeg :: s)) none).bind (fun s2 => rS B T r s2)
theorem rS_c (B : Nat) (T : Nat → Prop) (c : Int32) (r : List Int32) (s : List Prop) : rS B T (c :: r) s = (if c = -1 then srN s else if c = -2 then srA s else if c = -3 then srO s else iF (∃ i, i < B ∧ c = nI i) (some (T c.toNatClampNeg :: s)) none).bind (fun s2 => rS B T r s2) := rfl
theorem rS_t {B : Nat} (hB : B ≤ 1000) {T : Nat → Prop} {i : Nat} (hi : i < B) (r : List Int32) (s : List Prop) : rS B T (nI i :: r) s = rS B T r (T i :: s) := by
  have n1 : ¬ nI i = -1 := nI_m1 (by omega)
  have ng : ∀ v : Int32, v < 0 → ¬ nI i = v := fun v hv e => nI_pos (n := i) (by omega) (by rw [e]; exact hv)
  rw [rS_c, if_neg n1, if_neg (ng (-2) (by decide)), if_neg (ng (-3) (by decide)), iF_y ⟨i, hi, rfl⟩, nI_clamp (by omega)]
  rfl
section RSG
variable {L : Nat → Int32} {n : Nat}
theorem grF_at (s : RS) : (grF s).1 = s.1 := by
  unfold grF
  split <;> rfl
theorem grW_at {s : RS} {c : Int32} (hc : ¬ c = -1) (h : s.1 ≤ n) : (grW (grN L n) c s).1 ≤ n := by
  unfold grW grP
  by_cases w : grN L n s = c
  · rw [iF_y w]
    exact (grN_c w hc).2
  · rw [iF_n w, grF_at]
    exact h
theorem grFld_at {s : RS} (a : Int32) (h : s.1 ≤ n) : (grFld (grN L n) a s).2.1 ≤ n := by
  unfold grFld
  by_cases w : fIx (grN L n s) < 8
  · rw [iF_y w]
    exact (grN_f w).2
  · rw [iF_n w]
    show (grF s).1 ≤ n
    rw [grF_at]
    exact h
theorem grDig_at : ∀ r v (s : RS), s.1 ≤ n → (grDig (grN L n) r v s).2.1 ≤ n := by
  intro r
  induction r with
  | zero => intro v s h; exact h
  | succ r ih =>
    intro v s h
    unfold grDig
    by_cases w : isDg (grN L n s) ∧ (r = 3 ∨ ¬ v = 0)
    · rw [iF_y w]
      exact ih _ _ (grN_d w.1).2
    · rw [iF_n w]
      exact h
theorem grSide_at {s : RS} (h : s.1 ≤ n) : (grSide (grN L n) s).2.1 ≤ n := by
  unfold grSide
  by_cases w : isDg (grN L n s)
  · rw [iF_y w]
    have d := grDig_at (L := L) 4 0 s h
    generalize grDig (grN L n) 4 0 s = q at *
    unfold grNum
    by_cases w2 : grN L n q.2 = 42
    · rw [iF_y w2]
      exact grFld_at _ (grN_c w2 (by decide)).2
    · rw [iF_n w2]
      exact d
  · rw [iF_n w]
    exact grFld_at 1 h
theorem grTst_at {s : RS} (h : s.1 ≤ n) : (grTst (grN L n) s).1.1 ≤ n := by
  have l := grSide_at (L := L) h
  unfold grTst grTst2
  show (grSide (grN L n) (grP (grSg (grN L n (grSide (grN L n) s).2)) (grSide (grN L n) s).2)).2.1 ≤ n
  apply grSide_at
  generalize grSide (grN L n) s = q at *
  unfold grP
  by_cases w : grSg (grN L n q.2)
  · rw [iF_y w]
    rcases w with w | w | w <;> exact (grN_c w (by decide)).2
  · rw [iF_n w, grF_at]
    exact l
theorem grLoop_at {c oc : Int32} (hc : ¬ c = -1) {cmb : Prop → Prop → Prop} {W : Nat → RS → GR} (hW : ∀ t s, s.1 ≤ n → (W t s).1.1 ≤ n) : ∀ k (r : GR), r.1.1 ≤ n → (grLoop (grN L n) c oc cmb W k r).1.1 ≤ n := by
  intro k
  induction k with
  | zero => intro r h; exact h
  | succ k ih =>
    intro r h
    rw [grLoop_s]
    by_cases w : grN L n r.1 = c
    · rw [iF_y w]
      exact ih _ (hW _ _ (grN_c w hc).2)
    · rw [iF_n w]
      exact h
theorem grG_at : ∀ f k d t (s : RS), k ≤ 2 → s.1 ≤ n → (grG (grN L n) f k d t s).1.1 ≤ n := by
  intro f
  induction f with
  | zero => intro k d t s _ h; rw [grG]; exact h
  | succ f ih =>
    intro k d t s hk h
    obtain rfl | rfl | rfl : k = 0 ∨ k = 1 ∨ k = 2 := by omega
    · rw [grG_0]
      exact grLoop_at (by decide) (fun t2 s2 h2 => ih 1 d _ s2 (by decide) h2) 60 _ (ih 1 d t s (by decide) h)
    · rw [grG_1]
      exact grLoop_at (by decide) (fun t2 s2 h2 => ih 2 d _ s2 (by decide) h2) 60 _ (ih 2 d t s (by decide) h)
    · rw [grG_2]
      by_cases w : grN L n s = 33 ∨ grN L n s = 40
      · have lt : s.1 < n := w.elim (fun w => (grN_c w (by decide)).2) (fun w => (grN_c w (by decide)).2)
        rw [iF_y w]
        by_cases w2 : d < 20
        · rw [iF_y w2]
          by_cases w3 : grN L n s = 33
          · rw [iF_y w3]
            exact ih 2 (d + 1) t (s.1 + 1, s.2) (by decide) lt
          · rw [iF_n w3]
            exact grW_at (by decide) (ih 0 (d + 1) t (s.1 + 1, s.2) (by decide) lt)
        · rw [iF_n w2]
          show (grF s).1 ≤ n
          rw [grF_at]
          exact h
      · rw [iF_n w]
        exact grTst_at h
/-- the steps of what was read without a fault say what it says -/
def rOKs (B : Nat) (T : Nat → Prop) (E : RT → Prop) (t : Nat) (q : GR) : Prop := t + q.2.2.1.length ≤ B → (∀ i, i < q.2.2.1.length → T (t + i) = E (q.2.2.1.getD i (0, 0, 0, 0, 0))) → ∀ rest s, rS B T (q.2.1 ++ rest) s = rS B T rest (q.2.2.2 E :: s)
theorem rOKs_cmb {B : Nat} {T : Nat → Prop} {E : RT → Prop} {t : Nat} {r q : GR} {oc : Int32} {cmb : Prop → Prop → Prop} (ho : ∀ rest (a b : Prop) s, rS B T (oc :: rest) (b :: a :: s) = rS B T rest (cmb a b :: s)) (h1 : rOKs B T E t r) (h2 : rOKs B T E (t + r.2.2.1.length) q) : rOKs B T E t (grCmb oc cmb r q) := by
  intro hb hT rest s
  have ll : (grCmb oc cmb r q).2.2.1.length = r.2.2.1.length + q.2.2.1.length := List.length_append
  rw [ll] at hb hT
  have gl : ∀ i, i < r.2.2.1.length → (r.2.2.1 ++ q.2.2.1).getD i (0, 0, 0, 0, 0) = r.2.2.1.getD i (0, 0, 0, 0, 0) := fun i hi => by
    rw [List.getD_eq_getElem?_getD, List.getD_eq_getElem?_getD, List.getElem?_append_left hi]
  have gr : ∀ i, (r.2.2.1 ++ q.2.2.1).getD (r.2.2.1.length + i) (0, 0, 0, 0, 0) = q.2.2.1.getD i (0, 0, 0, 0, 0) := fun i => by
    rw [List.getD_eq_getElem?_getD, List.getD_eq_getElem?_getD, List.getElem?_append_right (by omega), Nat.add_sub_cancel_left]
  have e1 := h1 (by omega) (fun i hi => by
    have := hT i (by omega)
    rw [← gl i hi]
    exact this)
  have e2 := h2 (by omega) (fun i hi => by
    have := hT (r.2.2.1.length + i) (by omega)
    rw [← gr i, Nat.add_assoc]
    exact this)
  show rS B T (r.2.1 ++ q.2.1 ++ [oc] ++ rest) s = rS B T rest (cmb (r.2.2.2 E) (q.2.2.2 E) :: s)
  rw [List.append_assoc, List.append_assoc, e1, e2]
  exact ho rest _ _ s
theorem rOKs_loop {B : Nat} {T : Nat → Prop} {E : RT → Prop} {t f d kin : Nat} {c oc : Int32} (hc : ¬ c = -1) {cmb : Prop → Prop → Prop} (hk : kin ≤ 2) (ho : ∀ rest (a b : Prop) s, rS B T (oc :: rest) (b :: a :: s) = rS B T rest (cmb a b :: s)) (ih : ∀ t (s : RS), s.1 ≤ n → (grG (grN L n) f kin d t s).1.2 = -1 → rOKs B T E t (grG (grN L n) f kin d t s)) : ∀ k (r : GR), r.1.1 ≤ n → (grLoop (grN L n) c oc cmb (fun t2 s2 => grG (grN L n) f kin d (t + t2) s2) k r).1.2 = -1 → rOKs B T E t r → rOKs B T E t (grLoop (grN L n) c oc cmb (fun t2 s2 => grG (grN L n) f kin d (t + t2) s2) k r) := by
  intro k
  induction k with
  | zero => intro r _ _ h; exact h
  | succ k ih2 =>
    intro r hr hz h
    rw [grLoop_s] at hz ⊢
    by_cases w : grN L n r.1 = c
    · rw [iF_y w] at hz ⊢
      have lt := (grN_c w hc).2
      have at2 := grG_at (L := L) f kin d (t + r.2.2.1.length) (r.1.1 + 1, r.1.2) hk lt
      by_cases z2 : (grG (grN L n) f kin d (t + r.2.2.1.length) (r.1.1 + 1, r.1.2)).1.2 = -1
      · exact ih2 _ at2 hz (rOKs_cmb ho h (ih _ _ lt z2))
      · have z3 : ¬ (grCmb oc cmb r (grG (grN L n) f kin d (t + r.2.2.1.length) (r.1.1 + 1, r.1.2))).1.2 = -1 := z2
        rw [grLoop_z hc z3] at hz
        exact absurd hz z3
    · rw [iF_n w]
      exact h
theorem rOKs_G (hn : n ≤ 60) {B : Nat} (hB : B ≤ 1000) {T : Nat → Prop} {E : RT → Prop} : ∀ f k d t (s : RS), k ≤ 2 → d ≤ 20 → 3 * (20 - d) + (3 - k) ≤ f → s.1 ≤ n → (grG (grN L n) f k d t s).1.2 = -1 → rOKs B T E t (grG (grN L n) f k d t s) := by
  intro f
  induction f with
  | zero => intro k d t s h1 h2 h3; omega
  | succ f ih =>
    intro k d t s hk hd hf hs
    obtain rfl | rfl | rfl : k = 0 ∨ k = 1 ∨ k = 2 := by omega
    · rw [grG_0]
      intro hz
      have a1 := grG_at (L := L) f 1 d t s (by decide) hs
      have z1 : (grG (grN L n) f 1 d t s).1.2 = -1 := Classical.byContradiction (fun w => by rw [grLoop_z (by decide) w] at hz; exact w hz)
      refine rOKs_loop (by decide) (by decide) (fun rest a b s => ?_) (fun t s hs hz => ih 1 d t s (by decide) hd (by omega) hs hz) 60 _ a1 hz (ih 1 d t s (by decide) hd (by omega) hs z1)
      rw [rS_c, if_neg (by decide), if_neg (by decide), if_pos rfl]
      rfl
    · rw [grG_1]
      intro hz
      have a1 := grG_at (L := L) f 2 d t s (by decide) hs
      have z1 : (grG (grN L n) f 2 d t s).1.2 = -1 := Classical.byContradiction (fun w => by rw [grLoop_z (by decide) w] at hz; exact w hz)
      refine rOKs_loop (by decide) (by decide) (fun rest a b s => ?_) (fun t s hs hz => ih 2 d t s (by decide) hd (by omega) hs hz) 60 _ a1 hz (ih 2 d t s (by decide) hd (by omega) hs z1)
      rw [rS_c, if_neg (by decide), if_pos rfl]
      rfl
    · rw [grG_2]
      by_cases w : grN L n s = 33 ∨ grN L n s = 40
      · have lt : s.1 < n := w.elim (fun w => (grN_c w (by decide)).2) (fun w => (grN_c w (by decide)).2)
        rw [iF_y w]
        by_cases w2 : d < 20
        · rw [iF_y w2]
          by_cases w3 : grN L n s = 33
          · rw [iF_y w3]
            intro hz hb hT rest st
            have i1 := ih 2 (d + 1) t (s.1 + 1, s.2) (by decide) (by omega) (by omega) lt hz hb hT
            generalize grG (grN L n) f 2 (d + 1) t (s.1 + 1, s.2) = q at *
            show rS B T (q.2.1 ++ [-1] ++ rest) st = rS B T rest ((¬ q.2.2.2 E) :: st)
            rw [List.append_assoc, i1]
            show rS B T (-1 :: rest) (q.2.2.2 E :: st) = _
            rw [rS_c, if_pos rfl]
            rfl
          · rw [iF_n w3]
            intro hz
            have z1 : (grG (grN L n) f 0 (d + 1) t (s.1 + 1, s.2)).1.2 = -1 := Classical.byContradiction (fun w => by
              have e : (grPar (grN L n) (grG (grN L n) f 0 (d + 1) t (s.1 + 1, s.2))).1 = (grG (grN L n) f 0 (d + 1) t (s.1 + 1, s.2)).1 := grW_z (by decide) w
              rw [e] at hz
              exact w hz)
            exact ih 0 (d + 1) t (s.1 + 1, s.2) (by decide) (by omega) (by omega) lt z1
        · rw [iF_n w2]
          intro hz
          have z1 : (grF s).2 = -1 := hz
          unfold grF at z1
          have s2 : s.2 = -1 := w.elim (fun w => (grN_c w (by decide)).1) (fun w => (grN_c w (by decide)).1)
          rw [if_pos s2] at z1
          exact absurd z1 (nI_m1 (by omega))
      · rw [iF_n w]
        intro _ hb hT rest st
        have t1 : t + 1 ≤ B := hb
        show rS B T (nI t :: rest) st = rS B T rest (E (grTst (grN L n) s).2 :: st)
        rw [rS_t hB (by omega)]
        have := hT 0 (by show 0 < 1; decide)
        rw [Nat.add_zero] at this
        rw [this]
        rfl
end RSG
