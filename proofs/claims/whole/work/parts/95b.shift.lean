/-- h is c, moved up by B; all numbers in arrays are 0 -/
def SH (B : Nat) (h c : Hp) : Prop := hn h = B + hn c ∧ hm h = hm c ∧ (∀ a, kd h (B + a) = kd c a) ∧ (∀ a, ln h (B + a) = ln c a) ∧ (∀ f a, fI h f (B + a) = fI c f a) ∧ (∀ f a, fR h f (B + a) = (fR c f a).map (fun q => B + q)) ∧ (∀ k a j, aR h k (B + a) j = (aR c k a j).map (fun q => B + q)) ∧ (∀ k a j, aI h k (B + a) j = 0) ∧ (∀ k a j, aL h k (B + a) j = 0) ∧ ∀ a, hn h ≤ a → kd h a = 0
section SHFT
variable {B : Nat} {h c : Hp}
theorem sh_nw (S : SH B h c) (k n : Nat) : SH B (nw h k n) (nw c k n) := by
  obtain ⟨s1, s2, s3, s4, s5, s6, s7, s8, s9, s10⟩ := S
  have e : ∀ a, (B + a = hn h) ↔ a = hn c := fun a => by omega
  refine ⟨?_, ?_, fun a => ?_, fun a => ?_, fun f a => ?_, fun f a => ?_, fun q a j => ?_, fun q a j => ?_, fun q a j => ?_, fun a ha => ?_⟩
  · show hn h + 1 = B + (hn c + 1)
    omega
  · show hm h + n = hm c + n
    omega
  · show (if B + a = hn h then k else kd h (B + a)) = if a = hn c then k else kd c a
    rw [s3]
    by_cases z : a = hn c
    · rw [if_pos ((e a).mpr z), if_pos z]
    · rw [if_neg (fun w => z ((e a).mp w)), if_neg z]
  · show (if B + a = hn h then n else ln h (B + a)) = if a = hn c then n else ln c a
    rw [s4]
    by_cases z : a = hn c
    · rw [if_pos ((e a).mpr z), if_pos z]
    · rw [if_neg (fun w => z ((e a).mp w)), if_neg z]
  · show (if B + a = hn h then 0 else fI h f (B + a)) = if a = hn c then 0 else fI c f a
    rw [s5]
    by_cases z : a = hn c
    · rw [if_pos ((e a).mpr z), if_pos z]
    · rw [if_neg (fun w => z ((e a).mp w)), if_neg z]
  · show (if B + a = hn h then none else fR h f (B + a)) = Option.map (fun q => B + q) (if a = hn c then none else fR c f a)
    rw [s6]
    by_cases z : a = hn c
    · rw [if_pos ((e a).mpr z), if_pos z]
      rfl
    · rw [if_neg (fun w => z ((e a).mp w)), if_neg z]
  · show (if B + a = hn h then none else aR h q (B + a) j) = Option.map (fun q => B + q) (if a = hn c then none else aR c q a j)
    rw [s7]
    by_cases z : a = hn c
    · rw [if_pos ((e a).mpr z), if_pos z]
      rfl
    · rw [if_neg (fun w => z ((e a).mp w)), if_neg z]
  · show (if B + a = hn h then 0 else aI h q (B + a) j) = 0
    rw [s8]
    by_cases z : B + a = hn h
    · rw [if_pos z]
    · rw [if_neg z]
  · show (if B + a = hn h then 0 else aL h q (B + a) j) = 0
    rw [s9]
    by_cases z : B + a = hn h
    · rw [if_pos z]
    · rw [if_neg z]
  · have ha2 : hn h + 1 ≤ a := ha
    show (if a = hn h then k else kd h a) = 0
    rw [if_neg (by omega)]
    exact s10 a (by omega)
theorem sh_sI (S : SH B h c) (f b : Nat) (v : Int32) : SH B (sI h f (B + b) v) (sI c f b v) := by
  obtain ⟨s1, s2, s3, s4, s5, s6, s7, s8, s9, s10⟩ := S
  refine ⟨s1, s2, s3, s4, fun f2 a => ?_, s6, s7, s8, s9, s10⟩
  show (if f2 = f ∧ B + a = B + b then v else fI h f2 (B + a)) = if f2 = f ∧ a = b then v else fI c f2 a
  rw [s5]
  by_cases z : f2 = f ∧ a = b
  · rw [if_pos ⟨z.1, by omega⟩, if_pos z]
  · rw [if_neg (fun w => z ⟨w.1, by omega⟩), if_neg z]
theorem sh_sR (S : SH B h c) (f b : Nat) (v : Option Nat) : SH B (sR h f (B + b) (v.map (fun q => B + q))) (sR c f b v) := by
  obtain ⟨s1, s2, s3, s4, s5, s6, s7, s8, s9, s10⟩ := S
  refine ⟨s1, s2, s3, s4, s5, fun f2 a => ?_, s7, s8, s9, s10⟩
  show (if f2 = f ∧ B + a = B + b then v.map (fun q => B + q) else fR h f2 (B + a)) = Option.map (fun q => B + q) (if f2 = f ∧ a = b then v else fR c f2 a)
  rw [s6]
  by_cases z : f2 = f ∧ a = b
  · rw [if_pos ⟨z.1, by omega⟩, if_pos z]
  · rw [if_neg (fun w => z ⟨w.1, by omega⟩), if_neg z]
theorem sh_tR (S : SH B h c) (k b i : Nat) (v : Option Nat) : SH B (tR h k (B + b) i (v.map (fun q => B + q))) (tR c k b i v) := by
  obtain ⟨s1, s2, s3, s4, s5, s6, s7, s8, s9, s10⟩ := S
  refine ⟨s1, s2, s3, s4, s5, s6, fun k2 a j => ?_, s8, s9, s10⟩
  show (if k2 = k ∧ B + a = B + b ∧ j = i then v.map (fun q => B + q) else aR h k2 (B + a) j) = Option.map (fun q => B + q) (if k2 = k ∧ a = b ∧ j = i then v else aR c k2 a j)
  rw [s7]
  by_cases z : k2 = k ∧ a = b ∧ j = i
  · rw [if_pos ⟨z.1, by omega, z.2.2⟩, if_pos z]
  · rw [if_neg (fun w => z ⟨w.1, by omega, w.2.2⟩), if_neg z]
-- what is read
theorem shK (S : SH B h c) {a k : Nat} (e : kd c a = k) : kd h (B + a) = k := (S.2.2.1 a).trans e
theorem shL (S : SH B h c) {a n : Nat} (e : ln c a = n) : ln h (B + a) = n := (S.2.2.2.1 a).trans e
theorem shI (S : SH B h c) {f a : Nat} {v : Int32} (e : fI c f a = v) : fI h f (B + a) = v := (S.2.2.2.2.1 f a).trans e
theorem shR (S : SH B h c) {f a v : Nat} (e : fR c f a = some v) : fR h f (B + a) = some (B + v) := by rw [S.2.2.2.2.2.1 f a, e]; rfl
theorem shN (S : SH B h c) {f a : Nat} (e : fR c f a = none) : fR h f (B + a) = none := by rw [S.2.2.2.2.2.1 f a, e]; rfl
theorem shA (S : SH B h c) {k a j v : Nat} (e : aR c k a j = some v) : aR h k (B + a) j = some (B + v) := by rw [S.2.2.2.2.2.2.1 k a j, e]; rfl
-- the steps of a constructor
theorem I_nwA {K : Option Nat → Hp → Prop} (S : SH B h c) {n : Int32} {k : Nat} (o N : Nat) (hn0 : ¬ n < 0) (hN : n.toNatClampNeg = N) (h6 : N ≤ 1000000) (ho : hn c = o) (kk : ∀ h2, SH B h2 (nw c k N) → K (some (B + o)) h2) : nwA h n k K := by
  refine ⟨hn0, by omega, ?_⟩
  have e : hn h = B + o := by rw [S.1, ho]
  rw [hN, e]
  exact kk _ (sh_nw S k N)
theorem I_nwO {K : Option Nat → Hp → Prop} (S : SH B h c) {k n : Nat} (o : Nat) (ho : hn c = o) (kk : ∀ h2, SH B h2 (nw c k n) → K (some (B + o)) h2) : nwO h k n K :=
  ⟨some (B + o), by rw [S.1, ho], kk _ (sh_nw S k n)⟩
theorem I_pR {K : Hp → Prop} (S : SH B h c) {a q f v : Nat} (hk : kd c a = q) (kk : ∀ h2, SH B h2 (sR c f a (some v)) → K h2) : pR h (some (B + a)) q f (some (B + v)) K :=
  ⟨B + a, rfl, shK S hk, kk _ (sh_sR S f a (some v))⟩
theorem I_pN {K : Hp → Prop} (S : SH B h c) {a q f : Nat} (hk : kd c a = q) (kk : ∀ h2, SH B h2 (sR c f a none) → K h2) : pR h (some (B + a)) q f none K :=
  ⟨B + a, rfl, shK S hk, kk _ (sh_sR S f a none)⟩
theorem I_pI {K : Hp → Prop} (S : SH B h c) {a q f : Nat} {v : Int32} (hk : kd c a = q) (kk : ∀ h2, SH B h2 (sI c f a v) → K h2) : pI h (some (B + a)) q f v K :=
  ⟨B + a, rfl, shK S hk, kk _ (sh_sI S f a v)⟩
theorem I_gR {K : Option Nat → Prop} (S : SH B h c) {a q f : Nat} (v : Nat) (hk : kd c a = q) (e : fR c f a = some v) (kk : K (some (B + v))) : gR h (some (B + a)) q f K :=
  ⟨B + a, rfl, shK S hk, by rw [shR S e]; exact kk⟩
theorem I_stR {K : Hp → Prop} (S : SH B h c) {a v : Nat} {i : Int32} (q j n r : Nat) (hk : kd c a = q) (h4 : 400 ≤ q) (hq : rcK q = r) (hr : rcOK r) (hv : kd c v = r + 1) (hi : i.toNatClampNeg = j) (hi0 : ¬ i < 0) (hl : ln c a = n) (hj : j < n) (kk : ∀ h2, SH B h2 (tR c q a j (some v)) → K h2) : stR h (some (B + a)) i (some (B + v)) K := by
  have e := shK S hk
  have el := shL S hl
  have ev := shK S hv
  refine ⟨B + a, rfl, ⟨by rw [e]; exact h4, by rw [e, hq]; exact hr⟩, fun b w => ?_, ?_, ?_⟩
  · cases w
    rw [ev, e, hq]
  · rw [el]
    intro w
    rcases w with w | w
    · exact hi0 w
    · omega
  · rw [e, hi]
    exact kk _ (sh_tR S q a j (some v))
theorem I_gRx {h1 : Hp} {K : Option Nat → Prop} (S : SH B h c) (e1 : kd h1 = kd h) (e2 : fR h1 = fR h) {a q f : Nat} (v : Nat) (hk : kd c a = q) (e : fR c f a = some v) (kk : K (some (B + v))) : gR h1 (some (B + a)) q f K :=
  ⟨B + a, rfl, by rw [e1]; exact shK S hk, by rw [e2, shR S e]; exact kk⟩
theorem I_stI {h1 : Hp} {K : Hp → Prop} (S : SH B h c) (e1 : kd h1 = kd h) (e3 : ln h1 = ln h) {a : Nat} {i v : Int32} (q n j : Nat) (hk : kd c a = q) (hq : 100 ≤ q ∧ q < 200) (hl : ln c a = n) (hi : vp_in i n) (hj : i.toNatClampNeg = j) (kk : K (tI h1 q (B + a) j v)) : stI h1 (some (B + a)) i v K := by
  have e : kd h1 (B + a) = q := by rw [e1]; exact shK S hk
  refine ⟨B + a, rfl, by rw [e]; exact hq, by rw [e3, shL S hl]; exact hi, ?_⟩
  rw [e, hj]
  exact kk
end SHFT
/-- nothing at all -/
def hp0 (B : Nat) : Hp := (fun _ _ => 0, fun _ _ => none, fun _ _ _ => 0, fun _ _ _ => 0, fun _ _ _ => none, fun _ => 0, fun _ => 0, B, 0)
theorem sh_0 (B : Nat) : SH B (hp0 B) (hp0 0) := ⟨rfl, rfl, fun _ => rfl, fun _ => rfl, fun _ _ => rfl, fun _ _ => rfl, fun _ _ _ => rfl, fun _ _ _ => rfl, fun _ _ _ => rfl, fun _ _ => rfl⟩
