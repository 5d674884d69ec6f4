def vcF (f : Nat) : Bool := isSf f || f == 1410
def vcK (k : Nat) : Bool := isSk k || (decide (120 ≤ k) && decide (k < 250))
theorem eqX_sy {F K : Nat → Bool} {h h1 : Hp} (e : eqX F K h h1) : eqX F K h1 h := ⟨e.1.symm, e.2.1.symm, e.2.2.1.symm, e.2.2.2.1.symm, e.2.2.2.2.1.symm, fun f q => (e.2.2.2.2.2.1 f q).symm, fun k q => (e.2.2.2.2.2.2.1 k q).symm, e.2.2.2.2.2.2.2.1.symm, e.2.2.2.2.2.2.2.2.symm⟩
section TIE
variable {x y b0 s0 np na nm nr ne : Nat} {g : Nat → Nat → Nat} {m : Nat → Nat} {h h1 V C R : Hp}
theorem eqX_tI {F K : Nat → Bool} (a : eqX F K h h1) {k : Nat} (hk : K k = true) (b j : Nat) (v : Int32) : eqX F K h (tI h1 k b j v) := a.tI hk b j v
theorem eqX_sI {F K : Nat → Bool} (a : eqX F K h h1) {f : Nat} (hf : F f = true) (b : Nat) (v : Int32) : eqX F K h (sI h1 f b v) := a.sI hf b v
theorem eqX_lkR {k a : Nat} (hk : vcK k = true) (v : Int32) (L : List Nat) (e : eqX vcF vcK h h1) : ∀ i, eqX vcF vcK h (lkR k a v L i h1) := by
  intro i
  induction i with
  | zero => exact e
  | succ i ih => exact eqX_tI ih hk _ _ _
theorem rf_X {p : Nat} {kp : Prop} {v : Int32} {L : List Nat} {k n : Nat} : eqX vcF vcK h (rfT m y p kp v L k n h) := by
  unfold rfT
  by_cases c : kp
  · rw [iF_y c]
    refine eqX_lkR rfl _ _ ?_ _
    unfold psR
    exact eqX_sI (eqX_tI (eqX_tI (eqX_tI (eqX_tI (eqX_tI (eqX_tI (eqX_tI (eqX_tI (eqX_tI (eqX_tI (eqX_tI (eqX_tI (eqX.rf h) rfl _ _ _) rfl _ _ _) rfl _ _ _) rfl _ _ _) rfl _ _ _) rfl _ _ _) rfl _ _ _) rfl _ _ _) rfl _ _ _) rfl _ _ _) rfl _ _ _) rfl _ _ _) rfl _ _
  · rw [iF_n c]
    exact eqX_lkR rfl _ _ (eqX.rf h) _
theorem eqX_lk {F K : Nat → Bool} {A N : Nat} {L : List Nat} (e : eqX F K V C) : ∀ i, eqX F K (lkH g A N L i V) (lkH g A N L i C) := by
  intro i
  induction i with
  | zero => exact e
  | succ i ih => exact eqX_sRb (eqX_tRb ih _ _ _ _) _ _ _
theorem eqX_dr {F K : Nat → Bool} {pl : Nat} {L : List Nat} (e : eqX F K V C) : ∀ i, eqX F K (drH g pl L i V) (drH g pl L i C) := by
  intro i
  induction i with
  | zero => exact e
  | succ i ih => exact eqX_sRb ih _ _ _
theorem clT_X (e : eqX vcF vcK V C) (pl : Nat) (kp : Prop) (v : Int32) (L : List Nat) (n : Nat) : eqX vcF vcK (clT g x pl kp v L n V) (clT g x pl kp v L n C) := by
  unfold clT
  by_cases c : kp
  · rw [iF_y c, iF_y c]
    have h2 := e.2.2.2.2.2.1 2 rfl
    have h3 := e.2.2.2.2.2.1 3 rfl
    have h7 := e.2.2.2.2.2.1 7 rfl
    have h12 := e.2.2.2.2.2.1 1297 rfl
    rw [h2, h3, h7, h12]
    unfold mgH mkH
    rw [e.1]
    exact eqX_sIb (eqX_tRb (eqX_sRb (eqX_lk (eqX_nwb (eqX_sIb (eqX_sIb (eqX_sIb (eqX_sIb (eqX_sIb (eqX_sRb (eqX_sIb (eqX_sIb (eqX_sIb (eqX_sIb (eqX_nwb e _ _) _ _ _) _ _ _) _ _ _) _ _ _) _ _ _) _ _ _) _ _ _) _ _ _) _ _ _) _ _ _) _ _) _) _ _ _) _ _ _ _) _ _ _
  · rw [iF_n c, iF_n c]
    exact eqX_dr e _
theorem vi_tie (p : Nat) (kp : Nat → Prop) (v : Nat → Int32) (M : Nat → List Nat) (C : Nat → Nat) (n0 : Nat) (h : Hp) : ∀ j, eqX vcF vcK (viH g x m y p kp v M C n0 h j) (clH g x (g 1 p) kp v M n0 h j) := by
  intro j
  induction j with
  | zero => exact eqX.rf h
  | succ j ih => exact (eqX_sy rf_X).tr (clT_X ih _ _ _ _ _)
theorem JW.cc (e : ∀ k, isRq k = true → aI R k (m k) = aI V k (m k)) (e0 : fI R 1408 y = fI V 1408 y) (hW : JW y np na nm nr ne m V) : JW y np na nm nr ne m R := by
  unfold JW
  simp (config := {decide := true}) only [e, e0]
  exact hW
theorem vaF_c (e : ∀ k, isRq k = true → aI R k (m k) = aI V k (m k)) (e0 : fI R 1408 y = fI V 1408 y) (L : List Nat) (p k : Nat) : vaF R m y np na L p k = vaF V m y np na L p k := by
  funext i
  unfold vaF mgF mcN
  rw [e 121 rfl, e 120 rfl, e 124 rfl, e 132 rfl, e 139 rfl, e 135 rfl, e 127 rfl, e0]
/-- what a rule's fields hold for a group is the same after some turns -/
theorem vaF_V {p : Nat} {kp : Nat → Prop} {M : Nat → List Nat} {C : Nat → Nat} {N j : Nat} (hJ : JA x y b0 s0 np na nm nr ne g m h) (hV : VI x y b0 s0 np na nm nr ne g m p kp M C N h j V) {L : List Nat} (hL : ∀ i, i < L.length → L.getD i 0 < na) (k : Nat) : vaF V m y np (na + cN kp j) L p k = vaF h m y np na L p k := by
  obtain ⟨g1, hJ1, ga, gb, I1, I2, I3, I4, I5, I6, I7⟩ := hV
  funext i
  have e120 := I4 120 rfl (Or.inl (by decide))
  have e121 := I4 121 rfl (Or.inl (by decide))
  have e124 := I4 124 rfl (Or.inl (by decide))
  have e127 := I4 127 rfl (Or.inl (by decide))
  have hb : acI (fun i => hbA (aI V 120 (m 120)) (aI V 124 (m 124)) (aI V 132 (m 132)) (aI V 139 (m 139)) (na + cN kp j) (L.getD i 0)) L.length = acI (fun i => hbA (aI h 120 (m 120)) (aI h 124 (m 124)) (aI h 132 (m 132)) (aI h 139 (m 139)) na (L.getD i 0)) L.length := by
    apply acI_congr
    intro i hi
    have l := hL i hi
    rw [← hJ1.2.2.2.2.2.2.1.e_hb _ (show L.getD i 0 < na + cN kp j by omega), ← hJ.2.2.2.2.2.2.1.e_hb _ l, gb _ l]
    exact I6 _ l
  have mg : ∀ r, jvN (mgF V m L) L.length r = jvN (mgF h m L) L.length r := by
    intro r
    unfold jvN
    congr 1
    funext v
    refine propext ⟨fun w => JV.cg (fun i hi => ?_) w, fun w => JV.cg (fun i hi => ?_) w⟩
    · show mcN h m (L.getD i 0) = mcN V m (L.getD i 0)
      unfold mcN
      rw [I5 _ (hL i hi)]
    · show mcN V m (L.getD i 0) = mcN h m (L.getD i 0)
      unfold mcN
      rw [I5 _ (hL i hi)]
  unfold vaF
  rw [hb, mg, e120, e121, e124, e127, I7]
end TIE
