/-- what best leaves besides: its own rows -/
def isBf (f : Nat) : Bool := isSf f || f == 130 || f == 131 || f == 1482
def isBk (k : Nat) : Bool := isSk k || k == 100 || k == 101 || k == 168
def eqB (h h2 : Hp) : Prop := hn h2 = hn h ∧ hm h2 = hm h ∧ kd h2 = kd h ∧ ln h2 = ln h ∧ fR h2 = fR h ∧ (∀ f, isBf f = false → fI h2 f = fI h f) ∧ (∀ k, isBk k = false → aI h2 k = aI h k) ∧ (∀ k, k ≠ 311 → aL h2 k = aL h k) ∧ (∀ k, k ≠ 400 → aR h2 k = aR h k)
theorem eqB.rf (h : Hp) : eqB h h := ⟨rfl, rfl, rfl, rfl, rfl, fun _ _ => rfl, fun _ _ => rfl, fun _ _ => rfl, fun _ _ => rfl⟩
theorem eqB.tr {h h1 h2 : Hp} (a : eqB h h1) (b : eqB h1 h2) : eqB h h2 := by
  obtain ⟨a1, a2, a3, a4, a5, a6, a7, a8, a9⟩ := a
  obtain ⟨b1, b2, b3, b4, b5, b6, b7, b8, b9⟩ := b
  exact ⟨b1.trans a1, b2.trans a2, b3.trans a3, b4.trans a4, b5.trans a5, fun f q => (b6 f q).trans (a6 f q), fun f q => (b7 f q).trans (a7 f q), fun f q => (b8 f q).trans (a8 f q), fun f q => (b9 f q).trans (a9 f q)⟩
theorem eqS.b {h h1 : Hp} (e : eqS h h1) : eqB h h1 := by
  obtain ⟨e1, e2, e3, e4, e5, e6, e7, e8, e9⟩ := e
  refine ⟨e1, e2, e3, e4, e5, fun f q => e6 f ?_, fun k q => e7 k ?_, e8, e9⟩
  · unfold isBf at q
    cases c : isSf f
    · rfl
    · rw [c] at q
      simp at q
  · unfold isBk at q
    cases c : isSk k
    · rfl
    · rw [c] at q
      simp at q
theorem eqB.sI {h h1 : Hp} (a : eqB h h1) {f : Nat} (hf : isBf f = true) (b : Nat) (v : Int32) : eqB h (sI h1 f b v) := by
  refine a.tr ⟨rfl, rfl, rfl, rfl, rfl, fun f2 q => fI_sI_n _ _ _ _ _ (fun e => ?_), fun _ _ => rfl, fun _ _ => rfl, fun _ _ => rfl⟩
  rw [e, hf] at q
  cases q
theorem eqB.tI {h h1 : Hp} (a : eqB h h1) {k : Nat} (hk : isBk k = true) (b j : Nat) (v : Int32) : eqB h (tI h1 k b j v) := by
  refine a.tr ⟨rfl, rfl, rfl, rfl, rfl, fun _ _ => rfl, fun k2 q => aI_tI_n _ _ _ _ _ _ (fun e => ?_), fun _ _ => rfl, fun _ _ => rfl⟩
  rw [e, hk] at q
  cases q
theorem eqB_l {h h1 : Hp} (e : eqB h h1) : kd h1 = kd h ∧ ln h1 = ln h ∧ fR h1 = fR h ∧ hn h1 = hn h ∧ fI h1 0 = fI h 0 ∧ fI h1 2 = fI h 2 ∧ fI h1 3 = fI h 3 ∧ fI h1 4 = fI h 4 ∧ fI h1 5 = fI h 5 ∧ fI h1 6 = fI h 6 ∧ fI h1 7 = fI h 7 ∧ fI h1 11 = fI h 11 ∧ fI h1 12 = fI h 12 ∧ fI h1 13 = fI h 13 ∧ fI h1 14 = fI h 14 ∧ fI h1 17 = fI h 17 ∧ fI h1 18 = fI h 18 ∧ fI h1 640 = fI h 640 ∧ fI h1 641 = fI h 641 ∧ fI h1 643 = fI h 643 ∧ fI h1 644 = fI h 644 ∧ fI h1 646 = fI h 646 ∧ fI h1 647 = fI h 647 ∧ fI h1 648 = fI h 648 ∧ fI h1 649 = fI h 649 ∧ fI h1 1153 = fI h 1153 ∧ fI h1 1154 = fI h 1154 ∧ fI h1 384 = fI h 384 ∧ fI h1 385 = fI h 385 ∧ fI h1 387 = fI h 387 ∧ fI h1 896 = fI h 896 ∧ fI h1 897 = fI h 897 ∧ fI h1 898 = fI h 898 ∧ fI h1 900 = fI h 900 ∧ fI h1 512 = fI h 512 ∧ fI h1 514 = fI h 514 ∧ fI h1 1292 = fI h 1292 ∧ fI h1 1293 = fI h 1293 ∧ fI h1 1294 = fI h 1294 ∧ fI h1 1295 = fI h 1295 ∧ fI h1 1296 = fI h 1296 ∧ fI h1 1297 = fI h 1297 ∧ fI h1 1298 = fI h 1298 ∧ fI h1 1408 = fI h 1408 ∧ fI h1 1409 = fI h 1409 ∧ fI h1 1410 = fI h 1410 ∧ fI h1 1411 = fI h 1411 ∧ fI h1 1412 = fI h 1412 ∧ fI h1 1413 = fI h 1413 ∧ fI h1 1414 = fI h 1414 ∧ aI h1 104 = aI h 104 ∧ aI h1 105 = aI h 105 ∧ aI h1 110 = aI h 110 ∧ aI h1 120 = aI h 120 ∧ aI h1 121 = aI h 121 ∧ aI h1 122 = aI h 122 ∧ aI h1 123 = aI h 123 ∧ aI h1 124 = aI h 124 ∧ aI h1 125 = aI h 125 ∧ aI h1 126 = aI h 126 ∧ aI h1 127 = aI h 127 ∧ aI h1 128 = aI h 128 ∧ aI h1 129 = aI h 129 ∧ aI h1 130 = aI h 130 ∧ aI h1 131 = aI h 131 ∧ aI h1 132 = aI h 132 ∧ aI h1 133 = aI h 133 ∧ aI h1 134 = aI h 134 ∧ aI h1 135 = aI h 135 ∧ aI h1 136 = aI h 136 ∧ aI h1 137 = aI h 137 ∧ aI h1 138 = aI h 138 ∧ aI h1 139 = aI h 139 ∧ aI h1 140 = aI h 140 ∧ aI h1 141 = aI h 141 ∧ aI h1 142 = aI h 142 ∧ aI h1 143 = aI h 143 ∧ aI h1 144 = aI h 144 ∧ aI h1 145 = aI h 145 ∧ aI h1 146 = aI h 146 ∧ aI h1 147 = aI h 147 ∧ aI h1 148 = aI h 148 ∧ aI h1 149 = aI h 149 ∧ aI h1 150 = aI h 150 ∧ aI h1 151 = aI h 151 ∧ aI h1 152 = aI h 152 ∧ aI h1 153 = aI h 153 ∧ aI h1 154 = aI h 154 ∧ aI h1 155 = aI h 155 ∧ aI h1 156 = aI h 156 ∧ aI h1 157 = aI h 157 ∧ aI h1 158 = aI h 158 ∧ aI h1 159 = aI h 159 ∧ aI h1 160 = aI h 160 ∧ aI h1 161 = aI h 161 ∧ aI h1 200 = aI h 200 ∧ aI h1 201 = aI h 201 ∧ aI h1 202 = aI h 202 ∧ aI h1 203 = aI h 203 ∧ aI h1 204 = aI h 204 ∧ aL h1 300 = aL h 300 ∧ aL h1 310 = aL h 310 ∧ aL h1 312 = aL h 312 ∧ aL h1 313 = aL h 313 ∧ aL h1 399 = aL h 399 ∧ aR h1 405 = aR h 405 ∧ aR h1 409 = aR h 409 ∧ aR h1 440 = aR h 440 ∧ aR h1 403 = aR h 403 ∧ aR h1 407 = aR h 407 ∧ aR h1 404 = aR h 404 ∧ aR h1 420 = aR h 420 := by
  obtain ⟨e1, e2, e3, e4, e5, e6, e7, e8, e9⟩ := e
  exact ⟨e3, e4, e5, e1, e6 0 rfl, e6 2 rfl, e6 3 rfl, e6 4 rfl, e6 5 rfl, e6 6 rfl, e6 7 rfl, e6 11 rfl, e6 12 rfl, e6 13 rfl, e6 14 rfl, e6 17 rfl, e6 18 rfl, e6 640 rfl, e6 641 rfl, e6 643 rfl, e6 644 rfl, e6 646 rfl, e6 647 rfl, e6 648 rfl, e6 649 rfl, e6 1153 rfl, e6 1154 rfl, e6 384 rfl, e6 385 rfl, e6 387 rfl, e6 896 rfl, e6 897 rfl, e6 898 rfl, e6 900 rfl, e6 512 rfl, e6 514 rfl, e6 1292 rfl, e6 1293 rfl, e6 1294 rfl, e6 1295 rfl, e6 1296 rfl, e6 1297 rfl, e6 1298 rfl, e6 1408 rfl, e6 1409 rfl, e6 1410 rfl, e6 1411 rfl, e6 1412 rfl, e6 1413 rfl, e6 1414 rfl, e7 104 rfl, e7 105 rfl, e7 110 rfl, e7 120 rfl, e7 121 rfl, e7 122 rfl, e7 123 rfl, e7 124 rfl, e7 125 rfl, e7 126 rfl, e7 127 rfl, e7 128 rfl, e7 129 rfl, e7 130 rfl, e7 131 rfl, e7 132 rfl, e7 133 rfl, e7 134 rfl, e7 135 rfl, e7 136 rfl, e7 137 rfl, e7 138 rfl, e7 139 rfl, e7 140 rfl, e7 141 rfl, e7 142 rfl, e7 143 rfl, e7 144 rfl, e7 145 rfl, e7 146 rfl, e7 147 rfl, e7 148 rfl, e7 149 rfl, e7 150 rfl, e7 151 rfl, e7 152 rfl, e7 153 rfl, e7 154 rfl, e7 155 rfl, e7 156 rfl, e7 157 rfl, e7 158 rfl, e7 159 rfl, e7 160 rfl, e7 161 rfl, e7 200 rfl, e7 201 rfl, e7 202 rfl, e7 203 rfl, e7 204 rfl, e8 300 (by decide), e8 310 (by decide), e8 312 (by decide), e8 313 (by decide), e8 399 (by decide), e9 405 (by decide), e9 409 (by decide), e9 440 (by decide), e9 403 (by decide), e9 407 (by decide), e9 404 (by decide), e9 420 (by decide)⟩
section EQB
variable {x y b0 s0 np na nm nr ne : Nat} {g : Nat → Nat → Nat} {m : Nat → Nat} {h h2 : Hp}
theorem JA.best (hJ : JA x y b0 s0 np na nm nr ne g m h) (e : eqB h h2) (bs : (fI h2 1482 y = -1 ∧ fI h2 130 (g 0 11) = 0) ∨ ∃ n, n ≤ 10 ∧ fI h2 1482 y = nI n ∧ fI h2 130 (g 0 11) = nI n) (bb : ∀ i n, fI h2 130 (g 0 11) = nI n → n ≤ 10 → i < n → (aI h2 168 (m 168)) i = iF (tb (fI h2 131 (g 0 11)) i) (aI h2 101 (g 0 21) i) 0) : JA x y b0 s0 np na nm nr ne g m h2 := by
  obtain ⟨e1, e2, e3, e4, e5, e6, e7, e8, e9⟩ := e
  obtain ⟨q1, q2, q3, q4, q5, q6, q7, q8⟩ := hJ
  have k7 : JE y np na nm nr ne g m h2 := by
    unfold JE at q7 ⊢
    obtain ⟨r1, r2, r3, r4, r5, r6, r7, -, -⟩ := q7
    refine ⟨?_, ?_, ?_, ?_, ?_, ?_, ?_, bs, bb⟩
    all_goals
      simp (config := {decide := true}) only [e3, e4, e5, e6, e7, e8, e9]
    · exact r1
    · exact r2
    · exact r3
    · exact r4
    · exact r5
    · exact r6
    · exact r7
  refine ⟨?_, ?_, ?_, ?_, ?_, ?_, k7, ?_⟩
  · unfold JM at q1 ⊢
    rw [e3, e4, e5]
    exact q1
  · unfold JS at q2 ⊢
    rw [e3, e4, e5]
    exact q2
  · unfold JC at q3 ⊢
    simp (config := {decide := true}) only [e6]
    exact q3
  · unfold JG at q4 ⊢
    rw [e3, e4, e5]
    simp (config := {decide := true}) only [e6, e7, e8, e9]
    exact q4
  · unfold JD at q5 ⊢
    rw [e3, e4, e5]
    simp (config := {decide := true}) only [e6, e7, e8, e9]
    exact q5
  · unfold JW at q6 ⊢
    simp (config := {decide := true}) only [e6, e7]
    exact q6
  · unfold JR at q8 ⊢
    rw [e1, e2, e3]
    exact q8
theorem RJ.ofB {y np na nm nr ne : Nat} {m : Nat → Nat} {h h1 : Hp} (hR : RJ y np na nm nr ne m h) (e : eqB h h1) : RJ y np na nm nr ne m h1 := by
  obtain ⟨hM, hC, hB, hW⟩ := hR
  have hA := hM
  unfold JM at hA
  have E := eqB_l e
  refine ⟨?_, ?_, hB, ?_⟩
  · unfold JM
    simp only [E, hA, and_self]
  · simp only [E]
    exact hC
  · unfold JW at hW ⊢
    simp only [E]
    exact hW
/-- the class's half, as far as the groups look into it -/
def CB (x na : Nat) (g : Nat → Nat → Nat) (m : Nat → Nat) (h : Hp) : Prop := JS x g h ∧ (∀ k, k < na → kd h (g 3 k) = 1 ∧ fI h 2 (g 3 k) = aI h 133 (m 133) k ∧ fI h 3 (g 3 k) = aI h 134 (m 134) k ∧ fI h 4 (g 3 k) = aI h 135 (m 135) k ∧ fI h 7 (g 3 k) = hbA (aI h 120 (m 120)) (aI h 124 (m 124)) (aI h 132 (m 132)) (aI h 139 (m 139)) na k) ∧ (∀ k, k < na → 0 ≤ (aI h 135 (m 135) k).toInt ∧ (aI h 135 (m 135) k).toInt ≤ 99) ∧ (∀ a b, a < 16 → b < 16 → (tb (aI h 105 (g 0 17) a) b ↔ aI h 204 (m 204) (16 * a + b) = 1)) ∧ (∀ a b, a < 16 → b < 16 → aI h 204 (m 204) (16 * a + b) = aI h 204 (m 204) (16 * b + a)) ∧ ∀ k, k < na → vp_in (aI h 133 (m 133) k) 16
theorem JA.cb (hJ : JA x y b0 s0 np na nm nr ne g m h) : CB x na g m h := by
  refine ⟨hJ.2.1, fun k hk => ?_, hJ.2.2.2.2.2.1.w_muc, hJ.2.2.2.2.1.d_cla, hJ.2.2.2.2.2.1.w_csy, hJ.2.2.2.2.2.1.w_wha⟩
  have b := asF hJ hk
  exact ⟨b.2.1, b.2.2.2.2.1, b.2.2.2.2.2.1, b.2.2.2.2.2.2.1, hJ.2.2.2.2.2.2.1.e_hb k hk⟩
theorem CB.of (hC : CB x na g m h) (e : eqB h h2) : CB x na g m h2 := by
  have E := eqB_l e
  unfold CB JS at hC ⊢
  simp only [E]
  exact hC
end EQB
